section
-- ===== PART A: goes FIRST, ahead of the names: the tables' words, and 'selects' of the private methods out of them =====
/-- a private method of a class that the tables say can be made, by its rows of tables_1 -/
def lw_okq (q : MethodName × Nat) : Prop := (q.1.cls ≠ "java/lang/invoke/MethodHandle" ∧ q.1.cls ≠ "java/lang/invoke/VarHandle") ∧ Cond.instantiable q.1.cls q.2 ∈ tables_1 ∧ Cond.privateMethod q.1 ∈ tables_1 ∧ Cond.instanceMethod q.1 ∈ tables_1
theorem lw_p0 : lw_okq (⟨"CrashDesk", "reckon", "(II)V"⟩, 8) := ⟨⟨by decide +kernel, by decide +kernel⟩, List.mem_of_getElem? (i := 18) (by decide +kernel), List.mem_of_getElem? (i := 223) (by decide +kernel), List.mem_of_getElem? (i := 224) (by decide +kernel)⟩
theorem lw_p1 : lw_okq (⟨"CrashDesk$Car", "isTakenBehind", "(I)Z"⟩, 10) := ⟨⟨by decide +kernel, by decide +kernel⟩, List.mem_of_getElem? (i := 36) (by decide +kernel), List.mem_of_getElem? (i := 274) (by decide +kernel), List.mem_of_getElem? (i := 275) (by decide +kernel)⟩
theorem lw_p2 : lw_okq (⟨"CrashDesk$Car", "joinFirsts", "(I)V"⟩, 10) := ⟨⟨by decide +kernel, by decide +kernel⟩, List.mem_of_getElem? (i := 36) (by decide +kernel), List.mem_of_getElem? (i := 280) (by decide +kernel), List.mem_of_getElem? (i := 281) (by decide +kernel)⟩
theorem lw_p3 : lw_okq (⟨"CrashDesk$Car", "isTakenAhead", "(II)Z"⟩, 10) := ⟨⟨by decide +kernel, by decide +kernel⟩, List.mem_of_getElem? (i := 36) (by decide +kernel), List.mem_of_getElem? (i := 287) (by decide +kernel), List.mem_of_getElem? (i := 288) (by decide +kernel)⟩
theorem lw_p4 : lw_okq (⟨"CrashDesk$Meeting", "pushFrom", "(I)V"⟩, 6) := ⟨⟨by decide +kernel, by decide +kernel⟩, List.mem_of_getElem? (i := 30) (by decide +kernel), List.mem_of_getElem? (i := 306) (by decide +kernel), List.mem_of_getElem? (i := 307) (by decide +kernel)⟩
theorem lw_p5 : lw_okq (⟨"CrashDesk$Meeting", "meet", "(II)V"⟩, 6) := ⟨⟨by decide +kernel, by decide +kernel⟩, List.mem_of_getElem? (i := 30) (by decide +kernel), List.mem_of_getElem? (i := 310) (by decide +kernel), List.mem_of_getElem? (i := 311) (by decide +kernel)⟩
theorem lw_p6 : lw_okq (⟨"CrashDesk", "allTales", "()I"⟩, 8) := ⟨⟨by decide +kernel, by decide +kernel⟩, List.mem_of_getElem? (i := 18) (by decide +kernel), List.mem_of_getElem? (i := 341) (by decide +kernel), List.mem_of_getElem? (i := 342) (by decide +kernel)⟩
theorem lw_p7 : lw_okq (⟨"CrashDesk", "countingSkids", "()I"⟩, 8) := ⟨⟨by decide +kernel, by decide +kernel⟩, List.mem_of_getElem? (i := 18) (by decide +kernel), List.mem_of_getElem? (i := 361) (by decide +kernel), List.mem_of_getElem? (i := 362) (by decide +kernel)⟩
theorem lw_p8 : lw_okq (⟨"CrashDesk", "carOf", "(I)LCrashDesk$Car;"⟩, 8) := ⟨⟨by decide +kernel, by decide +kernel⟩, List.mem_of_getElem? (i := 18) (by decide +kernel), List.mem_of_getElem? (i := 374) (by decide +kernel), List.mem_of_getElem? (i := 375) (by decide +kernel)⟩
theorem lw_p9 : lw_okq (⟨"java/lang/Throwable", "fillInStackTrace", "(I)Ljava/lang/Throwable;"⟩, 6) := ⟨⟨by decide +kernel, by decide +kernel⟩, List.mem_of_getElem? (i := 420) (by decide +kernel), List.mem_of_getElem? (i := 418) (by decide +kernel), List.mem_of_getElem? (i := 419) (by decide +kernel)⟩
theorem lw_p10 : lw_okq (⟨"CrashDesk", "skidOf", "(I)LCrashDesk$Skid;"⟩, 8) := ⟨⟨by decide +kernel, by decide +kernel⟩, List.mem_of_getElem? (i := 18) (by decide +kernel), List.mem_of_getElem? (i := 504) (by decide +kernel), List.mem_of_getElem? (i := 505) (by decide +kernel)⟩
theorem lw_p11 : lw_okq (⟨"CrashDesk", "speedOf", "(II)LCrashDesk$Speed;"⟩, 8) := ⟨⟨by decide +kernel, by decide +kernel⟩, List.mem_of_getElem? (i := 18) (by decide +kernel), List.mem_of_getElem? (i := 516) (by decide +kernel), List.mem_of_getElem? (i := 517) (by decide +kernel)⟩
theorem lw_p12 : lw_okq (⟨"CrashDesk", "testWay", "()V"⟩, 8) := ⟨⟨by decide +kernel, by decide +kernel⟩, List.mem_of_getElem? (i := 18) (by decide +kernel), List.mem_of_getElem? (i := 540) (by decide +kernel), List.mem_of_getElem? (i := 541) (by decide +kernel)⟩
theorem lw_p13 : lw_okq (⟨"CrashDeskModel", "throwsIf", "(ZI)Z"⟩, 23) := ⟨⟨by decide +kernel, by decide +kernel⟩, List.mem_of_getElem? (i := 592) (by decide +kernel), List.mem_of_getElem? (i := 683) (by decide +kernel), List.mem_of_getElem? (i := 684) (by decide +kernel)⟩
theorem lw_p14 : lw_okq (⟨"CrashDeskModel", "goes", "(II)Z"⟩, 23) := ⟨⟨by decide +kernel, by decide +kernel⟩, List.mem_of_getElem? (i := 592) (by decide +kernel), List.mem_of_getElem? (i := 717) (by decide +kernel), List.mem_of_getElem? (i := 718) (by decide +kernel)⟩
theorem lw_p15 : lw_okq (⟨"CrashDeskModel", "lets", "(I)V"⟩, 23) := ⟨⟨by decide +kernel, by decide +kernel⟩, List.mem_of_getElem? (i := 592) (by decide +kernel), List.mem_of_getElem? (i := 721) (by decide +kernel), List.mem_of_getElem? (i := 722) (by decide +kernel)⟩
def lw_privs_1 : List (MethodName × Nat) := [(⟨"CrashDesk", "reckon", "(II)V"⟩, 8), (⟨"CrashDesk$Car", "isTakenBehind", "(I)Z"⟩, 10), (⟨"CrashDesk$Car", "joinFirsts", "(I)V"⟩, 10), (⟨"CrashDesk$Car", "isTakenAhead", "(II)Z"⟩, 10), (⟨"CrashDesk$Meeting", "pushFrom", "(I)V"⟩, 6), (⟨"CrashDesk$Meeting", "meet", "(II)V"⟩, 6), (⟨"CrashDesk", "allTales", "()I"⟩, 8), (⟨"CrashDesk", "countingSkids", "()I"⟩, 8), (⟨"CrashDesk", "carOf", "(I)LCrashDesk$Car;"⟩, 8), (⟨"java/lang/Throwable", "fillInStackTrace", "(I)Ljava/lang/Throwable;"⟩, 6), (⟨"CrashDesk", "skidOf", "(I)LCrashDesk$Skid;"⟩, 8), (⟨"CrashDesk", "speedOf", "(II)LCrashDesk$Speed;"⟩, 8), (⟨"CrashDesk", "testWay", "()V"⟩, 8), (⟨"CrashDeskModel", "throwsIf", "(ZI)Z"⟩, 23), (⟨"CrashDeskModel", "goes", "(II)Z"⟩, 23), (⟨"CrashDeskModel", "lets", "(I)V"⟩, 23)]
theorem lw_r1 : ∀ q ∈ lw_privs_1, lw_okq q := List.forall_mem_cons.mpr ⟨lw_p0, List.forall_mem_cons.mpr ⟨lw_p1, List.forall_mem_cons.mpr ⟨lw_p2, List.forall_mem_cons.mpr ⟨lw_p3, List.forall_mem_cons.mpr ⟨lw_p4, List.forall_mem_cons.mpr ⟨lw_p5, List.forall_mem_cons.mpr ⟨lw_p6, List.forall_mem_cons.mpr ⟨lw_p7, List.forall_mem_cons.mpr ⟨lw_p8, List.forall_mem_cons.mpr ⟨lw_p9, List.forall_mem_cons.mpr ⟨lw_p10, List.forall_mem_cons.mpr ⟨lw_p11, List.forall_mem_cons.mpr ⟨lw_p12, List.forall_mem_cons.mpr ⟨lw_p13, List.forall_mem_cons.mpr ⟨lw_p14, List.forall_mem_cons.mpr ⟨lw_p15, fun _ h => absurd h List.not_mem_nil⟩⟩⟩⟩⟩⟩⟩⟩⟩⟩⟩⟩⟩⟩⟩⟩
theorem lw_p16 : lw_okq (⟨"CrashDeskModel", "falses", "(II)I"⟩, 23) := ⟨⟨by decide +kernel, by decide +kernel⟩, List.mem_of_getElem? (i := 592) (by decide +kernel), List.mem_of_getElem? (i := 728) (by decide +kernel), List.mem_of_getElem? (i := 729) (by decide +kernel)⟩
theorem lw_p17 : lw_okq (⟨"CrashDeskModel", "counts", "(I)V"⟩, 23) := ⟨⟨by decide +kernel, by decide +kernel⟩, List.mem_of_getElem? (i := 592) (by decide +kernel), List.mem_of_getElem? (i := 732) (by decide +kernel), List.mem_of_getElem? (i := 733) (by decide +kernel)⟩
theorem lw_p18 : lw_okq (⟨"CrashDeskModel", "isFirst", "(IIII)Z"⟩, 23) := ⟨⟨by decide +kernel, by decide +kernel⟩, List.mem_of_getElem? (i := 592) (by decide +kernel), List.mem_of_getElem? (i := 736) (by decide +kernel), List.mem_of_getElem? (i := 737) (by decide +kernel)⟩
theorem lw_p19 : lw_okq (⟨"CrashDeskModel", "takes", "(IZII)Z"⟩, 23) := ⟨⟨by decide +kernel, by decide +kernel⟩, List.mem_of_getElem? (i := 592) (by decide +kernel), List.mem_of_getElem? (i := 740) (by decide +kernel), List.mem_of_getElem? (i := 741) (by decide +kernel)⟩
theorem lw_p20 : lw_okq (⟨"CrashDeskModel", "masks", "(III)V"⟩, 23) := ⟨⟨by decide +kernel, by decide +kernel⟩, List.mem_of_getElem? (i := 592) (by decide +kernel), List.mem_of_getElem? (i := 744) (by decide +kernel), List.mem_of_getElem? (i := 745) (by decide +kernel)⟩
theorem lw_p21 : lw_okq (⟨"CrashDeskModel", "all", "()I"⟩, 23) := ⟨⟨by decide +kernel, by decide +kernel⟩, List.mem_of_getElem? (i := 592) (by decide +kernel), List.mem_of_getElem? (i := 752) (by decide +kernel), List.mem_of_getElem? (i := 753) (by decide +kernel)⟩
theorem lw_p22 : lw_okq (⟨"CrashDeskModel", "fewest", "()I"⟩, 23) := ⟨⟨by decide +kernel, by decide +kernel⟩, List.mem_of_getElem? (i := 592) (by decide +kernel), List.mem_of_getElem? (i := 764) (by decide +kernel), List.mem_of_getElem? (i := 765) (by decide +kernel)⟩
theorem lw_p23 : lw_okq (⟨"CrashDeskModel", "makes", "()V"⟩, 23) := ⟨⟨by decide +kernel, by decide +kernel⟩, List.mem_of_getElem? (i := 592) (by decide +kernel), List.mem_of_getElem? (i := 768) (by decide +kernel), List.mem_of_getElem? (i := 769) (by decide +kernel)⟩
def lw_privs_2 : List (MethodName × Nat) := [(⟨"CrashDeskModel", "falses", "(II)I"⟩, 23), (⟨"CrashDeskModel", "counts", "(I)V"⟩, 23), (⟨"CrashDeskModel", "isFirst", "(IIII)Z"⟩, 23), (⟨"CrashDeskModel", "takes", "(IZII)Z"⟩, 23), (⟨"CrashDeskModel", "masks", "(III)V"⟩, 23), (⟨"CrashDeskModel", "all", "()I"⟩, 23), (⟨"CrashDeskModel", "fewest", "()I"⟩, 23), (⟨"CrashDeskModel", "makes", "()V"⟩, 23)]
theorem lw_r2 : ∀ q ∈ lw_privs_2, lw_okq q := List.forall_mem_cons.mpr ⟨lw_p16, List.forall_mem_cons.mpr ⟨lw_p17, List.forall_mem_cons.mpr ⟨lw_p18, List.forall_mem_cons.mpr ⟨lw_p19, List.forall_mem_cons.mpr ⟨lw_p20, List.forall_mem_cons.mpr ⟨lw_p21, List.forall_mem_cons.mpr ⟨lw_p22, List.forall_mem_cons.mpr ⟨lw_p23, fun _ h => absurd h List.not_mem_nil⟩⟩⟩⟩⟩⟩⟩⟩
def lw_privs : List (MethodName × Nat) := lw_privs_1 ++ (lw_privs_2)
def lw_tbl : List Cond := k2_sels lw_privs ++ tables_1
theorem lw_privs_ok : ∀ q ∈ lw_privs, lw_okq q := by
  show ∀ q ∈ lw_privs_1 ++ (lw_privs_2), lw_okq q
  exact List.forall_mem_append.mpr ⟨lw_r1, lw_r2⟩
end
section
/-! ===== BEGIN words of one list among another's, by their places ===== -/
theorem goodIn_r {big : List Cond} (ws : List Cond) (ps : List Nat) (hp : ws = ps.filterMap (fun i => big[i]?)) (h : ws.all goodWord = true) : GoodIn big ws := by
  intro w hw
  have h1 := List.all_eq_true.mp h w hw
  rw [hp] at hw
  obtain ⟨i, -, hi⟩ := List.mem_filterMap.mp hw
  have hm : w ∈ big := by first | exact List.mem_of_getElem? hi | exact List.getElem?_mem hi
  exact ⟨hm, good_of_word h1⟩
theorem goodIn_app {big a b : List Cond} (ha : GoodIn big a) (hb : GoodIn big b) : GoodIn big (a ++ b) := fun w h => (List.mem_append.mp h).elim (ha w) (hb w)
theorem goodIn_ca {big a b : List Cond} {c : Cond} (ha : GoodIn big (c :: a)) (hb : GoodIn big b) : GoodIn big (c :: (a ++ b)) := fun w h => (List.mem_cons.mp h).elim (fun e => ha w (List.mem_cons.mpr (Or.inl e))) (fun h => (List.mem_append.mp h).elim (fun h => ha w (List.mem_cons.mpr (Or.inr h))) (hb w))
theorem goodIn_sub {big ws : List Cond} (hm : ∀ w ∈ ws, w ∈ big) (h : ws.all goodWord = true) : GoodIn big ws := fun w hw => ⟨hm w hw, good_of_word (List.all_eq_true.mp h w hw)⟩
/-! ===== END ===== -/

/-! ===== BEGIN exceptions that leave a method, and their catching by the caller (launches without stack traces) ===== -/
section VXA
/-! The laws vx_back, vx_callV, vx_callS, vx_callSW, vx_throw0, vx_throwS follow proofs of the library, with one case more: JvmDerived/Free/Laws.lean (Back.of_free), Shelf42/LK1.lean (callV, callS), Shelf/KitTraced.lean (throwNew0V, throwNewS). -/
/-- where a method has thrown q: the class by its name, the cell, what was written, the world -/
def vx_T (XC : String → State → State → Prop) (st : State) (q : Addr) (t : State) (mc ms : Nat) (free : Addr → Prop) : Prop :=
  ∃ (E : String) (ce : Cell) (L : List Loc), XC E st t ∧ t.heap[q]? = some ce ∧ ce.vm = .none ∧ st.vm.findClass E = some ce.cls ∧ st.WarmedH t.vm ∧ st.sameButNew ({ t with vm := st.vm } : State) L mc ms ∧ ∀ z ∈ L, free z.base
def vx_Q (Qc : Array Value → State → Outcome → State → Prop) (XC : String → State → State → Prop) (mc ms : Nat) (free : Addr → Prop) : Array Value → State → Outcome → State → Prop := fun a st o t =>
  (Qc a st o t ∧ ∃ L, FrameEnd st o t L mc ms ∧ ∀ q ∈ L, free q.base) ∨ ∃ q, o = .threw q ∧ vx_T XC st q t mc ms free
/-- a callee that returns or throws -/
def vx_Met (l : Launch) (y : MethodName) (ws : List Cond) (rm : Room) (Pc : Array Value → State → Prop) (Qc : Array Value → State → Outcome → State → Prop) (XC : String → State → State → Prop) (mc ms : Nat) (free : Addr → Prop) : Prop :=
  MetFree l y (headSpec ws rm) Pc (fun _ _ _ _ _ => True) (vx_Q Qc XC mc ms free)
def vx_Post (XC : String → State → State → Prop) (mc ms : Nat) (free : Addr → Prop) : Pt → Array Value → Addr → Pt → Prop := fun A a q B =>
  ∃ (g : JFrame) (mk : MethodId) (t : State) (L : List Loc) (E : String) (ce : Cell), B.U.heap = t.heap ∧ B.U.vm = t.vm ∧ XC E (A.U.calling g mk a) t ∧ t.heap[q]? = some ce ∧ ce.vm = .none ∧ A.U.vm.findClass E = some ce.cls ∧ B.locs = A.locs ++ L ∧ (∀ z ∈ L, free z.base) ∧ B.cells = A.cells + mc ∧ B.slots = A.slots + ms
def vx_Back (l : Launch) (R : Room) (p : Program) (e : Env) (below : List Frame) (s : State) (sargs : Array Value) (y : MethodName) (len W9 : Nat)
    (Pre : Pt → Array Value → Prop) (Post : Pt → Array Value → Option Value → Pt → Prop) (PostX : Pt → Array Value → Addr → Pt → Prop) : Prop :=
  ∀ (m : MethodId) (meth : Method) (c : Code) (A : Pt) (g : JFrame) (ig : Instr) (mk : MethodId) (a : Array Value),
    Stand p l e R s m sargs below meth c A.U A.locs A.cells A.slots → g.method = m → g.locals.size = c.maxLocals → decode c.code g.pc = .ok (ig, len) →
    2 * g.monitorRoom + (g.stack.map fun v => v.category).sum ≤ W9 → A.U.methodNamed? y = some mk → Pre A a →
    (∃ (v : Option Value) (B : Pt), Stand p l e R s m sargs below meth c B.U B.locs B.cells B.slots ∧ Post A a v B ∧
      Steps p.tables e below (doInvoke e (A.U.setTop g) [] mk a).1 (B.U.setTop { g with pc := g.pc + len, stack := v.toList ++ g.stack })) ∨
    (∃ (q : Addr) (B : Pt), Stand p l e R s m sargs below meth c B.U B.locs B.cells B.slots ∧ PostX A a q B ∧
      Steps p.tables e below (doInvoke e (A.U.setTop g) [] mk a).1 ((B.U.setTop g).pushFrame (.throwing q)))
section Payer
variable {l : Launch} {R : Room} {p : Program} {e : Env} {below : List Frame} {s : State} {sargs : Array Value} {y : MethodName} {len W9 : Nat}
theorem vx_back {ws : List Cond} {rm : Room} {Pc : Array Value → State → Prop} {Qc : Array Value → State → Outcome → State → Prop} {XC : String → State → State → Prop} {mc ms : Nat} {free : Addr → Prop} {bytes : ByteArray} {maxL : Nat} {ret : Option FieldType}
    (hM : vx_Met l y ws rm Pc Qc XC mc ms free) (hblind : FrameBlind Pc) (hrc : rm.cells = mc) (hrs : rm.slots = ms)
    (hframes : rm.frames + 1 ≤ R.frames) (hlocals : W9 + (maxL + 11) + rm.locals ≤ R.locals)
    (hws : ∀ w ∈ ws, ∀ a' U, s.WarmedH U.vm → w.before a' U = true) (hcode : Cond.code y bytes maxL ret ∈ ws) (hinit : ∀ a' U, s.WarmedH U.vm → (Cond.initialized y.cls).before a' U = true) :
    vx_Back l R p e below s sargs y len W9 (PreOf R mc ms Pc) (PostOf Qc mc ms free) (vx_Post XC mc ms free) := by
  intro m meth c A g ig mk a X hg hsize hdg hW hn hp
  have h1 : (headSpec ws rm).pre.before a A.U = true := atoms_intro fun w hw => hws w hw _ _ X.warmed
  have h2 : (Cond.code y bytes maxL ret).before a A.U = true := hws _ hcode _ _ X.warmed
  have h3 : (Cond.initialized y.cls).before a A.U = true := hinit _ _ X.warmed
  have h4 : A.cells + (headSpec ws rm).room.cells ≤ R.cells := by rw [show (headSpec ws rm).room.cells = mc from hrc]; exact hp.1
  have h5 : A.slots + (headSpec ws rm).room.slots ≤ R.slots := by rw [show (headSpec ws rm).room.slots = ms from hrs]; exact hp.2.1
  have hPc : Pc a (A.U.calling g mk a) := hblind _ _ _ _ hp.2.2
  obtain ⟨U, Ls, c0, s0⟩ := A
  dsimp only [Pt.U, Pt.locs, Pt.cells, Pt.slots] at h1 h2 h3 h4 h5 X hn hPc ⊢
  obtain ⟨methY, cY, hmY, hcY, -, hlY, -, -, -, -⟩ := Cond.code_spec hn h2
  obtain ⟨kY, hkY, -⟩ := className_of_methodNamed hn
  have hinitY : kY.init = .initialized := Cond.initialized_spec (findClass_of_methodNamed hn) hkY h3
  have h : At U g.method c below := by rw [hg]; exact X.here
  have hlocals9 : W9 + (maxL + 11) + (headSpec ws rm).room.locals ≤ R.locals := hlocals
  have happ : (headSpec ws rm).appliesLoose y e.platform (U.calling g mk a) = true :=
    Spec.appliesLoose_calling (g := g) h hdg hn hkY hinitY
      (X.room_calling (g := g) (R' := (headSpec ws rm).room) hsize hmY hcY hframes (by rw [hlY]; omega) h4 h5) h1
  obtain ⟨mid, hmid⟩ := h.above
  have hfr : (U.setTop g).frames = (.java g :: mid) ++ below := by rw [State.frames_setTop' g h.top, hmid]; rfl
  obtain ⟨o, s₂, hsteps, -, hend, hq⟩ := Steps.callFree hM p X.admits X.cas X.clock (acts := []) hfr happ hPc trivial
  have hq' : vx_Q Qc XC mc ms free a (U.calling g mk a) o s₂ := hq
  rw [State.frames_setTop' g h.top] at hend
  obtain ⟨g₀, hg0⟩ := Option.isSome_iff_exists.mp h.top
  obtain ⟨r, hr⟩ := State.topJava?_eq_some.mp hg0
  have hr' : (({ U with heap := s₂.heap, slotsUsed := s₂.slotsUsed } : State).setVm s₂.vm).frames = .java g₀ :: r := hr
  rcases hq' with ⟨hqc, L, hfe, hL⟩ | ⟨q, rfl, E, ce, L, hx, hce, hcv, hcl, hW₂, hsm, hL⟩
  · obtain ⟨⟨v, rfl⟩, hW₂, e2, q2, q3, q4, q5, q6⟩ := id hfe
    have e3 : s₂ = ({ (U.calling g mk a).setFrames s₂.frames with heap := s₂.heap, slotsUsed := s₂.slotsUsed } : State).setVm s₂.vm := by
      have : s₂ = ({ s₂ with vm := (U.calling g mk a).vm } : State).setVm s₂.vm := rfl
      rw [e2] at this
      exact this
    obtain ⟨c₂, i₂, len₂, hc₂, hd₂, hf₂⟩ := hend
    have hW' : U.WarmedH s₂.vm := hW₂
    have hcc : c₂ = c := by
      have h1 : s₂.code? g.method = U.code? g.method := by
        rw [State.code?_eq, State.code?_eq, hW'.alike.method?]
      exact Option.some.inj (hc₂.symm.trans (h1.trans h.code))
    subst hcc
    have hlen : len₂ = len := by rw [hdg] at hd₂; cases hd₂; rfl
    subst hlen
    have hs₂ : s₂ = (({ U with heap := s₂.heap, slotsUsed := s₂.slotsUsed } : State).setVm s₂.vm).setTop { g with pc := g.pc + len₂, stack := v.toList ++ g.stack } := by
      refine e3.trans ?_
      rw [hf₂, State.calling_eq h.top, State.setFrames_setFrames, State.setTop_of_frames _ hr', hr]
      rfl
    have hsame : U.sameButNew ({ U with heap := s₂.heap, slotsUsed := s₂.slotsUsed } : State) L mc ms := by
      refine ⟨?_, q2, q3, q4, q5, q6⟩
      obtain ⟨t, ht, -⟩ := State.frames_cons hr
      show ({ U with heap := s₂.heap, slotsUsed := s₂.slotsUsed } : State) = { U.setFrames U.frames with heap := s₂.heap, slotsUsed := s₂.slotsUsed }
      rw [State.setFrames_self ht]
    subst hg
    refine Or.inl ⟨v, ⟨(({ U with heap := s₂.heap, slotsUsed := s₂.slotsUsed } : State).setVm s₂.vm), Ls ++ L, c0 + mc, s0 + ms⟩,
      ⟨X.admits, X.cas, X.clock, X.frames, X.room, X.hears, X.method, X.code, (X.here.setHeapUsed s₂.heap s₂.slotsUsed).setVm hW'.alike, X.tail, State.WarmedH.trans X.warmed hW', X.limits, X.bytes, X.same.trans (hsame.setVm s.vm)⟩,
      ⟨g, mk, s₂, L, rfl, rfl, hqc, rfl, hL, rfl, rfl⟩, ?_⟩
    show Steps p.tables e below _ ((({ U with heap := s₂.heap, slotsUsed := s₂.slotsUsed } : State).setVm s₂.vm).setTop { g with pc := g.pc + len₂, stack := v.toList ++ g.stack })
    rw [← hs₂]
    exact hsteps
  · obtain ⟨e2, q2, q3, q4, q5, q6⟩ := id hsm
    have e3 : s₂ = ({ (U.calling g mk a).setFrames s₂.frames with heap := s₂.heap, slotsUsed := s₂.slotsUsed } : State).setVm s₂.vm := by
      have : s₂ = ({ s₂ with vm := (U.calling g mk a).vm } : State).setVm s₂.vm := rfl
      rw [e2] at this
      exact this
    have hf₂ : s₂.frames = .throwing q :: .java g :: U.frames.tail := hend
    have hW' : U.WarmedH s₂.vm := hW₂
    have hs₂ : s₂ = ((({ U with heap := s₂.heap, slotsUsed := s₂.slotsUsed } : State).setVm s₂.vm).setTop g).pushFrame (.throwing q) := by
      refine e3.trans ?_
      rw [hf₂, State.calling_eq h.top, State.setFrames_setFrames, State.pushFrame, State.frames_setTop _ hr', State.setTop_of_frames _ hr', State.setFrames_setFrames, hr]
      rfl
    have hsame : U.sameButNew ({ U with heap := s₂.heap, slotsUsed := s₂.slotsUsed } : State) L mc ms := by
      refine ⟨?_, q2, q3, q4, q5, q6⟩
      obtain ⟨t, ht, -⟩ := State.frames_cons hr
      show ({ U with heap := s₂.heap, slotsUsed := s₂.slotsUsed } : State) = { U.setFrames U.frames with heap := s₂.heap, slotsUsed := s₂.slotsUsed }
      rw [State.setFrames_self ht]
    subst hg
    refine Or.inr ⟨q, ⟨(({ U with heap := s₂.heap, slotsUsed := s₂.slotsUsed } : State).setVm s₂.vm), Ls ++ L, c0 + mc, s0 + ms⟩,
      ⟨X.admits, X.cas, X.clock, X.frames, X.room, X.hears, X.method, X.code, (X.here.setHeapUsed s₂.heap s₂.slotsUsed).setVm hW'.alike, X.tail, State.WarmedH.trans X.warmed hW', X.limits, X.bytes, X.same.trans (hsame.setVm s.vm)⟩,
      ⟨g, mk, s₂, L, E, ce, rfl, rfl, hx, hce, hcv, hcl, rfl, hL, rfl, rfl⟩, ?_⟩
    show Steps p.tables e below _ (((({ U with heap := s₂.heap, slotsUsed := s₂.slotsUsed } : State).setVm s₂.vm).setTop g).pushFrame (.throwing q))
    rw [← hs₂]
    exact hsteps
end Payer
section Calls
variable {p : Program} {l : Launch} {e : Env} {R : Room} {s : State} {m : MethodId} {args : Array Value} {below : List Frame} {meth : Method} {c : Code} {T : State} {locs : List Loc} {cells slots : Nat}
theorem vx_callV (X : Stand p l e R s m args below meth c T locs cells slots) (hexec : p.tables.exec = Jvm.exec) {own C : String} {index : Nat} {y : MethodName} {bytes : ByteArray} {maxL : Nat} {ret : Option FieldType}
    (hown : s.vm.findClass own = some m.cls) (hlink : (Cond.methodLink own index y).before args s = true) (hinst : (Cond.instanceMethod y).before args s = true) (hsel : (Cond.selects C y y).before args s = true)
    (hcode : (Cond.code y bytes maxL ret).before args s = true) (hy : y.cls ≠ "java/lang/invoke/MethodHandle" ∧ y.cls ≠ "java/lang/invoke/VarHandle")
    {W9 : Nat} {Pre : Pt → Array Value → Prop} {Post : Pt → Array Value → Option Value → Pt → Prop} {PostX : Pt → Array Value → Addr → Pt → Prop} (hK : vx_Back l R p e below s args y 3 W9 Pre Post PostX)
    {b : Addr} {cellB : Cell} (hcell : T.heap[b]? = some cellB) (hobj : cellB.vm.isStatics = false) (hcls : s.vm.findClass C = some cellB.cls)
    {g : JFrame} (hg : g.method = m) (hsize : g.locals.size = c.maxLocals) {argsL rest : List Value} (hlen : ∀ sig, parseMethodDescriptor y.desc = some sig → argsL.length = sig.parameters.length)
    (hstack : g.stack = argsL.reverse ++ .ref b :: rest) (hW : 2 * g.monitorRoom + (rest.map fun v => v.category).sum ≤ W9) (hdg : decode c.code g.pc = .ok (.invokevirtual index, 3))
    (hpre : ∀ vm₁, s.WarmedH vm₁ → Pre ⟨T.setVm vm₁, locs, cells, slots⟩ (Value.ref b :: argsL).toArray) :
    (∃ (v : Option Value) (vm₁ : Vm) (B : Pt), s.WarmedH vm₁ ∧ Stand p l e R s m args below meth c B.U B.locs B.cells B.slots ∧ Post ⟨T.setVm vm₁, locs, cells, slots⟩ (Value.ref b :: argsL).toArray v B ∧
      ∀ target, Steps p.tables e below (B.U.setTop { g with pc := g.pc + 3, stack := v.toList ++ rest }) target → Steps p.tables e below (T.setTop g) target) ∨
    (∃ (q : Addr) (vm₁ : Vm) (B : Pt), s.WarmedH vm₁ ∧ Stand p l e R s m args below meth c B.U B.locs B.cells B.slots ∧ PostX ⟨T.setVm vm₁, locs, cells, slots⟩ (Value.ref b :: argsL).toArray q B ∧
      Steps p.tables e below (T.setTop g) ((B.U.setTop { g with stack := rest }).pushFrame (.throwing q))) := by
  obtain ⟨mk, methM, hnamed, hmethM, hstM, habM⟩ := Cond.instanceMethod_spec hinst
  obtain ⟨methM', cM, hmethM', -, -, -, -, -, -, hsigM⟩ := Cond.code_spec hnamed hcode
  cases hmethM.symm.trans hmethM'
  obtain ⟨c2, r2, m2, q1, q2, q3, q4, kP, hkP, hkPi⟩ := Cond.selects_spec hsel
  cases hcls.symm.trans q1
  cases (State.methodFound?_of_named hnamed hy).symm.trans q2
  cases hnamed.symm.trans q3
  have hselP : selectMethod e.platform s.vm cellB.cls mk = .method mk := by rw [Launch.admits_selectMethod X.admits]; exact q4
  obtain ⟨vm₁, X₁, hstep₁⟩ := X.invokevirtual hexec hown hlink hnamed hmethM hstM hkP hkPi hy (a := b) (cell := cellB) hcell
    (fun z h => by rw [h] at hobj; cases hobj) hselP hmethM habM hkP hkPi (g := g) hg (argsL := argsL) (rest := rest) (hlen _ hsigM) hstack hdg
  rcases hK m meth c ⟨T.setVm vm₁, locs, cells, slots⟩ { g with stack := rest } (.invokevirtual index) mk (Value.ref b :: argsL).toArray X₁ hg hsize hdg hW (X₁.named hnamed) (hpre vm₁ X₁.warmed) with ⟨v, B, X', hpost, hsteps⟩ | ⟨q, B, X', hpost, hsteps⟩
  · exact Or.inl ⟨v, vm₁, B, X₁.warmed, X', hpost, fun target h => hstep₁ _ fun acts => by rw [doInvoke_state]; exact hsteps.trans h⟩
  · exact Or.inr ⟨q, vm₁, B, X₁.warmed, X', hpost, hstep₁ _ fun acts => by rw [doInvoke_state]; exact hsteps⟩
theorem vx_callS (X : Stand p l e R s m args below meth c T locs cells slots) (hexec : p.tables.exec = Jvm.exec) {own : String} {index : Nat} {y : MethodName} {bytes : ByteArray} {maxL : Nat} {ret : Option FieldType}
    (hown : s.vm.findClass own = some m.cls) (hlink : (Cond.methodLink own index y).before args s = true) (hstat : (Cond.static y).before args s = true) (hinit : (Cond.initialized y.cls).before args s = true)
    (hcode : (Cond.code y bytes maxL ret).before args s = true) (hy : y.cls ≠ "java/lang/invoke/MethodHandle" ∧ y.cls ≠ "java/lang/invoke/VarHandle")
    {W9 : Nat} {Pre : Pt → Array Value → Prop} {Post : Pt → Array Value → Option Value → Pt → Prop} {PostX : Pt → Array Value → Addr → Pt → Prop} (hK : vx_Back l R p e below s args y 3 W9 Pre Post PostX)
    {g : JFrame} (hg : g.method = m) (hsize : g.locals.size = c.maxLocals) {argsL rest : List Value} (hlen : ∀ sig, parseMethodDescriptor y.desc = some sig → argsL.length = sig.parameters.length)
    (hstack : g.stack = argsL.reverse ++ rest) (hW : 2 * g.monitorRoom + (rest.map fun v => v.category).sum ≤ W9) (hdg : decode c.code g.pc = .ok (.invokestatic index, 3))
    (hpre : ∀ vm₁, s.WarmedH vm₁ → Pre ⟨T.setVm vm₁, locs, cells, slots⟩ argsL.toArray) :
    (∃ (v : Option Value) (vm₁ : Vm) (B : Pt), s.WarmedH vm₁ ∧ Stand p l e R s m args below meth c B.U B.locs B.cells B.slots ∧ Post ⟨T.setVm vm₁, locs, cells, slots⟩ argsL.toArray v B ∧
      ∀ target, Steps p.tables e below (B.U.setTop { g with pc := g.pc + 3, stack := v.toList ++ rest }) target → Steps p.tables e below (T.setTop g) target) ∨
    (∃ (q : Addr) (vm₁ : Vm) (B : Pt), s.WarmedH vm₁ ∧ Stand p l e R s m args below meth c B.U B.locs B.cells B.slots ∧ PostX ⟨T.setVm vm₁, locs, cells, slots⟩ argsL.toArray q B ∧
      Steps p.tables e below (T.setTop g) ((B.U.setTop { g with stack := rest }).pushFrame (.throwing q))) := by
  obtain ⟨mk, hnamed⟩ := Cond.code_named hcode
  obtain ⟨methM, cM, hmethM, -, -, -, -, -, -, hsigM⟩ := Cond.code_spec hnamed hcode
  have hstatic : methM.isStatic = true := Cond.static_spec hnamed hmethM hstat
  obtain ⟨kP, hkP, -⟩ := className_of_methodNamed hnamed
  have hinitP : kP.init = .initialized := Cond.initialized_spec (findClass_of_methodNamed hnamed) hkP hinit
  obtain ⟨vm₁, X₁, hstep₁⟩ := X.invokestatic hexec hown hlink hnamed hmethM hstatic hkP hinitP hy (g := g) hg (argsL := argsL) (rest := rest) (hlen _ hsigM) hstack hdg
  rcases hK m meth c ⟨T.setVm vm₁, locs, cells, slots⟩ { g with stack := rest } (.invokestatic index) mk argsL.toArray X₁ hg hsize hdg hW (X₁.named hnamed) (hpre vm₁ X₁.warmed) with ⟨v, B, X', hpost, hsteps⟩ | ⟨q, B, X', hpost, hsteps⟩
  · exact Or.inl ⟨v, vm₁, B, X₁.warmed, X', hpost, fun target h => hstep₁ _ fun acts => by rw [doInvoke_state]; exact hsteps.trans h⟩
  · exact Or.inr ⟨q, vm₁, B, X₁.warmed, X', hpost, hstep₁ _ fun acts => by rw [doInvoke_state]; exact hsteps⟩
end Calls
theorem vx_cls {s : State} {T : State} {vm₁ : Vm} {E : String} {k : ClassId} (hW : s.WarmedH vm₁) (h : (T.setVm vm₁).vm.findClass E = some k) : s.vm.findClass E = some k := by
  have h1 : vm₁.findClass E = some k := h
  rw [hW.alike.findClass] at h1
  exact h1
/-- the method's frame g, with q thrown over it -/
def vx_W (p : Program) (l : Launch) (e : Env) (R : Room) (s : State) (m : MethodId) (args : Array Value) (below : List Frame) (meth : Method) (c : Code) (H : Heap) (locs : List Loc) (cells slots : Nat) (Q : State → Prop) (g : JFrame) (q : Addr) : Prop :=
  ∀ T : State, T.heap = H → Stand p l e R s m args below meth c T locs cells slots → ∃ t, Steps p.tables e below ((T.setTop g).pushFrame (.throwing q)) t ∧ Q t
def vx_Run (p : Program) (l : Launch) (e : Env) (R : Room) (s : State) (m : MethodId) (args : Array Value) (below : List Frame) (meth : Method) (c : Code) (H : Heap) (locs : List Loc) (cells slots mc ms : Nat) (g : JFrame) (rest : List Value) (Qa : State → Outcome → State → Prop) (XC : String → State → State → Prop) (free : Addr → Prop) : Prop :=
  ∀ T : State, T.heap = H → Stand p l e R s m args below meth c T locs cells slots →
    (∃ (v : Option Value) (st₀ t T' : State) (L : List Loc), st₀.heap = H ∧ Stand p l e R s m args below meth c T' (locs ++ L) (cells + mc) (slots + ms) ∧ (∀ q ∈ L, free q.base) ∧ T'.heap = t.heap ∧ T'.vm = t.vm ∧ Qa st₀ (.returned v) t ∧
      Goes p e below T g T' { g with pc := g.pc + 3, stack := v.toList ++ rest }) ∨
    (∃ (q : Addr) (st₀ t T' : State) (L : List Loc) (E : String) (ce : Cell), st₀.heap = H ∧ Stand p l e R s m args below meth c T' (locs ++ L) (cells + mc) (slots + ms) ∧ (∀ z ∈ L, free z.base) ∧ T'.heap = t.heap ∧ T'.vm = t.vm ∧ XC E st₀ t ∧ t.heap[q]? = some ce ∧ ce.vm = .none ∧ s.vm.findClass E = some ce.cls ∧
      Steps p.tables e below (T.setTop g) ((T'.setTop { g with stack := rest }).pushFrame (.throwing q)))
def vx_X {S : Type} (px : S → Prop) (B : String → S → State → Prop) (A : Nat → Prop) : String → State → State → Prop := fun E st t => ∃ u : S, px u ∧ B E u t ∧ va_F A st t
section Runs
variable {p : Program} {l : Launch} {e : Env} {R : Room} {s : State} {m : MethodId} {args : Array Value} {below : List Frame} {meth : Method} {c : Code} {H : Heap} {locs : List Loc} {cells slots : Nat}
variable {y : MethodName} {bytes cc : ByteArray} {maxL nL mc ms n index : Nat} {ret : Option FieldType} {ws : List Cond} {rm : Room} {Pc : Array Value → State → Prop} {Qc : Array Value → State → Outcome → State → Prop} {XC : String → State → State → Prop} {free : Addr → Prop} {Ts : List Cond} {own C : String} {b : Addr} {As rest : List Value} {g : JFrame}
theorem vx_callBack (cb : CallB R s args own index y bytes maxL ret ws rm mc ms n) (hM : vx_Met l y ws rm Pc Qc XC mc ms free) (hbl : FrameBlind Pc) : vx_Back l R p e below s args y 3 8 (PreOf R mc ms Pc) (PostOf Qc mc ms free) (vx_Post XC mc ms free) := by
  obtain ⟨hrc, hrs, hfr, hlo, hws, hcw, -, hini, -⟩ := cb
  exact vx_back (bytes := bytes) (maxL := maxL) (ret := ret) hM hbl hrc hrs hfr hlo hws hcw (fun a' U hW => word_at hW (Or.inl (by first | rfl | simp [Cond.onTables, Cond.keeps, Cond.steady])) hini)
theorem vx_runV (S : CallFix p m c cc nL s args Ts own) (hM : vx_Met l y ws rm Pc Qc XC mc ms free) (cw : CallW R s args own C index y bytes maxL ret ws rm mc ms n) (hp : PreV s H C b Pc As)
    (hg : g.method = m) (hn : As.length = n) (hsize : g.locals.size = nL) (hstack : g.stack = As.reverse ++ .ref b :: rest) (hW : 2 * g.monitorRoom + (rest.map fun v => v.category).sum ≤ 8) (hdg : decode cc g.pc = .ok (.invokevirtual index, 3)) (hf : cells + mc ≤ R.cells ∧ slots + ms ≤ R.slots) :
    vx_Run p l e R s m args below meth c H locs cells slots mc ms g rest (Qc (Value.ref b :: As).toArray) XC free := by
  have hK : vx_Back l R p e below s args y 3 8 (PreOf R mc ms Pc) (PostOf Qc mc ms free) (vx_Post XC mc ms free) := vx_callBack cw.1 hM hp.1
  obtain ⟨⟨-, -, -, -, -, -, hcode, -, hy, hlen, hl⟩, hin, hse⟩ := cw
  obtain ⟨hx, hb, hml, ho, -⟩ := S
  obtain ⟨-, ⟨cellB, hcB, hoB, hclB⟩, hPc⟩ := hp
  intro T hT X
  rcases vx_callV X hx (C := C) (bytes := bytes) (maxL := maxL) (ret := ret) ho hl hin hse hcode hy hK (by rw [hT]; exact hcB) hoB hclB hg (hsize.trans hml.symm) (argsL := As) (rest := rest) (fun sig h => hn.trans (hlen sig h)) hstack hW (by rw [hb]; exact hdg)
    (fun vm₁ hW₁ => ⟨hf.1, hf.2, hPc (T.setVm vm₁) hT hW₁⟩) with ⟨v, vm₁, ⟨U', l2, c2, s2⟩, hW₁, X', ⟨g', mk, t, L, e1, e2, hq, h1, hL, h2, h3⟩, st⟩ | ⟨q, vm₁, ⟨U', l2, c2, s2⟩, hW₁, X', ⟨g', mk, t, L, E, ce, e1, e2, hq, hce, hcv, hcl, h1, hL, h2, h3⟩, st⟩
  · dsimp only [Pt.U, Pt.locs, Pt.cells, Pt.slots] at X' e1 e2 h1 h2 h3 st
    subst h1; subst h2; subst h3
    exact Or.inl ⟨v, (T.setVm vm₁).calling g' mk (Value.ref b :: As).toArray, t, U', L, hT, X', hL, e1, e2, hq, st⟩
  · dsimp only [Pt.U, Pt.locs, Pt.cells, Pt.slots] at X' e1 e2 h1 h2 h3 st hcl
    subst h1; subst h2; subst h3
    exact Or.inr ⟨q, (T.setVm vm₁).calling g' mk (Value.ref b :: As).toArray, t, U', L, E, ce, hT, X', hL, e1, e2, hq, hce, hcv, vx_cls hW₁ hcl, st⟩
theorem vx_runS (S : CallFix p m c cc nL s args Ts own) (hM : vx_Met l y ws rm Pc Qc XC mc ms free) (cw : CallB R s args own index y bytes maxL ret ws rm mc ms n ∧ (Cond.static y).before args s = true) (hp : PreS s H Pc As)
    (hg : g.method = m) (hn : As.length = n) (hsize : g.locals.size = nL) (hstack : g.stack = As.reverse ++ rest) (hW : 2 * g.monitorRoom + (rest.map fun v => v.category).sum ≤ 8) (hdg : decode cc g.pc = .ok (.invokestatic index, 3)) (hf : cells + mc ≤ R.cells ∧ slots + ms ≤ R.slots) :
    vx_Run p l e R s m args below meth c H locs cells slots mc ms g rest (Qc As.toArray) XC free := by
  have hK : vx_Back l R p e below s args y 3 8 (PreOf R mc ms Pc) (PostOf Qc mc ms free) (vx_Post XC mc ms free) := vx_callBack cw.1 hM hp.1
  obtain ⟨⟨-, -, -, -, -, -, hcode, hini, hy, hlen, hl⟩, hstt⟩ := cw
  obtain ⟨hx, hb, hml, ho, -⟩ := S
  intro T hT X
  rcases vx_callS X hx (bytes := bytes) (maxL := maxL) (ret := ret) ho hl hstt hini hcode hy hK hg (hsize.trans hml.symm) (argsL := As) (rest := rest) (fun sig h => hn.trans (hlen sig h)) hstack hW (by rw [hb]; exact hdg)
    (fun vm₁ hW₁ => ⟨hf.1, hf.2, hp.2 (T.setVm vm₁) hT hW₁⟩) with ⟨v, vm₁, ⟨U', l2, c2, s2⟩, hW₁, X', ⟨g', mk, t, L, e1, e2, hq, h1, hL, h2, h3⟩, st⟩ | ⟨q, vm₁, ⟨U', l2, c2, s2⟩, hW₁, X', ⟨g', mk, t, L, E, ce, e1, e2, hq, hce, hcv, hcl, h1, hL, h2, h3⟩, st⟩
  · dsimp only [Pt.U, Pt.locs, Pt.cells, Pt.slots] at X' e1 e2 h1 h2 h3 st
    subst h1; subst h2; subst h3
    exact Or.inl ⟨v, (T.setVm vm₁).calling g' mk As.toArray, t, U', L, hT, X', hL, e1, e2, hq, st⟩
  · dsimp only [Pt.U, Pt.locs, Pt.cells, Pt.slots] at X' e1 e2 h1 h2 h3 st hcl
    subst h1; subst h2; subst h3
    exact Or.inr ⟨q, (T.setVm vm₁).calling g' mk As.toArray, t, U', L, E, ce, hT, X', hL, e1, e2, hq, hce, hcv, vx_cls hW₁ hcl, st⟩
end Runs
section Rows
variable {p : Program} {l : Launch} {e : Env} {R : Room} {s : State} {m : MethodId} {args : Array Value} {below : List Frame} {meth : Method} {c : Code} {H : Heap} {locs : List Loc} {cells slots : Nat} {Q : State → Prop}
variable {mc ms : Nat} {free : Addr → Prop} {A0 A1 : Nat → Prop} {H0 : Heap} {a : Array Value} {pc : Nat} {ls : Array Slot} {st0 rest : List Value}
theorem vx_keep {st₀ t T' : State} {L : List Loc} (h0 : st₀.heap = H) (e1 : T'.heap = t.heap) (hS : va_S A0 H0 H locs) (hA : ∀ q, q < H.size → A1 q → A0 q) (hf : ∀ q, free q → A0 q) (hL : ∀ q ∈ L, free q.base) (hF : va_F A1 st₀ t) :
    H.size ≤ T'.heap.size ∧ (∀ q : Nat, q < H.size → ¬ A1 q → T'.heap[q]? = H[q]?) ∧ va_S A0 H0 T'.heap (locs ++ L) := by
  obtain ⟨hz, hk⟩ := hF
  rw [h0] at hz hk
  exact ⟨by rw [e1]; exact hz, fun q h1 h2 => by rw [e1]; exact hk q h1 h2,
    ⟨Nat.le_trans hS.1 (by rw [e1]; exact hz), fun q h1 h2 => by rw [e1, hk q (Nat.lt_of_lt_of_le h1 hS.1) (fun z => h2 (hA q (Nat.lt_of_lt_of_le h1 hS.1) z))]; exact hS.2.1 q h1 h2, fun q hq => by
      rcases List.mem_append.mp hq with h | h
      · exact hS.2.2 q h
      · exact hf _ (hL q h)⟩⟩
theorem vx_calli {S SX : Type} {post : Int32 → S → Prop} {px : SX → Prop} {B : S → State → Prop} {BX : String → SX → State → Prop} {AX : Nat → Prop} (hr : vx_Run p l e R s m args below meth c H locs cells slots mc ms (F0 m pc ls st0) rest (va_Qi post B A1 a) (vx_X px BX AX) free) (hS : va_S A0 H0 H locs) (hA : ∀ q, q < H.size → A1 q → A0 q) (hf : ∀ q, free q → A0 q) (hAX : ∀ q, q < H.size → AX q → A0 q)
    (kx : ∀ (E : String) (ce : Cell) (q9 : Addr) (u : SX) (t : State) (H1 : Heap) (locs1 : List Loc), t.heap = H1 → s.vm.Alike t.vm → px u → BX E u t → H.size ≤ H1.size → (∀ q : Nat, q < H.size → ¬ AX q → H1[q]? = H[q]?) → va_S A0 H0 H1 locs1 → H1[q9]? = some ce → ce.vm = .none → s.vm.findClass E = some ce.cls → vx_W p l e R s m args below meth c H1 locs1 (cells + mc) (slots + ms) Q (F0 m pc ls rest) q9)
    (kk : ∀ (r : Int32) (u : S) (t : State) (H1 : Heap) (locs1 : List Loc), t.heap = H1 → s.vm.Alike t.vm → post r u → B u t → H.size ≤ H1.size → (∀ q : Nat, q < H.size → ¬ A1 q → H1[q]? = H[q]?) → va_S A0 H0 H1 locs1 → W p l e R s m args below meth c H1 locs1 (cells + mc) (slots + ms) Q (F0 m (pc + 3) ls (.int r :: rest))) : W p l e R s m args below meth c H locs cells slots Q (F0 m pc ls st0) := by
  intro T hT X
  rcases hr T hT X with ⟨v, st₀, t, T', L, h0, X', hL, e1, e2, ⟨⟨r, u, hv, hp, hb⟩, hF⟩, st⟩ | ⟨q, st₀, t, T', L, E, ce, h0, X', hL, e1, e2, ⟨u, hp, hb, hF⟩, hce, hcv, hcl, st⟩
  · cases hv
    obtain ⟨k1, k2, k3⟩ := vx_keep h0 e1 hS hA hf hL hF
    obtain ⟨t2, a1, b1⟩ := kk r u t T'.heap (locs ++ L) e1.symm (by rw [← e2]; exact X'.warmed.alike) hp hb k1 k2 k3 T' rfl X'
    exact ⟨t2, st t2 a1, b1⟩
  · obtain ⟨k1, k2, k3⟩ := vx_keep h0 e1 hS hAX hf hL hF
    obtain ⟨t2, a1, b1⟩ := kx E ce q u t T'.heap (locs ++ L) e1.symm (by rw [← e2]; exact X'.warmed.alike) hp hb k1 k2 k3 (by rw [e1]; exact hce) hcv hcl T' rfl X'
    exact ⟨t2, st.trans a1, b1⟩
theorem vx_calll {S SX : Type} {post : Int64 → S → Prop} {px : SX → Prop} {B : S → State → Prop} {BX : String → SX → State → Prop} {AX : Nat → Prop} (hr : vx_Run p l e R s m args below meth c H locs cells slots mc ms (F0 m pc ls st0) rest (va_Ql post B A1 a) (vx_X px BX AX) free) (hS : va_S A0 H0 H locs) (hA : ∀ q, q < H.size → A1 q → A0 q) (hf : ∀ q, free q → A0 q) (hAX : ∀ q, q < H.size → AX q → A0 q)
    (kx : ∀ (E : String) (ce : Cell) (q9 : Addr) (u : SX) (t : State) (H1 : Heap) (locs1 : List Loc), t.heap = H1 → s.vm.Alike t.vm → px u → BX E u t → H.size ≤ H1.size → (∀ q : Nat, q < H.size → ¬ AX q → H1[q]? = H[q]?) → va_S A0 H0 H1 locs1 → H1[q9]? = some ce → ce.vm = .none → s.vm.findClass E = some ce.cls → vx_W p l e R s m args below meth c H1 locs1 (cells + mc) (slots + ms) Q (F0 m pc ls rest) q9)
    (kk : ∀ (r : Int64) (u : S) (t : State) (H1 : Heap) (locs1 : List Loc), t.heap = H1 → s.vm.Alike t.vm → post r u → B u t → H.size ≤ H1.size → (∀ q : Nat, q < H.size → ¬ A1 q → H1[q]? = H[q]?) → va_S A0 H0 H1 locs1 → W p l e R s m args below meth c H1 locs1 (cells + mc) (slots + ms) Q (F0 m (pc + 3) ls (.long r :: rest))) : W p l e R s m args below meth c H locs cells slots Q (F0 m pc ls st0) := by
  intro T hT X
  rcases hr T hT X with ⟨v, st₀, t, T', L, h0, X', hL, e1, e2, ⟨⟨r, u, hv, hp, hb⟩, hF⟩, st⟩ | ⟨q, st₀, t, T', L, E, ce, h0, X', hL, e1, e2, ⟨u, hp, hb, hF⟩, hce, hcv, hcl, st⟩
  · cases hv
    obtain ⟨k1, k2, k3⟩ := vx_keep h0 e1 hS hA hf hL hF
    obtain ⟨t2, a1, b1⟩ := kk r u t T'.heap (locs ++ L) e1.symm (by rw [← e2]; exact X'.warmed.alike) hp hb k1 k2 k3 T' rfl X'
    exact ⟨t2, st t2 a1, b1⟩
  · obtain ⟨k1, k2, k3⟩ := vx_keep h0 e1 hS hAX hf hL hF
    obtain ⟨t2, a1, b1⟩ := kx E ce q u t T'.heap (locs ++ L) e1.symm (by rw [← e2]; exact X'.warmed.alike) hp hb k1 k2 k3 (by rw [e1]; exact hce) hcv hcl T' rfl X'
    exact ⟨t2, st.trans a1, b1⟩
theorem vx_callf {S SX : Type} {post : UInt32 → S → Prop} {px : SX → Prop} {B : S → State → Prop} {BX : String → SX → State → Prop} {AX : Nat → Prop} (hr : vx_Run p l e R s m args below meth c H locs cells slots mc ms (F0 m pc ls st0) rest (va_Qf post B A1 a) (vx_X px BX AX) free) (hS : va_S A0 H0 H locs) (hA : ∀ q, q < H.size → A1 q → A0 q) (hf : ∀ q, free q → A0 q) (hAX : ∀ q, q < H.size → AX q → A0 q)
    (kx : ∀ (E : String) (ce : Cell) (q9 : Addr) (u : SX) (t : State) (H1 : Heap) (locs1 : List Loc), t.heap = H1 → s.vm.Alike t.vm → px u → BX E u t → H.size ≤ H1.size → (∀ q : Nat, q < H.size → ¬ AX q → H1[q]? = H[q]?) → va_S A0 H0 H1 locs1 → H1[q9]? = some ce → ce.vm = .none → s.vm.findClass E = some ce.cls → vx_W p l e R s m args below meth c H1 locs1 (cells + mc) (slots + ms) Q (F0 m pc ls rest) q9)
    (kk : ∀ (r : UInt32) (u : S) (t : State) (H1 : Heap) (locs1 : List Loc), t.heap = H1 → s.vm.Alike t.vm → post r u → B u t → H.size ≤ H1.size → (∀ q : Nat, q < H.size → ¬ A1 q → H1[q]? = H[q]?) → va_S A0 H0 H1 locs1 → W p l e R s m args below meth c H1 locs1 (cells + mc) (slots + ms) Q (F0 m (pc + 3) ls (.float r :: rest))) : W p l e R s m args below meth c H locs cells slots Q (F0 m pc ls st0) := by
  intro T hT X
  rcases hr T hT X with ⟨v, st₀, t, T', L, h0, X', hL, e1, e2, ⟨⟨r, u, hv, hp, hb⟩, hF⟩, st⟩ | ⟨q, st₀, t, T', L, E, ce, h0, X', hL, e1, e2, ⟨u, hp, hb, hF⟩, hce, hcv, hcl, st⟩
  · cases hv
    obtain ⟨k1, k2, k3⟩ := vx_keep h0 e1 hS hA hf hL hF
    obtain ⟨t2, a1, b1⟩ := kk r u t T'.heap (locs ++ L) e1.symm (by rw [← e2]; exact X'.warmed.alike) hp hb k1 k2 k3 T' rfl X'
    exact ⟨t2, st t2 a1, b1⟩
  · obtain ⟨k1, k2, k3⟩ := vx_keep h0 e1 hS hAX hf hL hF
    obtain ⟨t2, a1, b1⟩ := kx E ce q u t T'.heap (locs ++ L) e1.symm (by rw [← e2]; exact X'.warmed.alike) hp hb k1 k2 k3 (by rw [e1]; exact hce) hcv hcl T' rfl X'
    exact ⟨t2, st.trans a1, b1⟩
theorem vx_calld {S SX : Type} {post : UInt64 → S → Prop} {px : SX → Prop} {B : S → State → Prop} {BX : String → SX → State → Prop} {AX : Nat → Prop} (hr : vx_Run p l e R s m args below meth c H locs cells slots mc ms (F0 m pc ls st0) rest (va_Qd post B A1 a) (vx_X px BX AX) free) (hS : va_S A0 H0 H locs) (hA : ∀ q, q < H.size → A1 q → A0 q) (hf : ∀ q, free q → A0 q) (hAX : ∀ q, q < H.size → AX q → A0 q)
    (kx : ∀ (E : String) (ce : Cell) (q9 : Addr) (u : SX) (t : State) (H1 : Heap) (locs1 : List Loc), t.heap = H1 → s.vm.Alike t.vm → px u → BX E u t → H.size ≤ H1.size → (∀ q : Nat, q < H.size → ¬ AX q → H1[q]? = H[q]?) → va_S A0 H0 H1 locs1 → H1[q9]? = some ce → ce.vm = .none → s.vm.findClass E = some ce.cls → vx_W p l e R s m args below meth c H1 locs1 (cells + mc) (slots + ms) Q (F0 m pc ls rest) q9)
    (kk : ∀ (r : UInt64) (u : S) (t : State) (H1 : Heap) (locs1 : List Loc), t.heap = H1 → s.vm.Alike t.vm → post r u → B u t → H.size ≤ H1.size → (∀ q : Nat, q < H.size → ¬ A1 q → H1[q]? = H[q]?) → va_S A0 H0 H1 locs1 → W p l e R s m args below meth c H1 locs1 (cells + mc) (slots + ms) Q (F0 m (pc + 3) ls (.double r :: rest))) : W p l e R s m args below meth c H locs cells slots Q (F0 m pc ls st0) := by
  intro T hT X
  rcases hr T hT X with ⟨v, st₀, t, T', L, h0, X', hL, e1, e2, ⟨⟨r, u, hv, hp, hb⟩, hF⟩, st⟩ | ⟨q, st₀, t, T', L, E, ce, h0, X', hL, e1, e2, ⟨u, hp, hb, hF⟩, hce, hcv, hcl, st⟩
  · cases hv
    obtain ⟨k1, k2, k3⟩ := vx_keep h0 e1 hS hA hf hL hF
    obtain ⟨t2, a1, b1⟩ := kk r u t T'.heap (locs ++ L) e1.symm (by rw [← e2]; exact X'.warmed.alike) hp hb k1 k2 k3 T' rfl X'
    exact ⟨t2, st t2 a1, b1⟩
  · obtain ⟨k1, k2, k3⟩ := vx_keep h0 e1 hS hAX hf hL hF
    obtain ⟨t2, a1, b1⟩ := kx E ce q u t T'.heap (locs ++ L) e1.symm (by rw [← e2]; exact X'.warmed.alike) hp hb k1 k2 k3 (by rw [e1]; exact hce) hcv hcl T' rfl X'
    exact ⟨t2, st.trans a1, b1⟩
theorem vx_callv {S SX : Type} {post : S → Prop} {px : SX → Prop} {B : S → State → Prop} {BX : String → SX → State → Prop} {AX : Nat → Prop} (hr : vx_Run p l e R s m args below meth c H locs cells slots mc ms (F0 m pc ls st0) rest (va_Qv post B A1 a) (vx_X px BX AX) free) (hS : va_S A0 H0 H locs) (hA : ∀ q, q < H.size → A1 q → A0 q) (hf : ∀ q, free q → A0 q) (hAX : ∀ q, q < H.size → AX q → A0 q)
    (kx : ∀ (E : String) (ce : Cell) (q9 : Addr) (u : SX) (t : State) (H1 : Heap) (locs1 : List Loc), t.heap = H1 → s.vm.Alike t.vm → px u → BX E u t → H.size ≤ H1.size → (∀ q : Nat, q < H.size → ¬ AX q → H1[q]? = H[q]?) → va_S A0 H0 H1 locs1 → H1[q9]? = some ce → ce.vm = .none → s.vm.findClass E = some ce.cls → vx_W p l e R s m args below meth c H1 locs1 (cells + mc) (slots + ms) Q (F0 m pc ls rest) q9)
    (kk : ∀ (u : S) (t : State) (H1 : Heap) (locs1 : List Loc), t.heap = H1 → s.vm.Alike t.vm → post u → B u t → H.size ≤ H1.size → (∀ q : Nat, q < H.size → ¬ A1 q → H1[q]? = H[q]?) → va_S A0 H0 H1 locs1 → W p l e R s m args below meth c H1 locs1 (cells + mc) (slots + ms) Q (F0 m (pc + 3) ls (rest))) : W p l e R s m args below meth c H locs cells slots Q (F0 m pc ls st0) := by
  intro T hT X
  rcases hr T hT X with ⟨v, st₀, t, T', L, h0, X', hL, e1, e2, ⟨⟨u, hv, hp, hb⟩, hF⟩, st⟩ | ⟨q, st₀, t, T', L, E, ce, h0, X', hL, e1, e2, ⟨u, hp, hb, hF⟩, hce, hcv, hcl, st⟩
  · cases hv
    obtain ⟨k1, k2, k3⟩ := vx_keep h0 e1 hS hA hf hL hF
    obtain ⟨t2, a1, b1⟩ := kk u t T'.heap (locs ++ L) e1.symm (by rw [← e2]; exact X'.warmed.alike) hp hb k1 k2 k3 T' rfl X'
    exact ⟨t2, st t2 a1, b1⟩
  · obtain ⟨k1, k2, k3⟩ := vx_keep h0 e1 hS hAX hf hL hF
    obtain ⟨t2, a1, b1⟩ := kx E ce q u t T'.heap (locs ++ L) e1.symm (by rw [← e2]; exact X'.warmed.alike) hp hb k1 k2 k3 (by rw [e1]; exact hce) hcv hcl T' rfl X'
    exact ⟨t2, st.trans a1, b1⟩
/-- caught by the row x of this method's table; the rows ahead don't take it -/
theorem vx_catch {own name : String} {E : String} {ce : Cell} {q : Addr} (hown : s.vm.findClass own = some m.cls) (pre : List ExceptionTableEntry) (x : ExceptionTableEntry) (suf : List ExceptionTableEntry) (hsplit : c.exceptionTable.toList = pre ++ x :: suf)
    (hpass : ∀ z ∈ pre, covers z pc = false ∨ (z.catchType ≠ 0 ∧ ∃ nm : String, (Cond.classLink own z.catchType nm).before args s = true ∧ va_Nc E nm s)) (hx : covers x pc = true) (h0 : x.catchType ≠ 0)
    (hlink : (Cond.classLink own x.catchType name).before args s = true) (hcast : (Cond.castable E name).before args s = true) (hcell : H[q]? = some ce) (hv : ce.vm = .none) (hcl : s.vm.findClass E = some ce.cls)
    (kk : W p l e R s m args below meth c H locs cells slots Q (F0 m x.handlerPc ls [.ref q])) : vx_W p l e R s m args below meth c H locs cells slots Q (F0 m pc ls rest) q := by
  intro T hT X
  have hpl : e.platform.magicAccessors = ({} : Platform).magicAccessors := by rw [X.admits.platform]
  obtain ⟨c3, c4, hc3, hc4, hasg⟩ := Cond.castable_spec hcast
  cases Option.some.inj (hc3.symm.trans hcl)
  obtain ⟨c5, hc5, hcl5⟩ := Cond.classLink_spec hown hlink e.platform hpl
  cases Option.some.inj (hc4.symm.trans hc5)
  obtain ⟨vm', X', st⟩ := X.thenCaughtThrough q (g := F0 m pc ls rest) rfl (Steps.refl _) (by rw [hT]; exact hcell) (by rw [hv]; rfl) (by obtain ⟨k9, h9, -⟩ := Vm.findClass_spec hcl; exact ⟨k9, h9⟩) pre x suf hsplit
    (fun z hz => by
      rcases hpass z hz with h | ⟨hz0, nm, hl1, hn1⟩
      · exact Or.inl h
      · obtain ⟨c6, hc6, hcl6⟩ := Cond.classLink_spec hown hl1 e.platform hpl
        obtain ⟨a8, b8, h1, h2, h3⟩ := hn1
        cases Option.some.inj (h1.symm.trans hcl)
        cases Option.some.inj (h2.symm.trans hc6)
        exact Or.inr ⟨hz0, _, hcl6, h3⟩) hx (Or.inr ⟨h0, c4, hcl5, hasg⟩)
  obtain ⟨t, a1, b1⟩ := kk (T.setVm vm') hT X'
  exact ⟨t, st.trans a1, b1⟩
end Rows
section Ends
variable {p : Program} {l : Launch} {e : Env} {R : Room} {s : State} {m : MethodId} {args : Array Value} {below : List Frame} {meth : Method} {c : Code} {H : Heap} {locs : List Loc} {cells slots : Nat} {Q : State → Prop}
variable {mc ms : Nat} {free : Addr → Prop} {A0 A1 : Nat → Prop} {H0 : Heap} {a : Array Value} {ls : Array Slot} {st0 rest : List Value}
variable {Qc : Array Value → State → Outcome → State → Prop} {XC : String → State → State → Prop}
/-- what a body that may throw owes at its end -/
def vx_MQ (below : List Frame) (Qc : Array Value → State → Outcome → State → Prop) (XC : String → State → State → Prop) (a : Array Value) (s : State) (mc ms : Nat) (free : Addr → Prop) : State → Prop := fun t =>
  ∃ o, t.status = .running ∧ Ended t below o ∧ vx_Q Qc XC mc ms free a s o t
theorem vx_ret {g : JFrame} {mc ms : Nat} (k : W p l e R s m args below meth c H locs cells slots (MQ below Qc args s mc ms free) g) : W p l e R s m args below meth c H locs cells slots (vx_MQ below Qc XC args s mc ms free) g := by
  intro T hT X
  obtain ⟨t, a1, o, b1, b2, b3, b4⟩ := k T hT X
  exact ⟨t, a1, o, b1, b2, Or.inl ⟨b3, b4⟩⟩
/-- not caught here: it goes on to the caller -/
theorem vx_widen {g : JFrame} {q : Addr} {k n : Nat} (h1 : cells ≤ k) (h2 : slots ≤ n) (kk : vx_W p l e R s m args below meth c H locs k n Q g q) : vx_W p l e R s m args below meth c H locs cells slots Q g q := fun T hT X => kk T hT (stand_widen X h1 h2)
theorem vx_out {pc : Nat} {E : String} {ce : Cell} {q : Addr} {mc ms : Nat} (hout : ∀ x ∈ c.exceptionTable.toList, covers x pc = false) (hlocks : meth.locks = false) (hcell : H[q]? = some ce) (hv : ce.vm = .none) (hcl : s.vm.findClass E = some ce.cls)
    (hx : ∀ t : State, t.heap = H → s.vm.Alike t.vm → XC E s t) (hf : ∀ z ∈ locs, free z.base) (hc : cells ≤ mc) (hs : slots ≤ ms) :
    vx_W p l e R s m args below meth c H locs cells slots (vx_MQ below Qc XC args s mc ms free) (F0 m pc ls rest) q := by
  intro T hT X
  obtain ⟨st1, hrun, hend, hW, hsm⟩ := X.leaveThrown q (g := F0 m pc ls rest) rfl rfl rfl hout hlocks
  have hcell9 : (T.setFrames (.throwing q :: below)).heap[q]? = some ce := by
    show T.heap[q]? = some ce
    rw [hT]; exact hcell
  exact ⟨_, st1, .threw q, hrun, hend, Or.inr ⟨q, rfl, E, ce, locs, hx _ hT hW.alike, hcell9, hv, hcl, hW, hsm.mono hc hs, hf⟩⟩
theorem vx_frame {U : State} {k n : Nat} (h : s.sameButNew ({ U with vm := s.vm } : State) locs k n) : s.heap.size ≤ U.heap.size ∧ ∀ q : Nat, q < s.heap.size → (∀ z ∈ locs, z.base ≠ q) → U.heap[q]? = s.heap[q]? := by
  obtain ⟨-, h2, -, -, -, h6⟩ := h
  refine ⟨h2, fun q hq hz => ?_⟩
  obtain ⟨c9, e1, e2, e3, e4⟩ := h6 q _ (Array.getElem?_eq_getElem hq)
  have hs : c9.slots = (s.heap[q]).slots := Array.ext_getElem? fun i => e4 i fun hm => hz _ hm rfl
  have h9 : c9 = s.heap[q] := by
    rw [hs] at e2
    exact e2
  have e5 : U.heap[q]? = some c9 := e1
  rw [e5, h9, Array.getElem?_eq_getElem hq]
/-- the words of a throw but the four that speak of the heap -/
def vx_no (w : Cond) : Bool := decide (w ≠ .isRef (.static Bundle.tN "UNASSIGNED_STACK" Bundle.steD)) && decide (w ≠ .isRef (.static Bundle.tN "SUPPRESSED_SENTINEL" Bundle.listD)) && decide (w ≠ .laysStatic Bundle.tN "UNASSIGNED_STACK" Bundle.steD) && decide (w ≠ .laysStatic Bundle.tN "SUPPRESSED_SENTINEL" Bundle.listD)
def vx_at0 (own : String) (ic : Nat) (X : String) (names : List String) : List Cond := (Bundle.ownAtoms0 own ic X names).filter vx_no
def vx_atS (own : String) (ic : Nat) (X : String) (names : List String) : List Cond := (Bundle.ownAtoms own ic X names).filter vx_no
/-- a word that the tables alone decide, or a good one -/
def vx_ot (w : Cond) : Bool := w.onTables || goodWord w
theorem vx_ot_at {args a' : Array Value} {s U : State} {w : Cond} (hW : s.WarmedH U.vm) (hvm : s.vm = U.vm) (hg : vx_ot w = true) (h : w.before args s = true) : w.before a' U = true := by
  simp only [vx_ot, Bool.or_eq_true] at hg
  rcases hg with hg | hg
  · exact va_tabs hg hvm h
  · exact word_at hW (good_of_word hg) h
/-- a list's words: the good ones out of the method's own list, the others by premises of their own -/
theorem vx_hat {args : Array Value} {s : State} {L B : List Cond} (h1 : ∀ w ∈ L.filter goodWord, w.before args s = true) (h2 : ∀ w ∈ L.filter (fun w => !goodWord w), w ∈ B) (h3 : ∀ w ∈ B, w.before args s = true) : ∀ w ∈ L, w.before args s = true := by
  intro w hw
  by_cases g : goodWord w = true
  · exact h1 w (List.mem_filter.mpr ⟨hw, g⟩)
  · refine h3 w (h2 w (List.mem_filter.mpr ⟨hw, ?_⟩))
    show (!goodWord w) = true
    cases hgw : goodWord w
    · rfl
    · exact absurd hgw g
theorem vx_c {args : Array Value} {s : State} {w : Cond} {B : List Cond} (h : w.before args s = true) (t : ∀ w ∈ B, w.before args s = true) : ∀ w' ∈ w :: B, w'.before args s = true := fun w' h' => (List.mem_cons.mp h').elim (fun e => by rw [e]; exact h) (t w')
theorem vx_n {args : Array Value} {s : State} : ∀ w ∈ ([] : List Cond), w.before args s = true := fun _ h => nomatch h
theorem vx_own {args : Array Value} {s : State} {L : List Cond} (h1 : ∀ w ∈ L.filter vx_no, w.before args s = true)
    (hU : (Cond.isRef (.static Bundle.tN "UNASSIGNED_STACK" Bundle.steD)).before args s = true) (hN : (Cond.isRef (.static Bundle.tN "SUPPRESSED_SENTINEL" Bundle.listD)).before args s = true)
    (lU : (Cond.laysStatic Bundle.tN "UNASSIGNED_STACK" Bundle.steD).before args s = true) (lN : (Cond.laysStatic Bundle.tN "SUPPRESSED_SENTINEL" Bundle.listD).before args s = true) : ∀ w ∈ L, w.before args s = true := by
  intro w hw
  by_cases e1 : w = .isRef (.static Bundle.tN "UNASSIGNED_STACK" Bundle.steD)
  · rw [e1]; exact hU
  · by_cases e2 : w = .isRef (.static Bundle.tN "SUPPRESSED_SENTINEL" Bundle.listD)
    · rw [e2]; exact hN
    · by_cases e3 : w = .laysStatic Bundle.tN "UNASSIGNED_STACK" Bundle.steD
      · rw [e3]; exact lU
      · by_cases e4 : w = .laysStatic Bundle.tN "SUPPRESSED_SENTINEL" Bundle.listD
        · rw [e4]; exact lN
        · exact h1 w (List.mem_filter.mpr ⟨hw, by unfold vx_no; rw [decide_eq_true e1, decide_eq_true e2, decide_eq_true e3, decide_eq_true e4]; rfl⟩)
/-- where a static field lies, its class's statics cell in H -/
def vx_L (C n d : String) (A : Nat → Prop) (U : State) (H : Heap) : Prop := ∃ (c : ClassId) (k : Class) (i : Nat) (f : Field) (a : Nat) (cell : Cell), U.vm.findClass C = some c ∧ U.fieldFound? C n d = some (c, k, i, f) ∧ f.isStatic = true ∧ k.statics = some a ∧ H[a]? = some cell ∧ cell.vm.isStatics = true ∧ cell.cls = c ∧ f.slot < cell.slots.size ∧ k.staticTypes[f.slot]? = some f.type ∧ ¬ A a
theorem vx_L.moved {C n d : String} {A : Nat → Prop} {u U : State} {H : Heap} (hvm : u.vm.Alike U.vm) (h : vx_L C n d A u H) : vx_L C n d A U H := by
  obtain ⟨c, k, i, f, a, cell, h1, h2, h3, h4, h5, h6, h7, h8, h9, h10⟩ := h
  obtain ⟨k', hi', he⟩ := State.fieldFound?_setVm hvm h2
  exact ⟨c, k', i, f, a, cell, by rw [hvm.findClass]; exact h1, hi', h3, by rw [he]; exact h4, h5, h6, h7, h8, by rw [he]; exact h9, h10⟩
theorem vx_L.kept {C n d : String} {A : Nat → Prop} {U : State} {H H1 : Heap} (h : vx_L C n d A U H) (hq : ∀ a : Nat, a < H.size → ¬ A a → H1[a]? = H[a]?) : vx_L C n d A U H1 := by
  obtain ⟨c, k, i, f, a, cell, h1, h2, h3, h4, h5, h6, h7, h8, h9, h10⟩ := h
  exact ⟨c, k, i, f, a, cell, h1, h2, h3, h4, by rw [hq a (Array.getElem?_eq_some_iff.mp h5).1 h10]; exact h5, h6, h7, h8, h9, h10⟩
theorem vx_L.narrow {C n d : String} {A B : Nat → Prop} {U : State} {H : Heap} (h : vx_L C n d A U H) (hAB : ∀ q, B q → A q) : vx_L C n d B U H := by
  obtain ⟨c, k, i, f, a, cell, h1, h2, h3, h4, h5, h6, h7, h8, h9, h10⟩ := h
  exact ⟨c, k, i, f, a, cell, h1, h2, h3, h4, h5, h6, h7, h8, h9, fun z => h10 (hAB _ z)⟩
theorem vx_L.word {C n d : String} {A : Nat → Prop} {s : State} {args : Array Value} (h : vx_L C n d A s s.heap) : (Cond.laysStatic C n d).before args s = true := by
  obtain ⟨c, k, i, f, a, cell, h1, h2, h3, h4, h5, h6, h7, h8, h9, -⟩ := h
  show (Cond.laysStatic C n d).holds args s none s [] = true
  exact Cond.laysStatic_of h1 h2 h3 h4 h5 h6 h7 h8 h9
/-- .. and what it holds: null or some reference -/
def vx_Zq (C n d : String) (A : Nat → Prop) (U : State) (H : Heap) : Prop := va_Zq C n d A U H ∧ vx_L C n d A U H
theorem vx_Zq.moved {C n d : String} {A : Nat → Prop} {u U : State} {H : Heap} (hvm : u.vm.Alike U.vm) (h : vx_Zq C n d A u H) : vx_Zq C n d A U H := ⟨va_Zq.moved hvm h.1, vx_L.moved hvm h.2⟩
theorem vx_Zq.kept {C n d : String} {A : Nat → Prop} {U : State} {H H1 : Heap} (h : vx_Zq C n d A U H) (hq : ∀ a : Nat, a < H.size → ¬ A a → H1[a]? = H[a]?) : vx_Zq C n d A U H1 := ⟨va_Zq.kept h.1 hq, vx_L.kept h.2 hq⟩
theorem vx_Zq.narrow {C n d : String} {A B : Nat → Prop} {U : State} {H : Heap} (h : vx_Zq C n d A U H) (hAB : ∀ q, B q → A q) : vx_Zq C n d B U H := ⟨va_Zq.narrow h.1 hAB, vx_L.narrow h.2 hAB⟩
theorem vx_Zqof {args : Array Value} {s : State} {C n d : String} {A : Nat → Prop} (hl : (Cond.laysStatic C n d).before args s = true) (hini : (Cond.initialized C).before args s = true) (h : (Cond.isRef (.static C n d)).before args s = true) (hA : ∀ a : Nat, a < s.heap.size → ¬ A a) : vx_Zq C n d A s s.heap := by
  refine ⟨va_Zqof hl hini h hA, ?_⟩
  obtain ⟨c, k, i, f, a, cell, h1, h2, h3, h4, h5, h6, h7, h8, h9⟩ := Cond.laysStatic_spec hl
  exact ⟨c, k, i, f, a, cell, h1, h2, h3, h4, h5, h6, h7, h8, h9, hA a (Array.getElem?_eq_some_iff.mp h5).1⟩
theorem vx_isRef {C n d : String} {v : Value} {A : Nat → Prop} {s : State} {args : Array Value} (h : va_Z C n d v A s s.heap) (hv : v.isRef = true) : (Cond.isRef (.static C n d)).before args s = true := by
  obtain ⟨cf, kf, fi, f, a, cell, h1, h2, h3, h4, h5, h6, h7, -⟩ := h
  have he : (Term.static C n d).eval args s none [] s = some v := by
    simp [Term.eval, State.fieldNamed?, h1, h2, h4, h5, h6, h7]
  simp only [Cond.before, Cond.holds, Cond.value, he]
  cases v <;> simp_all [Value.isRef]
theorem vx_isRefq {C n d : String} {A : Nat → Prop} {s : State} {args : Array Value} (h : va_Zq C n d A s s.heap) : (Cond.isRef (.static C n d)).before args s = true := by
  rcases h with h | ⟨t, h⟩
  · exact vx_isRef h rfl
  · exact vx_isRef h rfl
/-- the same frame, seen from here: as if the method were called anew in this heap -/
theorem vx_rebase {T : State} (X : Stand p l e R s m args below meth c T locs cells slots) {R' : Room} (hf : R'.frames ≤ R.frames) (hl : R'.locals ≤ R.locals) (hc : cells + R'.cells ≤ R.cells) (hs : slots + R'.slots ≤ R.slots) :
    Stand p l e R' ((T.setVm s.vm).setFrames (.invoking m args :: below)) m args below meth c T [] 0 0 := by
  have htop : (T.setVm s.vm).topJava?.isSome := X.here.top
  have hF : ((T.setVm s.vm).setFrames (.invoking m args :: below)).frames = .invoking m args :: below := State.frames_setFrames _ (State.cur_lt_of_top htop)
  obtain ⟨g₀, hg0⟩ := Option.isSome_iff_exists.mp htop
  obtain ⟨r, hr⟩ := State.topJava?_eq_some.mp hg0
  have hl9 : e.platform.stackLimits (T.setVm s.vm).me = e.platform.stackLimits s.me := X.limits
  have hb9 : (T.setVm s.vm).me.stackBytes = s.me.stackBytes := X.bytes
  refine ⟨X.admits, X.cas, X.clock, hF, ?_, X.hears, X.method, X.code, X.here, X.tail, X.warmed, ?_, ?_, ?_⟩
  · have h := X.room
    have hU : ((T.setVm s.vm).setFrames (.invoking m args :: below)).localsInUse = s.localsInUse := by
      rw [State.localsInUse_invoking hF (meth := meth) (c := c) X.method X.code, State.localsInUse_invoking X.frames X.method X.code]
    simp only [State.hasRoom, Bool.and_eq_true, decide_eq_true_eq] at h ⊢
    obtain ⟨⟨⟨⟨h1, h2, h3, h4, h5, h6⟩, h7⟩, h8⟩, h9⟩ := h
    rw [X.frames, List.length_cons] at h2 h3
    have q1 := X.heapSize
    have q2 := X.used
    simp only [hF, hU, List.length_cons, State.stackLimits_setFrames, State.stackBytes_setFrames, hl9, hb9]
    refine ⟨⟨⟨⟨by omega, by omega, by omega, by omega, by omega, h6⟩, ?_⟩, ?_⟩, X.book⟩
    · show T.heap.size + R'.cells ≤ e.platform.maxCells
      omega
    · show T.slotsUsed + R'.slots ≤ e.platform.maxSlots
      omega
  · rw [State.stackLimits_setFrames]; rfl
  · rw [State.stackBytes_setFrames]; rfl
  · refine ⟨?_, Nat.le_refl _, Nat.le_refl _, ?_, ?_, fun a c9 h9 => ⟨c9, h9, rfl, rfl, fun _ _ => rfl⟩⟩
    · obtain ⟨t, ht, -⟩ := State.frames_cons hr
      show T.setVm s.vm = { ((T.setVm s.vm).setFrames (.invoking m args :: below)).setFrames (T.setVm s.vm).frames with heap := T.heap, slotsUsed := T.slotsUsed }
      rw [State.setFrames_setFrames, State.setFrames_self ht]
      rfl
    · show T.slotsUsed = T.slotsUsed + ((T.heap.toList.drop T.heap.size).map (·.slots.size)).sum
      rw [List.drop_eq_nil_of_le (Nat.le_of_eq Array.length_toList)]
      rfl
    · show ((T.heap.toList.drop T.heap.size).map (·.slots.size)).sum ≤ 0
      rw [List.drop_eq_nil_of_le (Nat.le_of_eq Array.length_toList)]
      exact Nat.le_refl _
/-- 'throw new E()': new; dup; invokespecial; athrow -/
theorem vx_throw0 {cc : ByteArray} {pc : Nat} (hexec : p.tables.exec = Jvm.exec) (hb : c.code = cc) (hl : l.stackTraces = false) {own cls : String} {names : List String} {ik ic mc ms : Nat} {A : Nat → Prop}
    (hown : s.vm.findClass own = some m.cls) (hcls : Bundle.fit cls = true) (hnames : ∀ n ∈ names, Bundle.fit n = true)
    (hk : (Cond.classLink own ik cls).before args s = true) (hini : (Cond.initialized cls).before args s = true) (hat : ∀ w ∈ vx_at0 own ic cls names, w.before args s = true)
    (hgood : ∀ w ∈ Cond.classLink own ik cls :: Cond.initialized cls :: vx_at0 own ic cls names, vx_ot w = true)
    (hU : vx_Zq Bundle.tN "UNASSIGNED_STACK" Bundle.steD A s s.heap) (hN : vx_Zq Bundle.tN "SUPPRESSED_SENTINEL" Bundle.listD A s s.heap) (hS : va_S A s.heap H locs) (hsize : ls.size = c.maxLocals)
    (d0 : decode cc pc = .ok (.new ik, 3)) (d3 : decode cc (pc + 3) = .ok (.dup, 1)) (d4 : decode cc (pc + 4) = .ok (.invokespecial ic, 3)) (d7 : decode cc (pc + 7) = .ok (.athrow, 1))
    (hout : ∀ x ∈ c.exceptionTable.toList, covers x (pc + 7) = false)
    (hRframes : names.length + 3 < R.frames) (hRlocals : (rest.map fun v => v.category).sum + (13 * (names.length + 1) + 42) ≤ R.locals) (hRcells : cells + 1 ≤ R.cells) (hRslots : slots + 6 ≤ R.slots) (hlocks : meth.locks = false)
    (hx : ∀ t : State, s.vm.Alike t.vm → H.size ≤ t.heap.size → (∀ q : Nat, q < H.size → t.heap[q]? = H[q]?) → XC cls s t)
    (hf : ∀ z ∈ locs, free z.base) (hc : cells + 1 ≤ mc) (hs : slots + 6 ≤ ms) :
    W p l e R s m args below meth c H locs cells slots (vx_MQ below Qc XC args s mc ms free) (F0 m pc ls rest) := by
  intro T hT X
  have htr : e.platform.stackTraces = false := (show e.platform.stackTraces = l.stackTraces by rw [X.admits.platform]).trans hl
  have Y := vx_rebase X (R' := { frames := R.frames, locals := R.locals, cells := 1, slots := 6 }) (Nat.le_refl _) (Nat.le_refl _) hRcells hRslots
  obtain ⟨s', hA⟩ : ∃ z, z = (T.setVm s.vm).setFrames (.invoking m args :: below) := ⟨_, rfl⟩
  rw [← hA] at Y
  have hvm : s'.vm = s.vm := by rw [hA]; rfl
  have hhp : s'.heap = H := by rw [hA]; exact hT
  have hW0 : s.WarmedH s'.vm := by rw [hvm]; exact State.WarmedH.refl s
  have hat' : ∀ w ∈ vx_at0 own ic cls names, w.before args s' = true := fun w hw => vx_ot_at hW0 hvm.symm (hgood w (List.mem_cons_of_mem _ (List.mem_cons_of_mem _ hw))) (hat w hw)
  have hk' : (Cond.classLink own ik cls).before args s' = true := vx_ot_at hW0 hvm.symm (hgood _ List.mem_cons_self) hk
  have hini' : (Cond.initialized cls).before args s' = true := vx_ot_at hW0 hvm.symm (hgood _ (List.mem_cons_of_mem _ List.mem_cons_self)) hini
  have hU' : vx_Zq Bundle.tN "UNASSIGNED_STACK" Bundle.steD A s' s'.heap := by rw [hhp]; exact vx_Zq.moved hW0.alike (hU.kept hS.2.1)
  have hN' : vx_Zq Bundle.tN "SUPPRESSED_SENTINEL" Bundle.listD A s' s'.heap := by rw [hhp]; exact vx_Zq.moved hW0.alike (hN.kept hS.2.1)
  have h : ∀ w ∈ Bundle.ownAtoms0 own ic cls names, w.before args s' = true := vx_own hat' (vx_isRefq hU'.1) (vx_isRefq hN'.1) hU'.2.word hN'.2.word
  have hown' : s'.vm.findClass own = some m.cls := by rw [hvm]; exact hown
  have hins : (Cond.instantiable cls 6).before args s' = true := h _ (by simp [Bundle.ownAtoms0])
  obtain ⟨vm₁, cX, kX, hfX, hkX, -, -, X₁, st1⟩ := Y.newCold hexec (own := own) (C := cls) (index := ik) (n := 6) hown' hk' hins hini'
    (g := F0 m pc ls rest) rfl (by rw [hb]; exact d0) (Nat.le_refl _) (Nat.le_refl _)
  generalize hT1 : (T.setVm vm₁).pushCell { cls := cX, slots := kX.instanceTypes.map defaultValue, vm := .none } = T1 at X₁ st1
  have hcat : (Value.ref T.heap.size).category = 1 := rfl
  have hcellA : T1.heap[T.heap.size]? = some (freshCell cX kX) := by rw [← hT1]; exact State.heap_pushCell_size _ _
  have d3' : decode c.code (pc + 3) = .ok (.dup, 1) := by rw [hb]; exact d3
  obtain ⟨U, hsteps, hrun, hend, hW, hsame, ce, hce, hO⟩ := X₁.ctorThrow0 hexec htr (own := own) (cls := cls) (names := names) (ic := ic) hown' hcls hnames h (fun x hx => nomatch hx) hfX hkX hcellA (by rw [hhp, hT]; exact Nat.le_refl _)
    (g := { method := m, pc := pc + 4, locals := ls, stack := .ref T.heap.size :: .ref T.heap.size :: rest, locked := none }) rfl hsize rfl rfl (rest := rest) rfl
    (by rw [hb]; exact d4) (by rw [hb]; exact d7) hout hRframes (by simp only [List.map_cons, List.sum_cons, hcat]; omega) hlocks
  obtain ⟨f1, f2⟩ := vx_frame hsame
  rw [hhp] at f1 f2
  have hWs : s.WarmedH U.vm := State.WarmedH.trans hW0 hW
  have hcl : s.vm.findClass cls = some ce.cls := by
    have h9 := hO.cls
    rw [hvm] at h9
    exact h9
  have hall : s.sameButNew ({ U with vm := s.vm } : State) locs mc ms := by
    subst hA
    obtain ⟨e1, e2⟩ := hsame
    rw [State.setFrames_setFrames] at e1
    have h2 : (T.setVm s.vm).sameButNew ({ U with vm := s.vm } : State) [] (0 + 1) (0 + 6) := ⟨e1, e2⟩
    have h3 := X.same.trans h2
    rw [List.append_nil] at h3
    exact h3.mono hc hs
  refine ⟨U, ?_, .threw T.heap.size, hrun, hend, Or.inr ⟨T.heap.size, rfl, cls, ce, locs, hx U hWs.alike f1 (fun q hq => f2 q hq (fun z hz => nomatch hz)), hce, hO.vm, hcl, hWs, hall, hf⟩⟩
  refine st1 _ ?_
  show Steps p.tables e below (T1.setTop { method := m, pc := pc + 3, locals := ls, stack := .ref T.heap.size :: rest, locked := none }) _
  jvm_step X₁.here [X₁.here.top, hexec, d3', Value.category]
  exact hsteps
/-- 'throw new E("text")': new; dup; ldc; invokespecial; athrow -/
theorem vx_throwS {cc : ByteArray} {pc : Nat} (hexec : p.tables.exec = Jvm.exec) (hb : c.code = cc) (hl : l.stackTraces = false) {own cls text : String} {names : List String} {ik is ic mc ms sa : Nat} {A : Nat → Prop}
    (hown : s.vm.findClass own = some m.cls) (hcls : Bundle.fit cls = true) (hnames : ∀ n ∈ names, Bundle.fit n = true)
    (hk : (Cond.classLink own ik cls).before args s = true) (hini : (Cond.initialized cls).before args s = true) (hstr : vk_R own is text sa s) (hat : ∀ w ∈ vx_atS own ic cls names, w.before args s = true)
    (hgood : ∀ w ∈ Cond.classLink own ik cls :: Cond.initialized cls :: vx_atS own ic cls names, vx_ot w = true)
    (hU : vx_Zq Bundle.tN "UNASSIGNED_STACK" Bundle.steD A s s.heap) (hN : vx_Zq Bundle.tN "SUPPRESSED_SENTINEL" Bundle.listD A s s.heap) (hS : va_S A s.heap H locs) (hsize : ls.size = c.maxLocals)
    (d0 : decode cc pc = .ok (.new ik, 3)) (d3 : decode cc (pc + 3) = .ok (.dup, 1)) (d4 : decode cc (pc + 4) = .ok (.ldc is, 2)) (d6 : decode cc (pc + 6) = .ok (.invokespecial ic, 3)) (d9 : decode cc (pc + 9) = .ok (.athrow, 1))
    (hout : ∀ x ∈ c.exceptionTable.toList, covers x (pc + 9) = false)
    (hRframes : names.length + 3 < R.frames) (hRlocals : (rest.map fun v => v.category).sum + (13 * (names.length + 1) + 43) ≤ R.locals) (hRcells : cells + 1 ≤ R.cells) (hRslots : slots + 6 ≤ R.slots) (hlocks : meth.locks = false)
    (hx : ∀ t : State, s.vm.Alike t.vm → H.size ≤ t.heap.size → (∀ q : Nat, q < H.size → t.heap[q]? = H[q]?) → XC cls s t)
    (hf : ∀ z ∈ locs, free z.base) (hc : cells + 1 ≤ mc) (hs : slots + 6 ≤ ms) :
    W p l e R s m args below meth c H locs cells slots (vx_MQ below Qc XC args s mc ms free) (F0 m pc ls rest) := by
  intro T hT X
  have htr : e.platform.stackTraces = false := (show e.platform.stackTraces = l.stackTraces by rw [X.admits.platform]).trans hl
  have Y := vx_rebase X (R' := { frames := R.frames, locals := R.locals, cells := 1, slots := 6 }) (Nat.le_refl _) (Nat.le_refl _) hRcells hRslots
  obtain ⟨s', hA⟩ : ∃ z, z = (T.setVm s.vm).setFrames (.invoking m args :: below) := ⟨_, rfl⟩
  rw [← hA] at Y
  have hvm : s'.vm = s.vm := by rw [hA]; rfl
  have hhp : s'.heap = H := by rw [hA]; exact hT
  have hW0 : s.WarmedH s'.vm := by rw [hvm]; exact State.WarmedH.refl s
  have hat' : ∀ w ∈ vx_atS own ic cls names, w.before args s' = true := fun w hw => vx_ot_at hW0 hvm.symm (hgood w (List.mem_cons_of_mem _ (List.mem_cons_of_mem _ hw))) (hat w hw)
  have hk' : (Cond.classLink own ik cls).before args s' = true := vx_ot_at hW0 hvm.symm (hgood _ List.mem_cons_self) hk
  have hini' : (Cond.initialized cls).before args s' = true := vx_ot_at hW0 hvm.symm (hgood _ (List.mem_cons_of_mem _ List.mem_cons_self)) hini
  have hU' : vx_Zq Bundle.tN "UNASSIGNED_STACK" Bundle.steD A s' s'.heap := by rw [hhp]; exact vx_Zq.moved hW0.alike (hU.kept hS.2.1)
  have hN' : vx_Zq Bundle.tN "SUPPRESSED_SENTINEL" Bundle.listD A s' s'.heap := by rw [hhp]; exact vx_Zq.moved hW0.alike (hN.kept hS.2.1)
  have h : ∀ w ∈ Bundle.ownAtoms own ic cls names, w.before args s' = true := vx_own hat' (vx_isRefq hU'.1) (vx_isRefq hN'.1) hU'.2.word hN'.2.word
  have hown' : s'.vm.findClass own = some m.cls := by rw [hvm]; exact hown
  have hins : (Cond.instantiable cls 6).before args s' = true := h _ (by simp [Bundle.ownAtoms])
  obtain ⟨vm₁, cX, kX, hfX, hkX, -, -, X₁, st1⟩ := Y.newCold hexec (own := own) (C := cls) (index := ik) (n := 6) hown' hk' hins hini'
    (g := F0 m pc ls rest) rfl (by rw [hb]; exact d0) (Nat.le_refl _) (Nat.le_refl _)
  generalize hT1 : (T.setVm vm₁).pushCell { cls := cX, slots := kX.instanceTypes.map defaultValue, vm := .none } = T1 at X₁ st1
  have hcat : (Value.ref T.heap.size).category = 1 := rfl
  have hcellA : T1.heap[T.heap.size]? = some (freshCell cX kX) := by rw [← hT1]; exact State.heap_pushCell_size _ _
  have d3' : decode c.code (pc + 3) = .ok (.dup, 1) := by rw [hb]; exact d3
  have d4' : decode c.code (pc + 4) = .ok (.ldc is, 2) := by rw [hb]; exact d4
  have hstr' : vk_R own is text sa s' := vk_R.warm hW0 hstr
  obtain ⟨U, hsteps, hrun, hend, hW, hsame, ce, hce, hO⟩ := X₁.ctorThrowS hexec htr (own := own) (cls := cls) (names := names) (ic := ic) hown' hcls hnames h (fun x hx => nomatch hx) hfX hkX hcellA (by rw [hhp, hT]; exact Nat.le_refl _) (msg := .ref sa) rfl
    (g := { method := m, pc := pc + 6, locals := ls, stack := .ref sa :: .ref T.heap.size :: .ref T.heap.size :: rest, locked := none }) rfl hsize rfl rfl (rest := rest) rfl
    (by rw [hb]; exact d6) (by rw [hb]; exact d9) hout hRframes (by simp only [List.map_cons, List.sum_cons, hcat]; omega) hlocks
  obtain ⟨f1, f2⟩ := vx_frame hsame
  rw [hhp] at f1 f2
  have hWs : s.WarmedH U.vm := State.WarmedH.trans hW0 hW
  have hcl : s.vm.findClass cls = some ce.cls := by
    have h9 := hO.cls
    rw [hvm] at h9
    exact h9
  have hall : s.sameButNew ({ U with vm := s.vm } : State) locs mc ms := by
    subst hA
    obtain ⟨e1, e2⟩ := hsame
    rw [State.setFrames_setFrames] at e1
    have h2 : (T.setVm s.vm).sameButNew ({ U with vm := s.vm } : State) [] (0 + 1) (0 + 6) := ⟨e1, e2⟩
    have h3 := X.same.trans h2
    rw [List.append_nil] at h3
    exact h3.mono hc hs
  refine ⟨U, ?_, .threw T.heap.size, hrun, hend, Or.inr ⟨T.heap.size, rfl, cls, ce, locs, hx U hWs.alike f1 (fun q hq => f2 q hq (fun z hz => nomatch hz)), hce, hO.vm, hcl, hWs, hall, hf⟩⟩
  refine st1 _ ?_
  show Steps p.tables e below (T1.setTop { method := m, pc := pc + 3, locals := ls, stack := .ref T.heap.size :: rest, locked := none }) _
  jvm_step X₁.here [X₁.here.top, hexec, d3', Value.category]
  exact X₁.ldcString hexec (own := own) (text := text) (index := is) (a := sa) hown' hstr'.1 hstr'.2
    (g := { method := m, pc := pc + 4, locals := ls, stack := .ref T.heap.size :: .ref T.heap.size :: rest, locked := none }) rfl d4' _ hsteps
/-- 'throw new E("text")', the text by a wide index -/
theorem vx_throwSW {cc : ByteArray} {pc : Nat} (hexec : p.tables.exec = Jvm.exec) (hb : c.code = cc) (hl : l.stackTraces = false) {own cls text : String} {names : List String} {ik is ic mc ms sa : Nat} {A : Nat → Prop}
    (hown : s.vm.findClass own = some m.cls) (hcls : Bundle.fit cls = true) (hnames : ∀ n ∈ names, Bundle.fit n = true)
    (hk : (Cond.classLink own ik cls).before args s = true) (hini : (Cond.initialized cls).before args s = true) (hstr : vk_R own is text sa s) (hat : ∀ w ∈ vx_atS own ic cls names, w.before args s = true)
    (hgood : ∀ w ∈ Cond.classLink own ik cls :: Cond.initialized cls :: vx_atS own ic cls names, vx_ot w = true)
    (hU : vx_Zq Bundle.tN "UNASSIGNED_STACK" Bundle.steD A s s.heap) (hN : vx_Zq Bundle.tN "SUPPRESSED_SENTINEL" Bundle.listD A s s.heap) (hS : va_S A s.heap H locs) (hsize : ls.size = c.maxLocals)
    (d0 : decode cc pc = .ok (.new ik, 3)) (d3 : decode cc (pc + 3) = .ok (.dup, 1)) (d4 : decode cc (pc + 4) = .ok (.ldc_w is, 3)) (d7 : decode cc (pc + 7) = .ok (.invokespecial ic, 3)) (d10 : decode cc (pc + 10) = .ok (.athrow, 1))
    (hout : ∀ x ∈ c.exceptionTable.toList, covers x (pc + 10) = false)
    (hRframes : names.length + 3 < R.frames) (hRlocals : (rest.map fun v => v.category).sum + (13 * (names.length + 1) + 43) ≤ R.locals) (hRcells : cells + 1 ≤ R.cells) (hRslots : slots + 6 ≤ R.slots) (hlocks : meth.locks = false)
    (hx : ∀ t : State, s.vm.Alike t.vm → H.size ≤ t.heap.size → (∀ q : Nat, q < H.size → t.heap[q]? = H[q]?) → XC cls s t)
    (hf : ∀ z ∈ locs, free z.base) (hc : cells + 1 ≤ mc) (hs : slots + 6 ≤ ms) :
    W p l e R s m args below meth c H locs cells slots (vx_MQ below Qc XC args s mc ms free) (F0 m pc ls rest) := by
  intro T hT X
  have htr : e.platform.stackTraces = false := (show e.platform.stackTraces = l.stackTraces by rw [X.admits.platform]).trans hl
  have Y := vx_rebase X (R' := { frames := R.frames, locals := R.locals, cells := 1, slots := 6 }) (Nat.le_refl _) (Nat.le_refl _) hRcells hRslots
  obtain ⟨s', hA⟩ : ∃ z, z = (T.setVm s.vm).setFrames (.invoking m args :: below) := ⟨_, rfl⟩
  rw [← hA] at Y
  have hvm : s'.vm = s.vm := by rw [hA]; rfl
  have hhp : s'.heap = H := by rw [hA]; exact hT
  have hW0 : s.WarmedH s'.vm := by rw [hvm]; exact State.WarmedH.refl s
  have hat' : ∀ w ∈ vx_atS own ic cls names, w.before args s' = true := fun w hw => vx_ot_at hW0 hvm.symm (hgood w (List.mem_cons_of_mem _ (List.mem_cons_of_mem _ hw))) (hat w hw)
  have hk' : (Cond.classLink own ik cls).before args s' = true := vx_ot_at hW0 hvm.symm (hgood _ List.mem_cons_self) hk
  have hini' : (Cond.initialized cls).before args s' = true := vx_ot_at hW0 hvm.symm (hgood _ (List.mem_cons_of_mem _ List.mem_cons_self)) hini
  have hU' : vx_Zq Bundle.tN "UNASSIGNED_STACK" Bundle.steD A s' s'.heap := by rw [hhp]; exact vx_Zq.moved hW0.alike (hU.kept hS.2.1)
  have hN' : vx_Zq Bundle.tN "SUPPRESSED_SENTINEL" Bundle.listD A s' s'.heap := by rw [hhp]; exact vx_Zq.moved hW0.alike (hN.kept hS.2.1)
  have h : ∀ w ∈ Bundle.ownAtoms own ic cls names, w.before args s' = true := vx_own hat' (vx_isRefq hU'.1) (vx_isRefq hN'.1) hU'.2.word hN'.2.word
  have hown' : s'.vm.findClass own = some m.cls := by rw [hvm]; exact hown
  have hins : (Cond.instantiable cls 6).before args s' = true := h _ (by simp [Bundle.ownAtoms])
  obtain ⟨vm₁, cX, kX, hfX, hkX, -, -, X₁, st1⟩ := Y.newCold hexec (own := own) (C := cls) (index := ik) (n := 6) hown' hk' hins hini'
    (g := F0 m pc ls rest) rfl (by rw [hb]; exact d0) (Nat.le_refl _) (Nat.le_refl _)
  generalize hT1 : (T.setVm vm₁).pushCell { cls := cX, slots := kX.instanceTypes.map defaultValue, vm := .none } = T1 at X₁ st1
  have hcat : (Value.ref T.heap.size).category = 1 := rfl
  have hcellA : T1.heap[T.heap.size]? = some (freshCell cX kX) := by rw [← hT1]; exact State.heap_pushCell_size _ _
  have d3' : decode c.code (pc + 3) = .ok (.dup, 1) := by rw [hb]; exact d3
  have d4' : decode c.code (pc + 4) = .ok (.ldc_w is, 3) := by rw [hb]; exact d4
  have hstr' : vk_R own is text sa s' := vk_R.warm hW0 hstr
  obtain ⟨U, hsteps, hrun, hend, hW, hsame, ce, hce, hO⟩ := X₁.ctorThrowS hexec htr (own := own) (cls := cls) (names := names) (ic := ic) hown' hcls hnames h (fun x hx => nomatch hx) hfX hkX hcellA (by rw [hhp, hT]; exact Nat.le_refl _) (msg := .ref sa) rfl
    (g := { method := m, pc := pc + 7, locals := ls, stack := .ref sa :: .ref T.heap.size :: .ref T.heap.size :: rest, locked := none }) rfl hsize rfl rfl (rest := rest) rfl
    (by rw [hb]; exact d7) (by rw [hb]; exact d10) hout hRframes (by simp only [List.map_cons, List.sum_cons, hcat]; omega) hlocks
  obtain ⟨f1, f2⟩ := vx_frame hsame
  rw [hhp] at f1 f2
  have hWs : s.WarmedH U.vm := State.WarmedH.trans hW0 hW
  have hcl : s.vm.findClass cls = some ce.cls := by
    have h9 := hO.cls
    rw [hvm] at h9
    exact h9
  have hall : s.sameButNew ({ U with vm := s.vm } : State) locs mc ms := by
    subst hA
    obtain ⟨e1, e2⟩ := hsame
    rw [State.setFrames_setFrames] at e1
    have h2 : (T.setVm s.vm).sameButNew ({ U with vm := s.vm } : State) [] (0 + 1) (0 + 6) := ⟨e1, e2⟩
    have h3 := X.same.trans h2
    rw [List.append_nil] at h3
    exact h3.mono hc hs
  refine ⟨U, ?_, .threw T.heap.size, hrun, hend, Or.inr ⟨T.heap.size, rfl, cls, ce, locs, hx U hWs.alike f1 (fun q hq => f2 q hq (fun z hz => nomatch hz)), hce, hO.vm, hcl, hWs, hall, hf⟩⟩
  refine st1 _ ?_
  show Steps p.tables e below (T1.setTop { method := m, pc := pc + 3, locals := ls, stack := .ref T.heap.size :: rest, locked := none }) _
  jvm_step X₁.here [X₁.here.top, hexec, d3', Value.category]
  exact X₁.ldcStringW hexec (own := own) (text := text) (index := is) (a := sa) hown' hstr'.1 hstr'.2
    (g := { method := m, pc := pc + 4, locals := ls, stack := .ref T.heap.size :: .ref T.heap.size :: rest, locked := none }) rfl d4' _ hsteps
end Ends
section Bodies
variable {l : Launch}
theorem vx_ofW {y : MethodName} {ws ws' : List Cond} {rm : Room} {Pc : Array Value → State → Prop} {Qc : Array Value → State → Outcome → State → Prop} {XC : String → State → State → Prop} {mc ms : Nat} {free : Addr → Prop} {cc : ByteArray} {maxL : Nat} {ret : Option FieldType}
    (hy : plainName y.cls = true) (hw : ws = Cond.code y cc maxL ret :: ws')
    (body : ∀ p e s m args below meth c s₁, BodyLoose p l y (headSpec ws rm) cc maxL ret e s m args below meth c s₁ → c.maxLocals = maxL → (∀ x ∈ c.exceptionTable.toList, False) → Pc args s →
      W p l e (headSpec ws rm).room s m args below meth c s.heap [] 0 0 (vx_MQ below Qc XC args s mc ms free) (entryFrame m args maxL)) : vx_Met l y ws rm Pc Qc XC mc ms free := by
  refine MetFree.of_bodyS (code := cc) (maxLocals := maxL) (ret := ret) hy ?_ ?_
  · intro args s m h hn
    obtain ⟨meth, c, h1, h2, h3, h4, h5, h6, -, -⟩ := Cond.code_spec hn (atoms_spec (ws := ws) h _ (by rw [hw]; exact List.mem_cons_self))
    exact ⟨meth, c, h1, h2, h3, h4, h5, h6⟩
  · intro p e s m args below meth c s₁ B hml hP _
    have hh0 : s₁.heap = s.heap := by rw [B.state]; rfl
    have ht : ∀ x ∈ c.exceptionTable.toList, False := by
      obtain ⟨meth9, c9, h1, h2, -, -, -, -, h7, -⟩ := Cond.code_spec B.named (atoms_spec (ws := ws) B.pre _ (by rw [hw]; exact List.mem_cons_self))
      cases Option.some.inj (h1.symm.trans B.method)
      cases Option.some.inj (h2.symm.trans (Stand.of_body B).code)
      intro x hx
      rw [Array.isEmpty_iff.mp h7] at hx
      cases hx
    obtain ⟨t, a1, o, b1, b2, b3⟩ := body p e s m args below meth c s₁ B hml ht hP s₁ hh0 (Stand.of_body B)
    exact ⟨t, o, a1, b1, b2, b3⟩
/-- the table of a body with handlers -/
theorem vx_table {p : Program} {x y : MethodName} {S : Spec} {cc bytes : ByteArray} {maxL maxL' : Nat} {ret ret' : Option FieldType} {e : Env} {s s₁ : State} {m : MethodId} {args : Array Value} {below : List Frame} {meth : Method} {c : Code} {hh : List (Nat × Nat × Nat × Nat)}
    (B : BodyLoose p l y S cc maxL ret e s m args below meth c s₁) (h : (Cond.codeWith y bytes maxL' ret' hh).before args s = true) : c.exceptionTable.toList = tableOf hh := by
  obtain ⟨m9, meth9, c9, hn9, h1, h2, -, -, h6, -⟩ := Cond.codeWith_spec h
  cases Option.some.inj (hn9.symm.trans B.named)
  cases Option.some.inj (h1.symm.trans B.method)
  cases Option.some.inj (h2.symm.trans (Stand.of_body B).code)
  rw [← h6, table_eq]
end Bodies
end VXA
/-! ===== END ===== -/
/-! ===== BEGIN a static call of a method with an exception table ===== -/
section VXS
variable {p : Program} {l : Launch} {e : Env} {R : Room} {s : State} {m : MethodId} {args : Array Value} {below : List Frame} {meth : Method} {c : Code} {T : State} {H : Heap} {locs : List Loc} {cells slots : Nat}
abbrev vx_CSW (R : Room) (s : State) (args : Array Value) (own : String) (index : Nat) (y : MethodName) (bytes : ByteArray) (maxL : Nat) (ret : Option FieldType) (hh : List (Nat × Nat × Nat × Nat)) (ws : List Cond) (rm : Room) (mc ms n : Nat) : Prop :=
  (rm.cells = mc ∧ rm.slots = ms ∧ rm.frames + 1 ≤ R.frames ∧ 8 + (maxL + 11) + rm.locals ≤ R.locals ∧ (∀ w ∈ ws, ∀ (a' : Array Value) (U : State), s.WarmedH U.vm → w.before a' U = true) ∧ Cond.codeWith y bytes maxL ret hh ∈ ws) ∧
  (Cond.codeWith y bytes maxL ret hh).before args s = true ∧ (Cond.initialized y.cls).before args s = true ∧ (y.cls ≠ "java/lang/invoke/MethodHandle" ∧ y.cls ≠ "java/lang/invoke/VarHandle") ∧
  (∀ sig, parseMethodDescriptor y.desc = some sig → n = sig.parameters.length) ∧ (Cond.methodLink own index y).before args s = true ∧ (Cond.static y).before args s = true
theorem vx_cwSW {own : String} {index maxL mc ms : Nat} {y : MethodName} {bytes : ByteArray} {ret : Option FieldType} {hh : List (Nat × Nat × Nat × Nat)} {Ts ws ws' : List Cond} {rm : Room} (n : Nat) (ht : ∀ w ∈ Ts, w.before args s = true) (hT : GoodIn Ts (va_wsS own index y ws)) (hw : ws = Cond.codeWith y bytes maxL ret hh :: ws') (hrc : rm.cells = mc) (hrs : rm.slots = ms)
    (hd : y.cls ≠ "java/lang/invoke/MethodHandle" ∧ y.cls ≠ "java/lang/invoke/VarHandle" ∧ (parseMethodDescriptor y.desc).map (fun d => d.parameters.length) = some n) (hR : rm.frames + 1 ≤ R.frames ∧ 8 + (maxL + 11) + rm.locals ≤ R.locals) :
    vx_CSW R s args own index y bytes maxL ret hh ws rm mc ms n := by
  have ok : ∀ w ∈ va_wsS own index y ws, w.before args s = true := fun w h => ht w (hT w h).1
  have hG : GoodIn Ts ws := fun w h => hT w (by unfold va_wsS; exact List.mem_append_right _ h)
  have hc : Cond.codeWith y bytes maxL ret hh ∈ ws := by rw [hw]; exact List.mem_cons_self
  refine ⟨⟨hrc, hrs, hR.1, hR.2, pay_in ht hG, hc⟩, ht _ (hG _ hc).1, ok _ (by simp [va_wsS]), ⟨hd.1, hd.2.1⟩, fun sig h => ?_, ok _ (by simp [va_wsS]), ok _ (by simp [va_wsS])⟩
  have h2 := hd.2.2
  rw [h] at h2
  exact (Option.some.inj h2).symm
theorem vx_callSW (X : Stand p l e R s m args below meth c T locs cells slots) (hexec : p.tables.exec = Jvm.exec) {own : String} {index : Nat} {y : MethodName} {bytes : ByteArray} {maxL : Nat} {ret : Option FieldType} {hh : List (Nat × Nat × Nat × Nat)}
    (hown : s.vm.findClass own = some m.cls) (hlink : (Cond.methodLink own index y).before args s = true) (hstat : (Cond.static y).before args s = true) (hinit : (Cond.initialized y.cls).before args s = true)
    (hcode : (Cond.codeWith y bytes maxL ret hh).before args s = true) (hy : y.cls ≠ "java/lang/invoke/MethodHandle" ∧ y.cls ≠ "java/lang/invoke/VarHandle")
    {W9 : Nat} {Pre : Pt → Array Value → Prop} {Post : Pt → Array Value → Option Value → Pt → Prop} (hK : Back l R p e below s args y 3 W9 Pre Post)
    {g : JFrame} (hg : g.method = m) (hsize : g.locals.size = c.maxLocals) {argsL rest : List Value} (hlen : ∀ sig, parseMethodDescriptor y.desc = some sig → argsL.length = sig.parameters.length)
    (hstack : g.stack = argsL.reverse ++ rest) (hW : 2 * g.monitorRoom + (rest.map fun v => v.category).sum ≤ W9) (hdg : decode c.code g.pc = .ok (.invokestatic index, 3))
    (hpre : ∀ vm₁, s.WarmedH vm₁ → Pre ⟨T.setVm vm₁, locs, cells, slots⟩ argsL.toArray) :
    ∃ (v : Option Value) (vm₁ : Vm) (B : Pt), s.WarmedH vm₁ ∧ Stand p l e R s m args below meth c B.U B.locs B.cells B.slots ∧ Post ⟨T.setVm vm₁, locs, cells, slots⟩ argsL.toArray v B ∧
      ∀ target, Steps p.tables e below (B.U.setTop { g with pc := g.pc + 3, stack := v.toList ++ rest }) target → Steps p.tables e below (T.setTop g) target := by
  obtain ⟨mk, methM, cM, hnamed, hmethM, -, -, -, -, -, -, hsigM⟩ := Cond.codeWith_spec hcode
  have hstatic : methM.isStatic = true := Cond.static_spec hnamed hmethM hstat
  obtain ⟨kP, hkP, -⟩ := className_of_methodNamed hnamed
  have hinitP : kP.init = .initialized := Cond.initialized_spec (findClass_of_methodNamed hnamed) hkP hinit
  obtain ⟨vm₁, X₁, hstep₁⟩ := X.invokestatic hexec hown hlink hnamed hmethM hstatic hkP hinitP hy (g := g) hg (argsL := argsL) (rest := rest) (hlen _ hsigM) hstack hdg
  obtain ⟨v, B, X', hpost, hsteps⟩ := hK m meth c ⟨T.setVm vm₁, locs, cells, slots⟩ { g with stack := rest } (.invokestatic index) mk argsL.toArray X₁ hg hsize hdg hW (X₁.named hnamed) (hpre vm₁ X₁.warmed)
  exact ⟨v, vm₁, B, X₁.warmed, X', hpost, fun target h => hstep₁ _ fun acts => by rw [doInvoke_state]; exact hsteps.trans h⟩
theorem vx_runSW {y : MethodName} {bytes cc : ByteArray} {maxL nL mc ms n index : Nat} {ret : Option FieldType} {hh : List (Nat × Nat × Nat × Nat)} {ws : List Cond} {rm : Room} {Pc : Array Value → State → Prop} {Qc : Array Value → State → Outcome → State → Prop} {free : Addr → Prop} {Ts : List Cond} {own : String} {As rest : List Value} {g : JFrame}
    (S : CallFix p m c cc nL s args Ts own) (hM : Met l y ws rm Pc Qc mc ms free) (cw : vx_CSW R s args own index y bytes maxL ret hh ws rm mc ms n) (hp : PreS s H Pc As)
    (hg : g.method = m) (hn : As.length = n) (hsize : g.locals.size = nL) (hstack : g.stack = As.reverse ++ rest) (hW : 2 * g.monitorRoom + (rest.map fun v => v.category).sum ≤ 8) (hdg : decode cc g.pc = .ok (.invokestatic index, 3)) (hf : cells + mc ≤ R.cells ∧ slots + ms ≤ R.slots) :
    va_Run p l e R s m args below meth c H locs cells slots mc ms g rest (Qc As.toArray) (free) := by
  obtain ⟨⟨hrc, hrs, hfr, hlo, hws, hcw⟩, hcode, hini, hy, hlen, hl, hstt⟩ := cw
  have hK : Back l R p e below s args y 3 8 (PreOf R mc ms Pc) (PostOf Qc mc ms free) := va_backW (hh := hh) (bytes := bytes) (maxL := maxL) (ret := ret) hM hp.1 hrc hrs hfr hlo hws hcw (fun a' U hW => word_at hW (Or.inl (by first | rfl | simp [Cond.onTables, Cond.keeps, Cond.steady])) hini)
  obtain ⟨hx, hb, hml, ho, -⟩ := S
  intro T hT X
  obtain ⟨v, vm₁, ⟨U', l2, c2, s2⟩, hW₁, X', ⟨g', mk, t, L, e1, e2, hq, h1, hL, h2, h3⟩, st⟩ := vx_callSW X hx (hh := hh) (bytes := bytes) (maxL := maxL) (ret := ret) ho hl hstt hini hcode hy hK hg (hsize.trans hml.symm) (argsL := As) (rest := rest) (fun sig h => hn.trans (hlen sig h)) hstack hW (by rw [hb]; exact hdg)
    (fun vm₁ hW₁ => ⟨hf.1, hf.2, hp.2 (T.setVm vm₁) hT hW₁⟩)
  dsimp only [Pt.U, Pt.locs, Pt.cells, Pt.slots] at X' e1 e2 h1 h2 h3 st
  subst h1; subst h2; subst h3
  exact ⟨v, (T.setVm vm₁).calling g' mk As.toArray, t, U', L, hT, X', hL, e1, e2, hq, st⟩
/-- not caught here, past rows that name other classes: it goes on to the caller -/
theorem vx_outP {p : Program} {l : Launch} {e : Env} {R : Room} {s : State} {m : MethodId} {args : Array Value} {below : List Frame} {meth : Method} {c : Code} {H : Heap} {locs : List Loc} {cells slots : Nat} {free : Addr → Prop} {ls : Array Slot} {rest : List Value} {Qc : Array Value → State → Outcome → State → Prop} {XC : String → State → State → Prop}
    {pc : Nat} {own E : String} {ce : Cell} {q : Addr} {mc ms : Nat} (hown : s.vm.findClass own = some m.cls) (hlocks : meth.locks = false)
    (hpass : ∀ z ∈ c.exceptionTable.toList, covers z pc = false ∨ (z.catchType ≠ 0 ∧ ∃ nm : String, (Cond.classLink own z.catchType nm).before args s = true ∧ va_Nc E nm s)) (hcell : H[q]? = some ce) (hv : ce.vm = .none) (hcl : s.vm.findClass E = some ce.cls)
    (hx : ∀ t : State, t.heap = H → s.vm.Alike t.vm → XC E s t) (hf : ∀ z ∈ locs, free z.base) (hc : cells ≤ mc) (hs : slots ≤ ms) :
    vx_W p l e R s m args below meth c H locs cells slots (vx_MQ below Qc XC args s mc ms free) (F0 m pc ls rest) q := by
  intro T hT X
  have hpl : e.platform.magicAccessors = ({} : Platform).magicAccessors := by rw [X.admits.platform]
  obtain ⟨vm', hW', X', st⟩ := X.outThrough hlocks q (g := F0 m pc ls rest) rfl rfl rfl (cell := ce) (by rw [hT]; exact hcell) (by rw [hv]; rfl)
    (by obtain ⟨k9, h9, -⟩ := Vm.findClass_spec hcl; exact ⟨k9, h9⟩) (fun z hz => by
      rcases hpass z hz with h | ⟨hz0, nm, hl1, hn1⟩
      · exact Or.inl h
      · obtain ⟨c6, hc6, hcl6⟩ := Cond.classLink_spec hown hl1 e.platform hpl
        obtain ⟨a8, b8, h1, h2, h3⟩ := hn1
        cases Option.some.inj (h1.symm.trans hcl)
        cases Option.some.inj (h2.symm.trans hc6)
        exact Or.inr ⟨hz0, _, hcl6, h3⟩)
  obtain ⟨g₀, hfr⟩ := X'.frames_eq
  have hcell9 : ((T.setVm vm').setFrames (.throwing q :: below)).heap[q]? = some ce := by
    show T.heap[q]? = some ce
    rw [hT]; exact hcell
  have hend : Ended ((T.setVm vm').setFrames (.throwing q :: below)) below (.threw q) := State.frames_setFrames _ (State.cur_lt_of_frames hfr)
  refine ⟨(T.setVm vm').setFrames (.throwing q :: below), ?_, .threw q, X'.here.running, hend, Or.inr ⟨q, rfl, E, ce, locs, hx _ hT (X'.ends _).1.alike, hcell9, hv, hcl, (X'.ends _).1, (X'.ends _).2.mono hc hs, hf⟩⟩
  rw [X.pushThrowing_eq]
  exact st
/-- a thing of a world lies in the heap -/
theorem vx_lt {D : va_G} {cl : List vw_C} {ws : va_W} {H1 : Heap} (h : va_P D cl ws H1) {k : Nat} {q : Nat × va_E} (hk : ws[k]? = some q) : q.1 < H1.size := (h k q hk).lt
end VXS
/-! ===== END ===== -/
/-! ===== BEGIN methods with a table of their own: called by a name, returning or throwing ===== -/
section VXH
/-! vx_backW, vx_callVX, vx_callSX, vx_callVW, vx_runVW, vx_runVX, vx_runSX, vx_ofWH follow the same proofs as their sisters above (Free/Laws.lean, Shelf42/LK1.lean); vx_outP calls Shelf42/NT130.lean (outThrough). -/
section
variable {l : Launch} {R : Room} {p : Program} {e : Env} {below : List Frame} {s : State} {sargs : Array Value} {y : MethodName} {len W9 : Nat}
theorem vx_backW {ws : List Cond} {rm : Room} {Pc : Array Value → State → Prop} {Qc : Array Value → State → Outcome → State → Prop} {XC : String → State → State → Prop} {mc ms : Nat} {free : Addr → Prop} {bytes : ByteArray} {maxL : Nat} {ret : Option FieldType} {hh : List (Nat × Nat × Nat × Nat)}
    (hM : vx_Met l y ws rm Pc Qc XC mc ms free) (hblind : FrameBlind Pc) (hrc : rm.cells = mc) (hrs : rm.slots = ms)
    (hframes : rm.frames + 1 ≤ R.frames) (hlocals : W9 + (maxL + 11) + rm.locals ≤ R.locals)
    (hws : ∀ w ∈ ws, ∀ a' U, s.WarmedH U.vm → w.before a' U = true) (hcode : Cond.codeWith y bytes maxL ret hh ∈ ws) (hinit : ∀ a' U, s.WarmedH U.vm → (Cond.initialized y.cls).before a' U = true) :
    vx_Back l R p e below s sargs y len W9 (PreOf R mc ms Pc) (PostOf Qc mc ms free) (vx_Post XC mc ms free) := by
  intro m meth c A g ig mk a X hg hsize hdg hW hn hp
  have h1 : (headSpec ws rm).pre.before a A.U = true := atoms_intro fun w hw => hws w hw _ _ X.warmed
  have h2 : (Cond.codeWith y bytes maxL ret hh).before a A.U = true := hws _ hcode _ _ X.warmed
  have h3 : (Cond.initialized y.cls).before a A.U = true := hinit _ _ X.warmed
  have h4 : A.cells + (headSpec ws rm).room.cells ≤ R.cells := by rw [show (headSpec ws rm).room.cells = mc from hrc]; exact hp.1
  have h5 : A.slots + (headSpec ws rm).room.slots ≤ R.slots := by rw [show (headSpec ws rm).room.slots = ms from hrs]; exact hp.2.1
  have hPc : Pc a (A.U.calling g mk a) := hblind _ _ _ _ hp.2.2
  obtain ⟨U, Ls, c0, s0⟩ := A
  dsimp only [Pt.U, Pt.locs, Pt.cells, Pt.slots] at h1 h2 h3 h4 h5 X hn hPc ⊢
  obtain ⟨m9, methY, cY, hn9, hmY, hcY, -, hlY, -⟩ := Cond.codeWith_spec h2
  cases Option.some.inj (hn9.symm.trans hn)
  obtain ⟨kY, hkY, -⟩ := className_of_methodNamed hn
  have hinitY : kY.init = .initialized := Cond.initialized_spec (findClass_of_methodNamed hn) hkY h3
  have h : At U g.method c below := by rw [hg]; exact X.here
  have hlocals9 : W9 + (maxL + 11) + (headSpec ws rm).room.locals ≤ R.locals := hlocals
  have happ : (headSpec ws rm).appliesLoose y e.platform (U.calling g mk a) = true :=
    Spec.appliesLoose_calling (g := g) h hdg hn hkY hinitY
      (X.room_calling (g := g) (R' := (headSpec ws rm).room) hsize hmY hcY hframes (by rw [hlY]; omega) h4 h5) h1
  obtain ⟨mid, hmid⟩ := h.above
  have hfr : (U.setTop g).frames = (.java g :: mid) ++ below := by rw [State.frames_setTop' g h.top, hmid]; rfl
  obtain ⟨o, s₂, hsteps, -, hend, hq⟩ := Steps.callFree hM p X.admits X.cas X.clock (acts := []) hfr happ hPc trivial
  have hq' : vx_Q Qc XC mc ms free a (U.calling g mk a) o s₂ := hq
  rw [State.frames_setTop' g h.top] at hend
  obtain ⟨g₀, hg0⟩ := Option.isSome_iff_exists.mp h.top
  obtain ⟨r, hr⟩ := State.topJava?_eq_some.mp hg0
  have hr' : (({ U with heap := s₂.heap, slotsUsed := s₂.slotsUsed } : State).setVm s₂.vm).frames = .java g₀ :: r := hr
  rcases hq' with ⟨hqc, L, hfe, hL⟩ | ⟨q, rfl, E, ce, L, hx, hce, hcv, hcl, hW₂, hsm, hL⟩
  · obtain ⟨⟨v, rfl⟩, hW₂, e2, q2, q3, q4, q5, q6⟩ := id hfe
    have e3 : s₂ = ({ (U.calling g mk a).setFrames s₂.frames with heap := s₂.heap, slotsUsed := s₂.slotsUsed } : State).setVm s₂.vm := by
      have : s₂ = ({ s₂ with vm := (U.calling g mk a).vm } : State).setVm s₂.vm := rfl
      rw [e2] at this
      exact this
    obtain ⟨c₂, i₂, len₂, hc₂, hd₂, hf₂⟩ := hend
    have hW' : U.WarmedH s₂.vm := hW₂
    have hcc : c₂ = c := by
      have h1 : s₂.code? g.method = U.code? g.method := by
        rw [State.code?_eq, State.code?_eq, hW'.alike.method?]
      exact Option.some.inj (hc₂.symm.trans (h1.trans h.code))
    subst hcc
    have hlen : len₂ = len := by rw [hdg] at hd₂; cases hd₂; rfl
    subst hlen
    have hs₂ : s₂ = (({ U with heap := s₂.heap, slotsUsed := s₂.slotsUsed } : State).setVm s₂.vm).setTop { g with pc := g.pc + len₂, stack := v.toList ++ g.stack } := by
      refine e3.trans ?_
      rw [hf₂, State.calling_eq h.top, State.setFrames_setFrames, State.setTop_of_frames _ hr', hr]
      rfl
    have hsame : U.sameButNew ({ U with heap := s₂.heap, slotsUsed := s₂.slotsUsed } : State) L mc ms := by
      refine ⟨?_, q2, q3, q4, q5, q6⟩
      obtain ⟨t, ht, -⟩ := State.frames_cons hr
      show ({ U with heap := s₂.heap, slotsUsed := s₂.slotsUsed } : State) = { U.setFrames U.frames with heap := s₂.heap, slotsUsed := s₂.slotsUsed }
      rw [State.setFrames_self ht]
    subst hg
    refine Or.inl ⟨v, ⟨(({ U with heap := s₂.heap, slotsUsed := s₂.slotsUsed } : State).setVm s₂.vm), Ls ++ L, c0 + mc, s0 + ms⟩,
      ⟨X.admits, X.cas, X.clock, X.frames, X.room, X.hears, X.method, X.code, (X.here.setHeapUsed s₂.heap s₂.slotsUsed).setVm hW'.alike, X.tail, State.WarmedH.trans X.warmed hW', X.limits, X.bytes, X.same.trans (hsame.setVm s.vm)⟩,
      ⟨g, mk, s₂, L, rfl, rfl, hqc, rfl, hL, rfl, rfl⟩, ?_⟩
    show Steps p.tables e below _ ((({ U with heap := s₂.heap, slotsUsed := s₂.slotsUsed } : State).setVm s₂.vm).setTop { g with pc := g.pc + len₂, stack := v.toList ++ g.stack })
    rw [← hs₂]
    exact hsteps
  · obtain ⟨e2, q2, q3, q4, q5, q6⟩ := id hsm
    have e3 : s₂ = ({ (U.calling g mk a).setFrames s₂.frames with heap := s₂.heap, slotsUsed := s₂.slotsUsed } : State).setVm s₂.vm := by
      have : s₂ = ({ s₂ with vm := (U.calling g mk a).vm } : State).setVm s₂.vm := rfl
      rw [e2] at this
      exact this
    have hf₂ : s₂.frames = .throwing q :: .java g :: U.frames.tail := hend
    have hW' : U.WarmedH s₂.vm := hW₂
    have hs₂ : s₂ = ((({ U with heap := s₂.heap, slotsUsed := s₂.slotsUsed } : State).setVm s₂.vm).setTop g).pushFrame (.throwing q) := by
      refine e3.trans ?_
      rw [hf₂, State.calling_eq h.top, State.setFrames_setFrames, State.pushFrame, State.frames_setTop _ hr', State.setTop_of_frames _ hr', State.setFrames_setFrames, hr]
      rfl
    have hsame : U.sameButNew ({ U with heap := s₂.heap, slotsUsed := s₂.slotsUsed } : State) L mc ms := by
      refine ⟨?_, q2, q3, q4, q5, q6⟩
      obtain ⟨t, ht, -⟩ := State.frames_cons hr
      show ({ U with heap := s₂.heap, slotsUsed := s₂.slotsUsed } : State) = { U.setFrames U.frames with heap := s₂.heap, slotsUsed := s₂.slotsUsed }
      rw [State.setFrames_self ht]
    subst hg
    refine Or.inr ⟨q, ⟨(({ U with heap := s₂.heap, slotsUsed := s₂.slotsUsed } : State).setVm s₂.vm), Ls ++ L, c0 + mc, s0 + ms⟩,
      ⟨X.admits, X.cas, X.clock, X.frames, X.room, X.hears, X.method, X.code, (X.here.setHeapUsed s₂.heap s₂.slotsUsed).setVm hW'.alike, X.tail, State.WarmedH.trans X.warmed hW', X.limits, X.bytes, X.same.trans (hsame.setVm s.vm)⟩,
      ⟨g, mk, s₂, L, E, ce, rfl, rfl, hx, hce, hcv, hcl, rfl, hL, rfl, rfl⟩, ?_⟩
    show Steps p.tables e below _ (((({ U with heap := s₂.heap, slotsUsed := s₂.slotsUsed } : State).setVm s₂.vm).setTop g).pushFrame (.throwing q))
    rw [← hs₂]
    exact hsteps
end
variable {p : Program} {l : Launch} {e : Env} {R : Room} {s : State} {m : MethodId} {args : Array Value} {below : List Frame} {meth : Method} {c : Code} {T : State} {H : Heap} {locs : List Loc} {cells slots : Nat}
theorem vx_callVX (X : Stand p l e R s m args below meth c T locs cells slots) (hexec : p.tables.exec = Jvm.exec) {own C : String} {index : Nat} {y : MethodName} {bytes : ByteArray} {maxL : Nat} {ret : Option FieldType} {hh : List (Nat × Nat × Nat × Nat)}
    (hown : s.vm.findClass own = some m.cls) (hlink : (Cond.methodLink own index y).before args s = true) (hinst : (Cond.instanceMethod y).before args s = true) (hsel : (Cond.selects C y y).before args s = true)
    (hcode : (Cond.codeWith y bytes maxL ret hh).before args s = true) (hy : y.cls ≠ "java/lang/invoke/MethodHandle" ∧ y.cls ≠ "java/lang/invoke/VarHandle")
    {W9 : Nat} {Pre : Pt → Array Value → Prop} {Post : Pt → Array Value → Option Value → Pt → Prop} {PostX : Pt → Array Value → Addr → Pt → Prop} (hK : vx_Back l R p e below s args y 3 W9 Pre Post PostX)
    {b : Addr} {cellB : Cell} (hcell : T.heap[b]? = some cellB) (hobj : cellB.vm.isStatics = false) (hcls : s.vm.findClass C = some cellB.cls)
    {g : JFrame} (hg : g.method = m) (hsize : g.locals.size = c.maxLocals) {argsL rest : List Value} (hlen : ∀ sig, parseMethodDescriptor y.desc = some sig → argsL.length = sig.parameters.length)
    (hstack : g.stack = argsL.reverse ++ .ref b :: rest) (hW : 2 * g.monitorRoom + (rest.map fun v => v.category).sum ≤ W9) (hdg : decode c.code g.pc = .ok (.invokevirtual index, 3))
    (hpre : ∀ vm₁, s.WarmedH vm₁ → Pre ⟨T.setVm vm₁, locs, cells, slots⟩ (Value.ref b :: argsL).toArray) :
    (∃ (v : Option Value) (vm₁ : Vm) (B : Pt), s.WarmedH vm₁ ∧ Stand p l e R s m args below meth c B.U B.locs B.cells B.slots ∧ Post ⟨T.setVm vm₁, locs, cells, slots⟩ (Value.ref b :: argsL).toArray v B ∧
      ∀ target, Steps p.tables e below (B.U.setTop { g with pc := g.pc + 3, stack := v.toList ++ rest }) target → Steps p.tables e below (T.setTop g) target) ∨
    (∃ (q : Addr) (vm₁ : Vm) (B : Pt), s.WarmedH vm₁ ∧ Stand p l e R s m args below meth c B.U B.locs B.cells B.slots ∧ PostX ⟨T.setVm vm₁, locs, cells, slots⟩ (Value.ref b :: argsL).toArray q B ∧
      Steps p.tables e below (T.setTop g) ((B.U.setTop { g with stack := rest }).pushFrame (.throwing q))) := by
  obtain ⟨mk, methM, hnamed, hmethM, hstM, habM⟩ := Cond.instanceMethod_spec hinst
  obtain ⟨m8, methM', cM, hn8, hmethM', -, -, -, -, -, -, hsigM⟩ := Cond.codeWith_spec hcode
  cases Option.some.inj (hn8.symm.trans hnamed)
  cases hmethM.symm.trans hmethM'
  obtain ⟨c2, r2, m2, q1, q2, q3, q4, kP, hkP, hkPi⟩ := Cond.selects_spec hsel
  cases hcls.symm.trans q1
  cases (State.methodFound?_of_named hnamed hy).symm.trans q2
  cases hnamed.symm.trans q3
  have hselP : selectMethod e.platform s.vm cellB.cls mk = .method mk := by rw [Launch.admits_selectMethod X.admits]; exact q4
  obtain ⟨vm₁, X₁, hstep₁⟩ := X.invokevirtual hexec hown hlink hnamed hmethM hstM hkP hkPi hy (a := b) (cell := cellB) hcell
    (fun z h => by rw [h] at hobj; cases hobj) hselP hmethM habM hkP hkPi (g := g) hg (argsL := argsL) (rest := rest) (hlen _ hsigM) hstack hdg
  rcases hK m meth c ⟨T.setVm vm₁, locs, cells, slots⟩ { g with stack := rest } (.invokevirtual index) mk (Value.ref b :: argsL).toArray X₁ hg hsize hdg hW (X₁.named hnamed) (hpre vm₁ X₁.warmed) with ⟨v, B, X', hpost, hsteps⟩ | ⟨q, B, X', hpost, hsteps⟩
  · exact Or.inl ⟨v, vm₁, B, X₁.warmed, X', hpost, fun target h => hstep₁ _ fun acts => by rw [doInvoke_state]; exact hsteps.trans h⟩
  · exact Or.inr ⟨q, vm₁, B, X₁.warmed, X', hpost, hstep₁ _ fun acts => by rw [doInvoke_state]; exact hsteps⟩
theorem vx_callSX (X : Stand p l e R s m args below meth c T locs cells slots) (hexec : p.tables.exec = Jvm.exec) {own : String} {index : Nat} {y : MethodName} {bytes : ByteArray} {maxL : Nat} {ret : Option FieldType} {hh : List (Nat × Nat × Nat × Nat)}
    (hown : s.vm.findClass own = some m.cls) (hlink : (Cond.methodLink own index y).before args s = true) (hstat : (Cond.static y).before args s = true) (hinit : (Cond.initialized y.cls).before args s = true)
    (hcode : (Cond.codeWith y bytes maxL ret hh).before args s = true) (hy : y.cls ≠ "java/lang/invoke/MethodHandle" ∧ y.cls ≠ "java/lang/invoke/VarHandle")
    {W9 : Nat} {Pre : Pt → Array Value → Prop} {Post : Pt → Array Value → Option Value → Pt → Prop} {PostX : Pt → Array Value → Addr → Pt → Prop} (hK : vx_Back l R p e below s args y 3 W9 Pre Post PostX)
    {g : JFrame} (hg : g.method = m) (hsize : g.locals.size = c.maxLocals) {argsL rest : List Value} (hlen : ∀ sig, parseMethodDescriptor y.desc = some sig → argsL.length = sig.parameters.length)
    (hstack : g.stack = argsL.reverse ++ rest) (hW : 2 * g.monitorRoom + (rest.map fun v => v.category).sum ≤ W9) (hdg : decode c.code g.pc = .ok (.invokestatic index, 3))
    (hpre : ∀ vm₁, s.WarmedH vm₁ → Pre ⟨T.setVm vm₁, locs, cells, slots⟩ argsL.toArray) :
    (∃ (v : Option Value) (vm₁ : Vm) (B : Pt), s.WarmedH vm₁ ∧ Stand p l e R s m args below meth c B.U B.locs B.cells B.slots ∧ Post ⟨T.setVm vm₁, locs, cells, slots⟩ argsL.toArray v B ∧
      ∀ target, Steps p.tables e below (B.U.setTop { g with pc := g.pc + 3, stack := v.toList ++ rest }) target → Steps p.tables e below (T.setTop g) target) ∨
    (∃ (q : Addr) (vm₁ : Vm) (B : Pt), s.WarmedH vm₁ ∧ Stand p l e R s m args below meth c B.U B.locs B.cells B.slots ∧ PostX ⟨T.setVm vm₁, locs, cells, slots⟩ argsL.toArray q B ∧
      Steps p.tables e below (T.setTop g) ((B.U.setTop { g with stack := rest }).pushFrame (.throwing q))) := by
  obtain ⟨mk, methM, cM, hnamed, hmethM, -, -, -, -, -, -, hsigM⟩ := Cond.codeWith_spec hcode
  have hstatic : methM.isStatic = true := Cond.static_spec hnamed hmethM hstat
  obtain ⟨kP, hkP, -⟩ := className_of_methodNamed hnamed
  have hinitP : kP.init = .initialized := Cond.initialized_spec (findClass_of_methodNamed hnamed) hkP hinit
  obtain ⟨vm₁, X₁, hstep₁⟩ := X.invokestatic hexec hown hlink hnamed hmethM hstatic hkP hinitP hy (g := g) hg (argsL := argsL) (rest := rest) (hlen _ hsigM) hstack hdg
  rcases hK m meth c ⟨T.setVm vm₁, locs, cells, slots⟩ { g with stack := rest } (.invokestatic index) mk argsL.toArray X₁ hg hsize hdg hW (X₁.named hnamed) (hpre vm₁ X₁.warmed) with ⟨v, B, X', hpost, hsteps⟩ | ⟨q, B, X', hpost, hsteps⟩
  · exact Or.inl ⟨v, vm₁, B, X₁.warmed, X', hpost, fun target h => hstep₁ _ fun acts => by rw [doInvoke_state]; exact hsteps.trans h⟩
  · exact Or.inr ⟨q, vm₁, B, X₁.warmed, X', hpost, hstep₁ _ fun acts => by rw [doInvoke_state]; exact hsteps⟩
theorem vx_callVW (X : Stand p l e R s m args below meth c T locs cells slots) (hexec : p.tables.exec = Jvm.exec) {own C : String} {index : Nat} {y : MethodName} {bytes : ByteArray} {maxL : Nat} {ret : Option FieldType} {hh : List (Nat × Nat × Nat × Nat)}
    (hown : s.vm.findClass own = some m.cls) (hlink : (Cond.methodLink own index y).before args s = true) (hinst : (Cond.instanceMethod y).before args s = true) (hsel : (Cond.selects C y y).before args s = true)
    (hcode : (Cond.codeWith y bytes maxL ret hh).before args s = true) (hy : y.cls ≠ "java/lang/invoke/MethodHandle" ∧ y.cls ≠ "java/lang/invoke/VarHandle")
    {W9 : Nat} {Pre : Pt → Array Value → Prop} {Post : Pt → Array Value → Option Value → Pt → Prop} (hK : Back l R p e below s args y 3 W9 Pre Post)
    {b : Addr} {cellB : Cell} (hcell : T.heap[b]? = some cellB) (hobj : cellB.vm.isStatics = false) (hcls : s.vm.findClass C = some cellB.cls)
    {g : JFrame} (hg : g.method = m) (hsize : g.locals.size = c.maxLocals) {argsL rest : List Value} (hlen : ∀ sig, parseMethodDescriptor y.desc = some sig → argsL.length = sig.parameters.length)
    (hstack : g.stack = argsL.reverse ++ .ref b :: rest) (hW : 2 * g.monitorRoom + (rest.map fun v => v.category).sum ≤ W9) (hdg : decode c.code g.pc = .ok (.invokevirtual index, 3))
    (hpre : ∀ vm₁, s.WarmedH vm₁ → Pre ⟨T.setVm vm₁, locs, cells, slots⟩ (Value.ref b :: argsL).toArray) :
    ∃ (v : Option Value) (vm₁ : Vm) (B : Pt), s.WarmedH vm₁ ∧ Stand p l e R s m args below meth c B.U B.locs B.cells B.slots ∧ Post ⟨T.setVm vm₁, locs, cells, slots⟩ (Value.ref b :: argsL).toArray v B ∧
      ∀ target, Steps p.tables e below (B.U.setTop { g with pc := g.pc + 3, stack := v.toList ++ rest }) target → Steps p.tables e below (T.setTop g) target := by
  obtain ⟨mk, methM, hnamed, hmethM, hstM, habM⟩ := Cond.instanceMethod_spec hinst
  obtain ⟨m8, methM', cM, hn8, hmethM', -, -, -, -, -, -, hsigM⟩ := Cond.codeWith_spec hcode
  cases Option.some.inj (hn8.symm.trans hnamed)
  cases hmethM.symm.trans hmethM'
  obtain ⟨c2, r2, m2, q1, q2, q3, q4, kP, hkP, hkPi⟩ := Cond.selects_spec hsel
  cases hcls.symm.trans q1
  cases (State.methodFound?_of_named hnamed hy).symm.trans q2
  cases hnamed.symm.trans q3
  have hselP : selectMethod e.platform s.vm cellB.cls mk = .method mk := by rw [Launch.admits_selectMethod X.admits]; exact q4
  obtain ⟨vm₁, X₁, hstep₁⟩ := X.invokevirtual hexec hown hlink hnamed hmethM hstM hkP hkPi hy (a := b) (cell := cellB) hcell
    (fun z h => by rw [h] at hobj; cases hobj) hselP hmethM habM hkP hkPi (g := g) hg (argsL := argsL) (rest := rest) (hlen _ hsigM) hstack hdg
  obtain ⟨v, B, X', hpost, hsteps⟩ := hK m meth c ⟨T.setVm vm₁, locs, cells, slots⟩ { g with stack := rest } (.invokevirtual index) mk (Value.ref b :: argsL).toArray X₁ hg hsize hdg hW (X₁.named hnamed) (hpre vm₁ X₁.warmed)
  exact ⟨v, vm₁, B, X₁.warmed, X', hpost, fun target h => hstep₁ _ fun acts => by rw [doInvoke_state]; exact hsteps.trans h⟩
abbrev vx_CVW (R : Room) (s : State) (args : Array Value) (own C : String) (index : Nat) (y : MethodName) (bytes : ByteArray) (maxL : Nat) (ret : Option FieldType) (hh : List (Nat × Nat × Nat × Nat)) (ws : List Cond) (rm : Room) (mc ms n : Nat) : Prop :=
  (rm.cells = mc ∧ rm.slots = ms ∧ rm.frames + 1 ≤ R.frames ∧ 8 + (maxL + 11) + rm.locals ≤ R.locals ∧ (∀ w ∈ ws, ∀ (a' : Array Value) (U : State), s.WarmedH U.vm → w.before a' U = true) ∧ Cond.codeWith y bytes maxL ret hh ∈ ws) ∧
  (Cond.codeWith y bytes maxL ret hh).before args s = true ∧ (Cond.initialized y.cls).before args s = true ∧ (y.cls ≠ "java/lang/invoke/MethodHandle" ∧ y.cls ≠ "java/lang/invoke/VarHandle") ∧
  (∀ sig, parseMethodDescriptor y.desc = some sig → n = sig.parameters.length) ∧ (Cond.methodLink own index y).before args s = true ∧ (Cond.instanceMethod y).before args s = true ∧ (Cond.selects C y y).before args s = true
theorem vx_cwVW {own C : String} {index maxL mc ms : Nat} {y : MethodName} {bytes : ByteArray} {ret : Option FieldType} {hh : List (Nat × Nat × Nat × Nat)} {Ts ws ws' : List Cond} {rm : Room} (n : Nat) (ht : ∀ w ∈ Ts, w.before args s = true) (hT : GoodIn Ts (wsV own index C y ws)) (hw : ws = Cond.codeWith y bytes maxL ret hh :: ws') (hrc : rm.cells = mc) (hrs : rm.slots = ms)
    (hd : y.cls = C ∧ y.cls ≠ "java/lang/invoke/MethodHandle" ∧ y.cls ≠ "java/lang/invoke/VarHandle" ∧ (parseMethodDescriptor y.desc).map (fun d => d.parameters.length) = some n) (hR : rm.frames + 1 ≤ R.frames ∧ 8 + (maxL + 11) + rm.locals ≤ R.locals) :
    vx_CVW R s args own C index y bytes maxL ret hh ws rm mc ms n := by
  obtain ⟨hC, hd⟩ := hd
  subst hC
  have ok : ∀ w ∈ wsV own index y.cls y ws, w.before args s = true := fun w h => ht w (hT w h).1
  have hG : GoodIn Ts ws := fun w h => hT w (by unfold wsV; exact List.mem_append_right _ h)
  have hc : Cond.codeWith y bytes maxL ret hh ∈ ws := by rw [hw]; exact List.mem_cons_self
  refine ⟨⟨hrc, hrs, hR.1, hR.2, pay_in ht hG, hc⟩, ht _ (hG _ hc).1, ok _ (by simp [wsV]), ⟨hd.1, hd.2.1⟩, fun sig h => ?_, ok _ (by simp [wsV]), ok _ (by simp [wsV]), ok _ (by simp [wsV])⟩
  have h2 := hd.2.2
  rw [h] at h2
  exact (Option.some.inj h2).symm
theorem vx_runVW {y : MethodName} {bytes cc : ByteArray} {maxL nL mc ms n index : Nat} {ret : Option FieldType} {hh : List (Nat × Nat × Nat × Nat)} {ws : List Cond} {rm : Room} {Pc : Array Value → State → Prop} {Qc : Array Value → State → Outcome → State → Prop} {free : Addr → Prop} {Ts : List Cond} {own C : String} {b : Addr} {As rest : List Value} {g : JFrame}
    (S : CallFix p m c cc nL s args Ts own) (hM : Met l y ws rm Pc Qc mc ms free) (cw : vx_CVW R s args own C index y bytes maxL ret hh ws rm mc ms n) (hp : PreV s H C b Pc As)
    (hg : g.method = m) (hn : As.length = n) (hsize : g.locals.size = nL) (hstack : g.stack = As.reverse ++ .ref b :: rest) (hW : 2 * g.monitorRoom + (rest.map fun v => v.category).sum ≤ 8) (hdg : decode cc g.pc = .ok (.invokevirtual index, 3)) (hf : cells + mc ≤ R.cells ∧ slots + ms ≤ R.slots) :
    va_Run p l e R s m args below meth c H locs cells slots mc ms g rest (Qc (Value.ref b :: As).toArray) free := by
  obtain ⟨⟨hrc, hrs, hfr, hlo, hws, hcw⟩, hcode, hini, hy, hlen, hl, hin, hse⟩ := cw
  have hK : Back l R p e below s args y 3 8 (PreOf R mc ms Pc) (PostOf Qc mc ms free) := va_backW (hh := hh) (bytes := bytes) (maxL := maxL) (ret := ret) hM hp.1 hrc hrs hfr hlo hws hcw (fun a' U hW => word_at hW (Or.inl (by first | rfl | simp [Cond.onTables, Cond.keeps, Cond.steady])) hini)
  obtain ⟨hx, hb, hml, ho, -⟩ := S
  obtain ⟨-, ⟨cellB, hcB, hoB, hclB⟩, hPc⟩ := hp
  intro T hT X
  obtain ⟨v, vm₁, ⟨U', l2, c2, s2⟩, hW₁, X', ⟨g', mk, t, L, e1, e2, hq, h1, hL, h2, h3⟩, st⟩ := vx_callVW X hx (C := C) (hh := hh) (bytes := bytes) (maxL := maxL) (ret := ret) ho hl hin hse hcode hy hK (by rw [hT]; exact hcB) hoB hclB hg (hsize.trans hml.symm) (argsL := As) (rest := rest) (fun sig h => hn.trans (hlen sig h)) hstack hW (by rw [hb]; exact hdg)
    (fun vm₁ hW₁ => ⟨hf.1, hf.2, hPc (T.setVm vm₁) hT hW₁⟩)
  dsimp only [Pt.U, Pt.locs, Pt.cells, Pt.slots] at X' e1 e2 h1 h2 h3 st
  subst h1; subst h2; subst h3
  exact ⟨v, (T.setVm vm₁).calling g' mk (Value.ref b :: As).toArray, t, U', L, hT, X', hL, e1, e2, hq, st⟩
section
variable {y : MethodName} {bytes cc : ByteArray} {maxL nL mc ms n index : Nat} {ret : Option FieldType} {ws : List Cond} {rm : Room} {Pc : Array Value → State → Prop} {Qc : Array Value → State → Outcome → State → Prop} {XC : String → State → State → Prop} {free : Addr → Prop} {Ts : List Cond} {own C : String} {b : Addr} {As rest : List Value} {g : JFrame}
theorem vx_runVX {hh : List (Nat × Nat × Nat × Nat)} (S : CallFix p m c cc nL s args Ts own) (hM : vx_Met l y ws rm Pc Qc XC mc ms free) (cw : vx_CVW R s args own C index y bytes maxL ret hh ws rm mc ms n) (hp : PreV s H C b Pc As)
    (hg : g.method = m) (hn : As.length = n) (hsize : g.locals.size = nL) (hstack : g.stack = As.reverse ++ .ref b :: rest) (hW : 2 * g.monitorRoom + (rest.map fun v => v.category).sum ≤ 8) (hdg : decode cc g.pc = .ok (.invokevirtual index, 3)) (hf : cells + mc ≤ R.cells ∧ slots + ms ≤ R.slots) :
    vx_Run p l e R s m args below meth c H locs cells slots mc ms g rest (Qc (Value.ref b :: As).toArray) XC free := by
  obtain ⟨⟨hrc, hrs, hfr, hlo, hws, hcw⟩, hcode, hini, hy, hlen, hl, hin, hse⟩ := cw
  have hK : vx_Back l R p e below s args y 3 8 (PreOf R mc ms Pc) (PostOf Qc mc ms free) (vx_Post XC mc ms free) := vx_backW (hh := hh) (bytes := bytes) (maxL := maxL) (ret := ret) hM hp.1 hrc hrs hfr hlo hws hcw (fun a' U hW => word_at hW (Or.inl (by first | rfl | simp [Cond.onTables, Cond.keeps, Cond.steady])) hini)
  obtain ⟨hx, hb, hml, ho, -⟩ := S
  obtain ⟨-, ⟨cellB, hcB, hoB, hclB⟩, hPc⟩ := hp
  intro T hT X
  rcases vx_callVX X hx (C := C) (hh := hh) (bytes := bytes) (maxL := maxL) (ret := ret) ho hl hin hse hcode hy hK (by rw [hT]; exact hcB) hoB hclB hg (hsize.trans hml.symm) (argsL := As) (rest := rest) (fun sig h => hn.trans (hlen sig h)) hstack hW (by rw [hb]; exact hdg)
    (fun vm₁ hW₁ => ⟨hf.1, hf.2, hPc (T.setVm vm₁) hT hW₁⟩) with ⟨v, vm₁, ⟨U', l2, c2, s2⟩, hW₁, X', ⟨g', mk, t, L, e1, e2, hq, h1, hL, h2, h3⟩, st⟩ | ⟨q, vm₁, ⟨U', l2, c2, s2⟩, hW₁, X', ⟨g', mk, t, L, E, ce, e1, e2, hq, hce, hcv, hcl, h1, hL, h2, h3⟩, st⟩
  · dsimp only [Pt.U, Pt.locs, Pt.cells, Pt.slots] at X' e1 e2 h1 h2 h3 st
    subst h1; subst h2; subst h3
    exact Or.inl ⟨v, (T.setVm vm₁).calling g' mk (Value.ref b :: As).toArray, t, U', L, hT, X', hL, e1, e2, hq, st⟩
  · dsimp only [Pt.U, Pt.locs, Pt.cells, Pt.slots] at X' e1 e2 h1 h2 h3 st hcl
    subst h1; subst h2; subst h3
    exact Or.inr ⟨q, (T.setVm vm₁).calling g' mk (Value.ref b :: As).toArray, t, U', L, E, ce, hT, X', hL, e1, e2, hq, hce, hcv, vx_cls hW₁ hcl, st⟩
theorem vx_runSX {hh : List (Nat × Nat × Nat × Nat)} (S : CallFix p m c cc nL s args Ts own) (hM : vx_Met l y ws rm Pc Qc XC mc ms free) (cw : vx_CSW R s args own index y bytes maxL ret hh ws rm mc ms n) (hp : PreS s H Pc As)
    (hg : g.method = m) (hn : As.length = n) (hsize : g.locals.size = nL) (hstack : g.stack = As.reverse ++ rest) (hW : 2 * g.monitorRoom + (rest.map fun v => v.category).sum ≤ 8) (hdg : decode cc g.pc = .ok (.invokestatic index, 3)) (hf : cells + mc ≤ R.cells ∧ slots + ms ≤ R.slots) :
    vx_Run p l e R s m args below meth c H locs cells slots mc ms g rest (Qc As.toArray) XC free := by
  obtain ⟨⟨hrc, hrs, hfr, hlo, hws, hcw⟩, hcode, hini, hy, hlen, hl, hstt⟩ := cw
  have hK : vx_Back l R p e below s args y 3 8 (PreOf R mc ms Pc) (PostOf Qc mc ms free) (vx_Post XC mc ms free) := vx_backW (hh := hh) (bytes := bytes) (maxL := maxL) (ret := ret) hM hp.1 hrc hrs hfr hlo hws hcw (fun a' U hW => word_at hW (Or.inl (by first | rfl | simp [Cond.onTables, Cond.keeps, Cond.steady])) hini)
  obtain ⟨hx, hb, hml, ho, -⟩ := S
  intro T hT X
  rcases vx_callSX X hx (hh := hh) (bytes := bytes) (maxL := maxL) (ret := ret) ho hl hstt hini hcode hy hK hg (hsize.trans hml.symm) (argsL := As) (rest := rest) (fun sig h => hn.trans (hlen sig h)) hstack hW (by rw [hb]; exact hdg)
    (fun vm₁ hW₁ => ⟨hf.1, hf.2, hp.2 (T.setVm vm₁) hT hW₁⟩) with ⟨v, vm₁, ⟨U', l2, c2, s2⟩, hW₁, X', ⟨g', mk, t, L, e1, e2, hq, h1, hL, h2, h3⟩, st⟩ | ⟨q, vm₁, ⟨U', l2, c2, s2⟩, hW₁, X', ⟨g', mk, t, L, E, ce, e1, e2, hq, hce, hcv, hcl, h1, hL, h2, h3⟩, st⟩
  · dsimp only [Pt.U, Pt.locs, Pt.cells, Pt.slots] at X' e1 e2 h1 h2 h3 st
    subst h1; subst h2; subst h3
    exact Or.inl ⟨v, (T.setVm vm₁).calling g' mk As.toArray, t, U', L, hT, X', hL, e1, e2, hq, st⟩
  · dsimp only [Pt.U, Pt.locs, Pt.cells, Pt.slots] at X' e1 e2 h1 h2 h3 st hcl
    subst h1; subst h2; subst h3
    exact Or.inr ⟨q, (T.setVm vm₁).calling g' mk As.toArray, t, U', L, E, ce, hT, X', hL, e1, e2, hq, hce, hcv, vx_cls hW₁ hcl, st⟩
end
end VXH
theorem vx_ofWH {l : Launch} {y : MethodName} {ws ws' : List Cond} {rm : Room} {Pc : Array Value → State → Prop} {Qc : Array Value → State → Outcome → State → Prop} {XC : String → State → State → Prop} {mc ms : Nat} {free : Addr → Prop} {cc : ByteArray} {maxL : Nat} {ret : Option FieldType} {hh : List (Nat × Nat × Nat × Nat)}
    (hy : plainName y.cls = true) (hw : ws = Cond.codeWith y cc maxL ret hh :: ws')
    (body : ∀ p e s m args below meth c s₁, BodyLoose p l y (headSpec ws rm) cc maxL ret e s m args below meth c s₁ → c.maxLocals = maxL → Pc args s →
      W p l e (headSpec ws rm).room s m args below meth c s.heap [] 0 0 (vx_MQ below Qc XC args s mc ms free) (entryFrame m args maxL)) : vx_Met l y ws rm Pc Qc XC mc ms free := by
  refine MetFree.of_bodyS (code := cc) (maxLocals := maxL) (ret := ret) hy ?_ ?_
  · intro args s m h hn
    obtain ⟨m9, meth, c, hn9, h1, h2, h3, h4, -, h5, h6, -⟩ := Cond.codeWith_spec (atoms_spec (ws := ws) h _ (by rw [hw]; exact List.mem_cons_self))
    cases hn.symm.trans hn9
    exact ⟨meth, c, h1, h2, h3, h4, h5, h6⟩
  · intro p e s m args below meth c s₁ B hml hP _
    have hh0 : s₁.heap = s.heap := by rw [B.state]; rfl
    obtain ⟨t, a1, o, b1, b2, b3⟩ := body p e s m args below meth c s₁ B hml hP s₁ hh0 (Stand.of_body B)
    exact ⟨t, o, a1, b1, b2, b3⟩
/-! ===== END ===== -/
end
section
/-! ===== BEGIN printed: names, fields, word lists, decode rows ===== -/
def RX0 : String := "CrashDesk$Car"
def TX0 : u_T := fun k => match k with
  | 0 => ("CrashDesk$Car", "mass", "I", false)
  | 1 => ("CrashDesk$Car", "first", "LCrashDesk$Speed;", true)
  | 2 => ("CrashDesk$Car", "at", "LCrashDesk$Speed;", true)
  | 3 => ("CrashDesk$Car", "after", "LCrashDesk$Speed;", true)
  | 4 => ("CrashDesk$Car", "firstCounts", "[I", true)
  | 5 => ("CrashDesk$Car", "aheadLeast", "I", false)
  | 6 => ("CrashDesk$Car", "aheadGreatest", "I", false)
  | 7 => ("CrashDesk$Car", "behindLeast", "I", false)
  | 8 => ("CrashDesk$Car", "behindGreatest", "I", false)
  | _ => ("CrashDesk$Car", "skidsBehind", "Z", false)
def tyX0 : Nat → FieldType := fun k => match k with
  | 0 => .int
  | 1 => .object "CrashDesk$Speed"
  | 2 => .object "CrashDesk$Speed"
  | 3 => .object "CrashDesk$Speed"
  | 4 => .array .int
  | 5 => .int
  | 6 => .int
  | 7 => .int
  | 8 => .int
  | _ => .boolean
abbrev wsX00 : List Cond := u_ws RX0 TX0 10
theorem nmX0 : ∀ a, a < 10 → ∀ b, b < 10 → a ≠ b → (TX0 a).2.1 ≠ (TX0 b).2.1 := by decide +kernel
theorem tyX0_ok : ∀ k, k < 10 → parseFieldDescriptor (TX0 k).2.2.1 = some (tyX0 k) := by decide +kernel
abbrev cX0_init : ByteArray := prog_2_method_1_code
def yX0_init : MethodName := ⟨RX0, "<init>", "()V"⟩
abbrev cX0_pick : ByteArray := prog_2_method_2_code
def yX0_pick : MethodName := ⟨RX0, "pick", "(I)LCrashDesk$Speed;"⟩
abbrev cX0_clear : ByteArray := prog_2_method_3_code
def yX0_clear : MethodName := ⟨RX0, "clear", "()V"⟩
abbrev cX0_add : ByteArray := prog_2_method_4_code
def yX0_add : MethodName := ⟨RX0, "add", "(LCrashDesk$Skid;)V"⟩
abbrev cX0_settle : ByteArray := prog_2_method_5_code
def yX0_settle : MethodName := ⟨RX0, "settle", "()V"⟩
abbrev cX0_firstCount : ByteArray := prog_2_method_6_code
def yX0_firstCount : MethodName := ⟨RX0, "firstCount", "(I)I"⟩
abbrev cX0_seeFirsts : ByteArray := prog_2_method_7_code
def yX0_seeFirsts : MethodName := ⟨RX0, "seeFirsts", "()V"⟩
abbrev cX0_joinFirsts : ByteArray := prog_2_method_8_code
def yX0_joinFirsts : MethodName := ⟨RX0, "joinFirsts", "(I)V"⟩
abbrev cX0_firstFor : ByteArray := prog_2_method_9_code
def yX0_firstFor : MethodName := ⟨RX0, "firstFor", "(II)I"⟩
abbrev cX0_isTakenAhead : ByteArray := prog_2_method_10_code
def yX0_isTakenAhead : MethodName := ⟨RX0, "isTakenAhead", "(II)Z"⟩
abbrev cX0_isTakenBehind : ByteArray := prog_2_method_11_code
def yX0_isTakenBehind : MethodName := ⟨RX0, "isTakenBehind", "(I)Z"⟩
def RX1 : String := "CrashDesk$Meeting"
def TX1 : u_T := fun k => match k with
  | 0 => ("CrashDesk$Meeting", "zero", "LCrashDesk$Car;", true)
  | 1 => ("CrashDesk$Meeting", "one", "LCrashDesk$Car;", true)
  | 2 => ("CrashDesk$Meeting", "wayCount", "J", false)
  | 3 => ("CrashDesk$Meeting", "cheapest", "I", false)
  | 4 => ("CrashDesk$Meeting", "loss", "I", false)
  | _ => ("CrashDesk$Meeting", "gain", "I", false)
def tyX1 : Nat → FieldType := fun k => match k with
  | 0 => .object "CrashDesk$Car"
  | 1 => .object "CrashDesk$Car"
  | 2 => .long
  | 3 => .int
  | 4 => .int
  | _ => .int
abbrev wsX10 : List Cond := u_ws RX1 TX1 6
theorem nmX1 : ∀ a, a < 6 → ∀ b, b < 6 → a ≠ b → (TX1 a).2.1 ≠ (TX1 b).2.1 := by decide +kernel
theorem tyX1_ok : ∀ k, k < 6 → parseFieldDescriptor (TX1 k).2.2.1 = some (tyX1 k) := by decide +kernel
abbrev cX1_init : ByteArray := prog_3_method_1_code
def yX1_init : MethodName := ⟨RX1, "<init>", "()V"⟩
abbrev cX1_pick : ByteArray := prog_3_method_2_code
def yX1_pick : MethodName := ⟨RX1, "pick", "(I)LCrashDesk$Car;"⟩
abbrev cX1_reckon : ByteArray := prog_3_method_3_code
def yX1_reckon : MethodName := ⟨RX1, "reckon", "()V"⟩
abbrev cX1_lowestShare : ByteArray := prog_3_method_4_code
def yX1_lowestShare : MethodName := ⟨RX1, "lowestShare", "(II)I"⟩
abbrev cX1_pushFrom : ByteArray := prog_3_method_5_code
def yX1_pushFrom : MethodName := ⟨RX1, "pushFrom", "(I)V"⟩
abbrev cX1_meet : ByteArray := prog_3_method_6_code
def yX1_meet : MethodName := ⟨RX1, "meet", "(II)V"⟩
def RX2 : String := "CrashDesk$Skid"
def TX2 : u_T := fun k => match k with
  | 0 => ("CrashDesk$Skid", "car", "I", false)
  | 1 => ("CrashDesk$Skid", "behind", "Z", false)
  | 2 => ("CrashDesk$Skid", "least", "I", false)
  | 3 => ("CrashDesk$Skid", "greatest", "I", false)
  | _ => ("CrashDesk$Skid", "counts", "Z", false)
def tyX2 : Nat → FieldType := fun k => match k with
  | 0 => .int
  | 1 => .boolean
  | 2 => .int
  | 3 => .int
  | _ => .boolean
abbrev wsX20 : List Cond := u_ws RX2 TX2 5
theorem nmX2 : ∀ a, a < 5 → ∀ b, b < 5 → a ≠ b → (TX2 a).2.1 ≠ (TX2 b).2.1 := by decide +kernel
theorem tyX2_ok : ∀ k, k < 5 → parseFieldDescriptor (TX2 k).2.2.1 = some (tyX2 k) := by decide +kernel
abbrev cX2_init : ByteArray := prog_4_method_1_code
def yX2_init : MethodName := ⟨RX2, "<init>", "()V"⟩
def RX3 : String := "CrashDesk$Speed"
def TX3 : u_T := fun k => match k with
  | 0 => ("CrashDesk$Speed", "low", "I", false)
  | 1 => ("CrashDesk$Speed", "high", "I", false)
  | 2 => ("CrashDesk$Speed", "bottom", "I", false)
  | 3 => ("CrashDesk$Speed", "top", "I", false)
  | 4 => ("CrashDesk$Speed", "prices", "[I", true)
  | _ => ("CrashDesk$Speed", "seen", "[Z", true)
def tyX3 : Nat → FieldType := fun k => match k with
  | 0 => .int
  | 1 => .int
  | 2 => .int
  | 3 => .int
  | 4 => .array .int
  | _ => .array .boolean
abbrev wsX30 : List Cond := u_ws RX3 TX3 6
theorem nmX3 : ∀ a, a < 6 → ∀ b, b < 6 → a ≠ b → (TX3 a).2.1 ≠ (TX3 b).2.1 := by decide +kernel
theorem tyX3_ok : ∀ k, k < 6 → parseFieldDescriptor (TX3 k).2.2.1 = some (tyX3 k) := by decide +kernel
abbrev cX3_init : ByteArray := prog_5_method_1_code
def yX3_init : MethodName := ⟨RX3, "<init>", "()V"⟩
abbrev cX3_clear : ByteArray := prog_5_method_2_code
def yX3_clear : MethodName := ⟨RX3, "clear", "()V"⟩
abbrev cX3_hear : ByteArray := prog_5_method_3_code
def yX3_hear : MethodName := ⟨RX3, "hear", "(LCrashDesk$Tale;I)V"⟩
abbrev cX3_priceOf : ByteArray := prog_5_method_4_code
def yX3_priceOf : MethodName := ⟨RX3, "priceOf", "(I)I"⟩
abbrev cX3_isOpen : ByteArray := prog_5_method_5_code
def yX3_isOpen : MethodName := ⟨RX3, "isOpen", "(I)Z"⟩
abbrev cX3_setPrice : ByteArray := prog_5_method_6_code
def yX3_setPrice : MethodName := ⟨RX3, "setPrice", "(II)V"⟩
abbrev cX3_bound : ByteArray := prog_5_method_7_code
def yX3_bound : MethodName := ⟨RX3, "bound", "()V"⟩
abbrev cX3_see : ByteArray := prog_5_method_8_code
def yX3_see : MethodName := ⟨RX3, "see", "(I)V"⟩
abbrev cX3_isSeen : ByteArray := prog_5_method_9_code
def yX3_isSeen : MethodName := ⟨RX3, "isSeen", "(I)Z"⟩
abbrev cX3_leastSeen : ByteArray := prog_5_method_10_code
def yX3_leastSeen : MethodName := ⟨RX3, "leastSeen", "()I"⟩
abbrev cX3_greatestSeen : ByteArray := prog_5_method_11_code
def yX3_greatestSeen : MethodName := ⟨RX3, "greatestSeen", "()I"⟩
def RX4 : String := "CrashDesk$Tale"
def TX4 : u_T := fun k => match k with
  | 0 => ("CrashDesk$Tale", "car", "I", false)
  | 1 => ("CrashDesk$Tale", "speed", "I", false)
  | 2 => ("CrashDesk$Tale", "low", "I", false)
  | _ => ("CrashDesk$Tale", "high", "I", false)
def tyX4 : Nat → FieldType := fun k => match k with
  | 0 => .int
  | 1 => .int
  | 2 => .int
  | _ => .int
abbrev wsX40 : List Cond := u_ws RX4 TX4 4
theorem nmX4 : ∀ a, a < 4 → ∀ b, b < 4 → a ≠ b → (TX4 a).2.1 ≠ (TX4 b).2.1 := by decide +kernel
theorem tyX4_ok : ∀ k, k < 4 → parseFieldDescriptor (TX4 k).2.2.1 = some (tyX4 k) := by decide +kernel
abbrev cX4_init : ByteArray := prog_6_method_1_code
def yX4_init : MethodName := ⟨RX4, "<init>", "()V"⟩
def RX5 : String := "CrashDesk"
def TX5 : u_T := fun k => match k with
  | 0 => ("CrashDesk", "skids", "[LCrashDesk$Skid;", true)
  | 1 => ("CrashDesk", "tales", "[LCrashDesk$Tale;", true)
  | 2 => ("CrashDesk", "skidCount", "I", false)
  | 3 => ("CrashDesk", "taleCount", "I", false)
  | 4 => ("CrashDesk", "meeting", "LCrashDesk$Meeting;", true)
  | 5 => ("CrashDesk", "reckoned", "Z", false)
  | 6 => ("CrashDesk", "reckonedTales", "I", false)
  | _ => ("CrashDesk", "reckonedWithout", "I", false)
def tyX5 : Nat → FieldType := fun k => match k with
  | 0 => .array (.object "CrashDesk$Skid")
  | 1 => .array (.object "CrashDesk$Tale")
  | 2 => .int
  | 3 => .int
  | 4 => .object "CrashDesk$Meeting"
  | 5 => .boolean
  | 6 => .int
  | _ => .int
abbrev wsX50 : List Cond := u_ws RX5 TX5 8
theorem nmX5 : ∀ a, a < 8 → ∀ b, b < 8 → a ≠ b → (TX5 a).2.1 ≠ (TX5 b).2.1 := by decide +kernel
theorem tyX5_ok : ∀ k, k < 8 → parseFieldDescriptor (TX5 k).2.2.1 = some (tyX5 k) := by decide +kernel
abbrev cX5_init : ByteArray := prog_1_method_1_code
def yX5_init : MethodName := ⟨RX5, "<init>", "()V"⟩
abbrev cX5_mass : ByteArray := prog_1_method_2_code
def yX5_mass : MethodName := ⟨RX5, "mass", "(II)V"⟩
abbrev cX5_skid : ByteArray := prog_1_method_3_code
def yX5_skid : MethodName := ⟨RX5, "skid", "(IZIIII)I"⟩
abbrev cX5_drop : ByteArray := prog_1_method_4_code
def yX5_drop : MethodName := ⟨RX5, "drop", "(IZ)Z"⟩
abbrev cX5_sure : ByteArray := prog_1_method_5_code
def yX5_sure : MethodName := ⟨RX5, "sure", "(IIII)V"⟩
abbrev cX5_tale : ByteArray := prog_1_method_6_code
def yX5_tale : MethodName := ⟨RX5, "tale", "(IIII)I"⟩
abbrev cX5_hush : ByteArray := prog_1_method_7_code
def yX5_hush : MethodName := ⟨RX5, "hush", "()I"⟩
abbrev cX5_ways : ByteArray := prog_1_method_8_code
def yX5_ways : MethodName := ⟨RX5, "ways", "()J"⟩
abbrev cX5_span : ByteArray := prog_1_method_9_code
def yX5_span : MethodName := ⟨RX5, "span", "(IIZZ)I"⟩
abbrev cX5_fit : ByteArray := prog_1_method_10_code
def yX5_fit : MethodName := ⟨RX5, "fit", "(I)Z"⟩
abbrev cX5_wrong : ByteArray := prog_1_method_11_code
def yX5_wrong : MethodName := ⟨RX5, "wrong", "()I"⟩
abbrev cX5_which : ByteArray := prog_1_method_12_code
def yX5_which : MethodName := ⟨RX5, "which", "()I"⟩
abbrev cX5_odds : ByteArray := prog_1_method_13_code
def yX5_odds : MethodName := ⟨RX5, "odds", "()I"⟩
abbrev cX5_avoided : ByteArray := prog_1_method_14_code
def yX5_avoided : MethodName := ⟨RX5, "avoided", "(III)I"⟩
abbrev cX5_look : ByteArray := prog_1_method_15_code
def yX5_look : MethodName := ⟨RX5, "look", "(II)I"⟩
abbrev cX5_can : ByteArray := prog_1_method_16_code
def yX5_can : MethodName := ⟨RX5, "can", "(III)Z"⟩
abbrev cX5_count : ByteArray := prog_1_method_17_code
def yX5_count : MethodName := ⟨RX5, "count", "(I)I"⟩
abbrev cX5_countingSkids : ByteArray := prog_1_method_18_code
def yX5_countingSkids : MethodName := ⟨RX5, "countingSkids", "()I"⟩
abbrev cX5_allTales : ByteArray := prog_1_method_19_code
def yX5_allTales : MethodName := ⟨RX5, "allTales", "()I"⟩
abbrev cX5_testCar : ByteArray := prog_1_method_20_code
def yX5_testCar : MethodName := ⟨RX5, "testCar", "(I)V"⟩
abbrev cX5_testSpeed : ByteArray := prog_1_method_21_code
def yX5_testSpeed : MethodName := ⟨RX5, "testSpeed", "(II)V"⟩
abbrev cX5_testNumber : ByteArray := prog_1_method_22_code
def yX5_testNumber : MethodName := ⟨RX5, "testNumber", "(III)V"⟩
abbrev cX5_testSpan : ByteArray := prog_1_method_23_code
def yX5_testSpan : MethodName := ⟨RX5, "testSpan", "(IIII)V"⟩
abbrev cX5_testWay : ByteArray := prog_1_method_24_code
def yX5_testWay : MethodName := ⟨RX5, "testWay", "()V"⟩
abbrev cX5_carOf : ByteArray := prog_1_method_25_code
def yX5_carOf : MethodName := ⟨RX5, "carOf", "(I)LCrashDesk$Car;"⟩
abbrev cX5_speedOf : ByteArray := prog_1_method_26_code
def yX5_speedOf : MethodName := ⟨RX5, "speedOf", "(II)LCrashDesk$Speed;"⟩
abbrev cX5_skidOf : ByteArray := prog_1_method_27_code
def yX5_skidOf : MethodName := ⟨RX5, "skidOf", "(I)LCrashDesk$Skid;"⟩
abbrev cX5_reckon : ByteArray := prog_1_method_28_code
def yX5_reckon : MethodName := ⟨RX5, "reckon", "(II)V"⟩
abbrev cX5_cheaper : ByteArray := prog_1_method_29_code
def yX5_cheaper : MethodName := ⟨RX5, "cheaper", "(II)I"⟩
def RX6 : String := "CrashDeskModel"
def TX6 : u_T := fun k => match k with
  | 0 => ("CrashDeskModel", "thrown", "I", false)
  | 1 => ("CrashDeskModel", "mass", "[I", true)
  | 2 => ("CrashDeskModel", "sCar", "[I", true)
  | 3 => ("CrashDeskModel", "sBehind", "[Z", true)
  | 4 => ("CrashDeskModel", "sLeast", "[I", true)
  | 5 => ("CrashDeskModel", "sMost", "[I", true)
  | 6 => ("CrashDeskModel", "isDropped", "[Z", true)
  | 7 => ("CrashDeskModel", "skids", "I", false)
  | 8 => ("CrashDeskModel", "low", "[I", true)
  | 9 => ("CrashDeskModel", "high", "[I", true)
  | 10 => ("CrashDeskModel", "tRow", "[I", true)
  | 11 => ("CrashDeskModel", "tLow", "[I", true)
  | 12 => ("CrashDeskModel", "tHigh", "[I", true)
  | 13 => ("CrashDeskModel", "tales", "I", false)
  | 14 => ("CrashDeskModel", "isLet", "[Z", true)
  | 15 => ("CrashDeskModel", "isThere", "[Z", true)
  | 16 => ("CrashDeskModel", "firsts", "[I", true)
  | 17 => ("CrashDeskModel", "many", "J", false)
  | 18 => ("CrashDeskModel", "wanted", "Z", false)
  | 19 => ("CrashDeskModel", "isMask", "[Z", true)
  | 20 => ("CrashDeskModel", "isMade", "[Z", true)
  | 21 => ("CrashDeskModel", "made", "[I", true)
  | _ => ("CrashDeskModel", "mades", "[I", true)
def tyX6 : Nat → FieldType := fun k => match k with
  | 0 => .int
  | 1 => .array .int
  | 2 => .array .int
  | 3 => .array .boolean
  | 4 => .array .int
  | 5 => .array .int
  | 6 => .array .boolean
  | 7 => .int
  | 8 => .array .int
  | 9 => .array .int
  | 10 => .array .int
  | 11 => .array .int
  | 12 => .array .int
  | 13 => .int
  | 14 => .array .boolean
  | 15 => .array .boolean
  | 16 => .array .int
  | 17 => .long
  | 18 => .boolean
  | 19 => .array .boolean
  | 20 => .array .boolean
  | 21 => .array .int
  | _ => .array .int
abbrev wsX60 : List Cond := u_ws RX6 TX6 23
theorem nmX6 : ∀ a, a < 23 → ∀ b, b < 23 → a ≠ b → (TX6 a).2.1 ≠ (TX6 b).2.1 := by decide +kernel
theorem tyX6_ok : ∀ k, k < 23 → parseFieldDescriptor (TX6 k).2.2.1 = some (tyX6 k) := by decide +kernel
abbrev cX6_init : ByteArray := prog_8_method_1_code
def yX6_init : MethodName := ⟨RX6, "<init>", "()V"⟩
abbrev cX6_thrown : ByteArray := prog_8_method_2_code
def yX6_thrown : MethodName := ⟨RX6, "thrown", "()I"⟩
abbrev cX6_throwsIf : ByteArray := prog_8_method_3_code
def yX6_throwsIf : MethodName := ⟨RX6, "throwsIf", "(ZI)Z"⟩
abbrev cX6_in : ByteArray := prog_8_method_4_code
def yX6_in : MethodName := ⟨RX6, "in", "(III)Z"⟩
abbrev cX6_noCar : ByteArray := prog_8_method_5_code
def yX6_noCar : MethodName := ⟨RX6, "noCar", "(I)Z"⟩
abbrev cX6_noSpeed : ByteArray := prog_8_method_6_code
def yX6_noSpeed : MethodName := ⟨RX6, "noSpeed", "(II)Z"⟩
abbrev cX6_noSpan : ByteArray := prog_8_method_7_code
def yX6_noSpan : MethodName := ⟨RX6, "noSpan", "(II)Z"⟩
abbrev cX6_mass : ByteArray := prog_8_method_8_code
def yX6_mass : MethodName := ⟨RX6, "mass", "(II)V"⟩
abbrev cX6_skid : ByteArray := prog_8_method_9_code
def yX6_skid : MethodName := ⟨RX6, "skid", "(IZIIII)I"⟩
abbrev cX6_drop : ByteArray := prog_8_method_10_code
def yX6_drop : MethodName := ⟨RX6, "drop", "(IZ)Z"⟩
abbrev cX6_sure : ByteArray := prog_8_method_11_code
def yX6_sure : MethodName := ⟨RX6, "sure", "(IIII)V"⟩
abbrev cX6_tale : ByteArray := prog_8_method_12_code
def yX6_tale : MethodName := ⟨RX6, "tale", "(IIII)I"⟩
abbrev cX6_hush : ByteArray := prog_8_method_13_code
def yX6_hush : MethodName := ⟨RX6, "hush", "()I"⟩
abbrev cX6_cell : ByteArray := prog_8_method_14_code
def yX6_cell : MethodName := ⟨RX6, "cell", "(II)I"⟩
abbrev cX6_falses : ByteArray := prog_8_method_15_code
def yX6_falses : MethodName := ⟨RX6, "falses", "(II)I"⟩
abbrev cX6_lets : ByteArray := prog_8_method_16_code
def yX6_lets : MethodName := ⟨RX6, "lets", "(I)V"⟩
abbrev cX6_takes : ByteArray := prog_8_method_17_code
def yX6_takes : MethodName := ⟨RX6, "takes", "(IZII)Z"⟩
abbrev cX6_isFirst : ByteArray := prog_8_method_18_code
def yX6_isFirst : MethodName := ⟨RX6, "isFirst", "(IIII)Z"⟩
abbrev cX6_counts : ByteArray := prog_8_method_19_code
def yX6_counts : MethodName := ⟨RX6, "counts", "(I)V"⟩
abbrev cX6_goes : ByteArray := prog_8_method_20_code
def yX6_goes : MethodName := ⟨RX6, "goes", "(II)Z"⟩
abbrev cX6_makes : ByteArray := prog_8_method_21_code
def yX6_makes : MethodName := ⟨RX6, "makes", "()V"⟩
abbrev cX6_masks : ByteArray := prog_8_method_22_code
def yX6_masks : MethodName := ⟨RX6, "masks", "(III)V"⟩
abbrev cX6_fewest : ByteArray := prog_8_method_23_code
def yX6_fewest : MethodName := ⟨RX6, "fewest", "()I"⟩
abbrev cX6_all : ByteArray := prog_8_method_24_code
def yX6_all : MethodName := ⟨RX6, "all", "()I"⟩
abbrev cX6_ways : ByteArray := prog_8_method_25_code
def yX6_ways : MethodName := ⟨RX6, "ways", "()J"⟩
abbrev cX6_span : ByteArray := prog_8_method_26_code
def yX6_span : MethodName := ⟨RX6, "span", "(IIZZ)I"⟩
abbrev cX6_fit : ByteArray := prog_8_method_27_code
def yX6_fit : MethodName := ⟨RX6, "fit", "(I)Z"⟩
abbrev cX6_wrong : ByteArray := prog_8_method_28_code
def yX6_wrong : MethodName := ⟨RX6, "wrong", "()I"⟩
abbrev cX6_which : ByteArray := prog_8_method_29_code
def yX6_which : MethodName := ⟨RX6, "which", "()I"⟩
abbrev cX6_odds : ByteArray := prog_8_method_30_code
def yX6_odds : MethodName := ⟨RX6, "odds", "()I"⟩
abbrev cX6_avoided : ByteArray := prog_8_method_31_code
def yX6_avoided : MethodName := ⟨RX6, "avoided", "(III)I"⟩
abbrev cX6_look : ByteArray := prog_8_method_32_code
def yX6_look : MethodName := ⟨RX6, "look", "(II)I"⟩
abbrev cX6_can : ByteArray := prog_8_method_33_code
def yX6_can : MethodName := ⟨RX6, "can", "(III)Z"⟩
abbrev cX6_count : ByteArray := prog_8_method_34_code
def yX6_count : MethodName := ⟨RX6, "count", "(I)I"⟩
def RJx145de : String := "java/io/Serializable"
def TJx145de : u_T := fun k => match k with
  | _ => ("", "", "", false)
def tyJx145de : Nat → FieldType := fun k => match k with
  | _ => .int
abbrev wsJx145de0 : List Cond := u_ws RJx145de TJx145de 0
theorem nmJx145de : ∀ a, a < 0 → ∀ b, b < 0 → a ≠ b → (TJx145de a).2.1 ≠ (TJx145de b).2.1 := by decide +kernel
theorem tyJx145de_ok : ∀ k, k < 0 → parseFieldDescriptor (TJx145de k).2.2.1 = some (tyJx145de k) := by decide +kernel
def RJ6 : String := "java/lang/Integer"
def TJ6 : u_T := fun k => match k with
  | _ => ("", "", "", false)
def tyJ6 : Nat → FieldType := fun k => match k with
  | _ => .int
abbrev wsJ60 : List Cond := u_ws RJ6 TJ6 0
theorem nmJ6 : ∀ a, a < 0 → ∀ b, b < 0 → a ≠ b → (TJ6 a).2.1 ≠ (TJ6 b).2.1 := by decide +kernel
theorem tyJ6_ok : ∀ k, k < 0 → parseFieldDescriptor (TJ6 k).2.2.1 = some (tyJ6 k) := by decide +kernel
abbrev cJ6_bitCount_0f7a4 : ByteArray := prog_13_method_49_code
def yJ6_bitCount_0f7a4 : MethodName := ⟨RJ6, "bitCount", "(I)I"⟩
def RJ9 : String := "java/lang/Math"
def TJ9 : u_T := fun k => match k with
  | _ => ("", "", "", false)
def tyJ9 : Nat → FieldType := fun k => match k with
  | _ => .int
abbrev wsJ90 : List Cond := u_ws RJ9 TJ9 0
theorem nmJ9 : ∀ a, a < 0 → ∀ b, b < 0 → a ≠ b → (TJ9 a).2.1 ≠ (TJ9 b).2.1 := by decide +kernel
theorem tyJ9_ok : ∀ k, k < 0 → parseFieldDescriptor (TJ9 k).2.2.1 = some (tyJ9 k) := by decide +kernel
abbrev cJ9_abs_0f7a4 : ByteArray := prog_14_method_59_code
def yJ9_abs_0f7a4 : MethodName := ⟨RJ9, "abs", "(I)I"⟩
abbrev cJ9_max_7cf53 : ByteArray := prog_14_method_65_code
def yJ9_max_7cf53 : MethodName := ⟨RJ9, "max", "(II)I"⟩
abbrev cJ9_min_7cf53 : ByteArray := prog_14_method_69_code
def yJ9_min_7cf53 : MethodName := ⟨RJ9, "min", "(II)I"⟩
def RJ0 : String := "java/lang/String"
def TJ0 : u_T := fun k => match k with
  | _ => ("", "", "", false)
def tyJ0 : Nat → FieldType := fun k => match k with
  | _ => .int
abbrev wsJ00 : List Cond := u_ws RJ0 TJ0 0
theorem nmJ0 : ∀ a, a < 0 → ∀ b, b < 0 → a ≠ b → (TJ0 a).2.1 ≠ (TJ0 b).2.1 := by decide +kernel
theorem tyJ0_ok : ∀ k, k < 0 → parseFieldDescriptor (TJ0 k).2.2.1 = some (tyJ0 k) := by decide +kernel
def RL : String := "CrashDeskLaw"
abbrev cL_mass : ByteArray := method_3_code
def yL_mass : MethodName := ⟨RL, "mass", "(LCrashDesk;II)I"⟩
abbrev cL_skid : ByteArray := method_4_code
def yL_skid : MethodName := ⟨RL, "skid", "(LCrashDesk;IZIIII[J)I"⟩
abbrev cL_drop : ByteArray := method_5_code
def yL_drop : MethodName := ⟨RL, "drop", "(LCrashDesk;IZ[J)I"⟩
abbrev cL_sure : ByteArray := method_6_code
def yL_sure : MethodName := ⟨RL, "sure", "(LCrashDesk;IIII)I"⟩
abbrev cL_tale : ByteArray := method_7_code
def yL_tale : MethodName := ⟨RL, "tale", "(LCrashDesk;IIII[J)I"⟩
abbrev cL_span : ByteArray := method_8_code
def yL_span : MethodName := ⟨RL, "span", "(LCrashDesk;IIZZ[J)I"⟩
abbrev cL_avoided : ByteArray := method_9_code
def yL_avoided : MethodName := ⟨RL, "avoided", "(LCrashDesk;III[J)I"⟩
abbrev cL_look : ByteArray := method_10_code
def yL_look : MethodName := ⟨RL, "look", "(LCrashDesk;II[J)I"⟩
abbrev cL_can : ByteArray := method_11_code
def yL_can : MethodName := ⟨RL, "can", "(LCrashDesk;III[J)I"⟩
abbrev cL_law : ByteArray := code
def yL_law : MethodName := ⟨RL, "law", "([I)Z"⟩
def wsX3_init : List Cond := .code yX3_init cX3_init 1 none :: ([.methodLink RX3 3 objectInit, .instanceMethod objectInit, .code objectInit ⟨#[0xb1]⟩ 1 none, .fieldLink RX3 9 "CrashDesk$Speed" "low" "I", .fieldLink RX3 15 "CrashDesk$Speed" "high" "I", .fieldLink RX3 18 "CrashDesk$Speed" "bottom" "I", .fieldLink RX3 21 "CrashDesk$Speed" "top" "I", .arrayClass .int, .fieldLink RX3 24 "CrashDesk$Speed" "prices" "[I", .arrayClass .boolean, .fieldLink RX3 28 "CrashDesk$Speed" "seen" "[Z"] ++ wsX30)
def wsX0_init_r1 : List Cond := [Cond.methodLink RX0 3 objectInit, Cond.instanceMethod objectInit, Cond.code objectInit ⟨#[0xb1]⟩ 1 none, Cond.fieldLink RX0 9 "CrashDesk$Car" "mass" "I", Cond.classLink RX0 15 RX3, Cond.instantiable RX3 6, Cond.initialized RX3, Cond.fieldLink RX0 18 "CrashDesk$Car" "first" "LCrashDesk$Speed;", Cond.fieldLink RX0 22 "CrashDesk$Car" "at" "LCrashDesk$Speed;", Cond.fieldLink RX0 25 "CrashDesk$Car" "after" "LCrashDesk$Speed;", Cond.arrayClass .int, Cond.fieldLink RX0 28 "CrashDesk$Car" "firstCounts" "[I", Cond.fieldLink RX0 32 "CrashDesk$Car" "aheadLeast" "I", Cond.fieldLink RX0 35 "CrashDesk$Car" "aheadGreatest" "I", Cond.fieldLink RX0 38 "CrashDesk$Car" "behindLeast" "I", Cond.fieldLink RX0 41 "CrashDesk$Car" "behindGreatest" "I", Cond.fieldLink RX0 44 "CrashDesk$Car" "skidsBehind" "Z", Cond.instanceMethod yX3_init, Cond.code yX3_init cX3_init 1 none, Cond.methodLink RX3 3 objectInit, Cond.fieldLink RX3 9 "CrashDesk$Speed" "low" "I", Cond.fieldLink RX3 15 "CrashDesk$Speed" "high" "I", Cond.fieldLink RX3 18 "CrashDesk$Speed" "bottom" "I", Cond.fieldLink RX3 21 "CrashDesk$Speed" "top" "I"]
def wsX0_init_r2 : List Cond := [Cond.fieldLink RX3 24 "CrashDesk$Speed" "prices" "[I", Cond.arrayClass .boolean, Cond.fieldLink RX3 28 "CrashDesk$Speed" "seen" "[Z"]
def wsX0_init : List Cond := .code yX0_init cX0_init 1 none :: ((wsX0_init_r1 ++ wsX0_init_r2) ++ wsX00 ++ wsX30)
def wsX0_pick : List Cond := .code yX0_pick cX0_pick 2 (some (.object "CrashDesk$Speed")) :: ([.fieldLink RX0 18 "CrashDesk$Car" "first" "LCrashDesk$Speed;", .fieldLink RX0 22 "CrashDesk$Car" "at" "LCrashDesk$Speed;", .fieldLink RX0 25 "CrashDesk$Car" "after" "LCrashDesk$Speed;"] ++ wsX00)
def wsX3_setPrice : List Cond := .code yX3_setPrice cX3_setPrice 3 none :: ([.fieldLink RX3 24 "CrashDesk$Speed" "prices" "[I"] ++ wsX30)
def wsX3_clear : List Cond := .code yX3_clear cX3_clear 2 none :: ([.fieldLink RX3 9 "CrashDesk$Speed" "low" "I", .fieldLink RX3 15 "CrashDesk$Speed" "high" "I", .fieldLink RX3 28 "CrashDesk$Speed" "seen" "[Z", .methodLink RX3 32 yX3_setPrice, .instanceMethod yX3_setPrice, .selects RX3 yX3_setPrice yX3_setPrice, .initialized RX3, .code yX3_setPrice cX3_setPrice 3 none, .fieldLink RX3 24 "CrashDesk$Speed" "prices" "[I"] ++ wsX30)
def wsX0_clear : List Cond := .code yX0_clear cX0_clear 1 none :: ([.fieldLink RX0 18 "CrashDesk$Car" "first" "LCrashDesk$Speed;", .fieldLink RX0 22 "CrashDesk$Car" "at" "LCrashDesk$Speed;", .fieldLink RX0 25 "CrashDesk$Car" "after" "LCrashDesk$Speed;", .fieldLink RX0 32 "CrashDesk$Car" "aheadLeast" "I", .fieldLink RX0 35 "CrashDesk$Car" "aheadGreatest" "I", .fieldLink RX0 38 "CrashDesk$Car" "behindLeast" "I", .fieldLink RX0 41 "CrashDesk$Car" "behindGreatest" "I", .fieldLink RX0 44 "CrashDesk$Car" "skidsBehind" "Z", .methodLink RX0 48 yX3_clear, .instanceMethod yX3_clear, .selects RX3 yX3_clear yX3_clear, .initialized RX3, .code yX3_clear cX3_clear 2 none, .fieldLink RX3 9 "CrashDesk$Speed" "low" "I", .fieldLink RX3 15 "CrashDesk$Speed" "high" "I", .fieldLink RX3 28 "CrashDesk$Speed" "seen" "[Z", .methodLink RX3 32 yX3_setPrice, .instanceMethod yX3_setPrice, .selects RX3 yX3_setPrice yX3_setPrice, .code yX3_setPrice cX3_setPrice 3 none, .fieldLink RX3 24 "CrashDesk$Speed" "prices" "[I"] ++ wsX00 ++ wsX30)
def wsX0_add : List Cond := .code yX0_add cX0_add 2 none :: ([.fieldLink RX0 51 "CrashDesk$Skid" "behind" "Z", .fieldLink RX0 38 "CrashDesk$Car" "behindLeast" "I", .fieldLink RX0 56 "CrashDesk$Skid" "least" "I", .fieldLink RX0 41 "CrashDesk$Car" "behindGreatest" "I", .fieldLink RX0 59 "CrashDesk$Skid" "greatest" "I", .fieldLink RX0 44 "CrashDesk$Car" "skidsBehind" "Z", .fieldLink RX0 32 "CrashDesk$Car" "aheadLeast" "I", .fieldLink RX0 35 "CrashDesk$Car" "aheadGreatest" "I"] ++ wsX20 ++ wsX00)
def wsX0_isTakenBehind : List Cond := .code yX0_isTakenBehind cX0_isTakenBehind 3 (some .boolean) :: ([.fieldLink RX0 38 "CrashDesk$Car" "behindLeast" "I", .fieldLink RX0 41 "CrashDesk$Car" "behindGreatest" "I"] ++ wsX00)
def wsX3_priceOf : List Cond := .code yX3_priceOf cX3_priceOf 2 (some .int) :: ([.fieldLink RX3 24 "CrashDesk$Speed" "prices" "[I"] ++ wsX30)
def wsX3_isOpen : List Cond := .code yX3_isOpen cX3_isOpen 2 (some .boolean) :: ([.methodLink RX3 44 yX3_priceOf, .instanceMethod yX3_priceOf, .selects RX3 yX3_priceOf yX3_priceOf, .initialized RX3, .code yX3_priceOf cX3_priceOf 2 (some .int), .fieldLink RX3 24 "CrashDesk$Speed" "prices" "[I"] ++ wsX30)
def wsX0_isTakenAhead : List Cond := .code yX0_isTakenAhead cX0_isTakenAhead 4 (some .boolean) :: ([.fieldLink RX0 32 "CrashDesk$Car" "aheadLeast" "I", .fieldLink RX0 35 "CrashDesk$Car" "aheadGreatest" "I"] ++ wsX00)
def wsX0_firstFor : List Cond := .code yX0_firstFor cX0_firstFor 2 (some .int) :: ([])
def wsX5_cheaper : List Cond := .code yX5_cheaper cX5_cheaper 2 (some .int) :: ([])
def wsX0_joinFirsts_r1 : List Cond := [Cond.methodLink RX0 86 Lib.Math.abs.name, Cond.static Lib.Math.abs.name, Cond.initialized "java/lang/Math", Cond.code Lib.Math.abs.name Lib.Math.abs.code 1 (some .int), Cond.fieldLink RX0 18 "CrashDesk$Car" "first" "LCrashDesk$Speed;", Cond.fieldLink RX0 28 "CrashDesk$Car" "firstCounts" "[I", Cond.fieldLink RX0 22 "CrashDesk$Car" "at" "LCrashDesk$Speed;", Cond.methodLink RX0 95 yX0_isTakenAhead, Cond.instanceMethod yX0_isTakenAhead, Cond.selects RX0 yX0_isTakenAhead yX0_isTakenAhead, Cond.initialized RX0, Cond.code yX0_isTakenAhead cX0_isTakenAhead 4 (some .boolean), Cond.fieldLink RX0 32 "CrashDesk$Car" "aheadLeast" "I", Cond.fieldLink RX0 35 "CrashDesk$Car" "aheadGreatest" "I", Cond.methodLink RX0 99 yX0_firstFor, Cond.static yX0_firstFor, Cond.code yX0_firstFor cX0_firstFor 2 (some .int), Cond.methodLink RX0 106 yX3_priceOf, Cond.instanceMethod yX3_priceOf, Cond.selects RX3 yX3_priceOf yX3_priceOf, Cond.initialized RX3, Cond.code yX3_priceOf cX3_priceOf 2 (some .int), Cond.fieldLink RX3 24 "CrashDesk$Speed" "prices" "[I", Cond.static yX5_cheaper]
def wsX0_joinFirsts_r2 : List Cond := [Cond.initialized RX5, Cond.code yX5_cheaper cX5_cheaper 2 (some .int), Cond.methodLink RX0 66 yX3_setPrice, Cond.instanceMethod yX3_setPrice, Cond.selects RX3 yX3_setPrice yX3_setPrice, Cond.code yX3_setPrice cX3_setPrice 3 none]
def wsX0_joinFirsts : List Cond := .code yX0_joinFirsts cX0_joinFirsts 6 none :: ((wsX0_joinFirsts_r1 ++ wsX0_joinFirsts_r2) ++ wsX00 ++ wsX30)
def wsX3_bound : List Cond := .code yX3_bound cX3_bound 2 none :: ([.fieldLink RX3 18 "CrashDesk$Speed" "bottom" "I", .fieldLink RX3 21 "CrashDesk$Speed" "top" "I", .methodLink RX3 48 Lib.Math.min.name, .static Lib.Math.min.name, .initialized "java/lang/Math", .code Lib.Math.min.name Lib.Math.min.code 2 (some .int), .methodLink RX3 40 yX3_isOpen, .instanceMethod yX3_isOpen, .selects RX3 yX3_isOpen yX3_isOpen, .initialized RX3, .code yX3_isOpen cX3_isOpen 2 (some .boolean), .methodLink RX3 44 yX3_priceOf, .instanceMethod yX3_priceOf, .selects RX3 yX3_priceOf yX3_priceOf, .code yX3_priceOf cX3_priceOf 2 (some .int), .fieldLink RX3 24 "CrashDesk$Speed" "prices" "[I"] ++ wsX30)
def wsX0_settle_r1 : List Cond := [Cond.fieldLink RX0 44 "CrashDesk$Car" "skidsBehind" "Z", Cond.fieldLink RX0 25 "CrashDesk$Car" "after" "LCrashDesk$Speed;", Cond.fieldLink RX0 22 "CrashDesk$Car" "at" "LCrashDesk$Speed;", Cond.methodLink RX0 62 yX0_isTakenBehind, Cond.instanceMethod yX0_isTakenBehind, Cond.selects RX0 yX0_isTakenBehind yX0_isTakenBehind, Cond.initialized RX0, Cond.code yX0_isTakenBehind cX0_isTakenBehind 3 (some .boolean), Cond.fieldLink RX0 38 "CrashDesk$Car" "behindLeast" "I", Cond.fieldLink RX0 41 "CrashDesk$Car" "behindGreatest" "I", Cond.methodLink RX0 66 yX3_setPrice, Cond.instanceMethod yX3_setPrice, Cond.selects RX3 yX3_setPrice yX3_setPrice, Cond.initialized RX3, Cond.code yX3_setPrice cX3_setPrice 3 none, Cond.fieldLink RX3 24 "CrashDesk$Speed" "prices" "[I", Cond.methodLink RX0 70 yX3_isOpen, Cond.instanceMethod yX3_isOpen, Cond.selects RX3 yX3_isOpen yX3_isOpen, Cond.code yX3_isOpen cX3_isOpen 2 (some .boolean), Cond.methodLink RX3 44 yX3_priceOf, Cond.instanceMethod yX3_priceOf, Cond.selects RX3 yX3_priceOf yX3_priceOf, Cond.code yX3_priceOf cX3_priceOf 2 (some .int)]
def wsX0_settle_r2 : List Cond := [Cond.methodLink RX0 73 yX0_joinFirsts, Cond.instanceMethod yX0_joinFirsts, Cond.selects RX0 yX0_joinFirsts yX0_joinFirsts, Cond.code yX0_joinFirsts cX0_joinFirsts 6 none, Cond.methodLink RX0 86 Lib.Math.abs.name, Cond.static Lib.Math.abs.name, Cond.initialized "java/lang/Math", Cond.code Lib.Math.abs.name Lib.Math.abs.code 1 (some .int), Cond.fieldLink RX0 18 "CrashDesk$Car" "first" "LCrashDesk$Speed;", Cond.fieldLink RX0 28 "CrashDesk$Car" "firstCounts" "[I", Cond.methodLink RX0 95 yX0_isTakenAhead, Cond.instanceMethod yX0_isTakenAhead, Cond.selects RX0 yX0_isTakenAhead yX0_isTakenAhead, Cond.code yX0_isTakenAhead cX0_isTakenAhead 4 (some .boolean), Cond.fieldLink RX0 32 "CrashDesk$Car" "aheadLeast" "I", Cond.fieldLink RX0 35 "CrashDesk$Car" "aheadGreatest" "I", Cond.methodLink RX0 99 yX0_firstFor, Cond.static yX0_firstFor, Cond.code yX0_firstFor cX0_firstFor 2 (some .int), Cond.methodLink RX0 106 yX3_priceOf, Cond.static yX5_cheaper, Cond.initialized RX5, Cond.code yX5_cheaper cX5_cheaper 2 (some .int), Cond.methodLink RX0 77 yX3_bound]
def wsX0_settle_r3 : List Cond := [Cond.instanceMethod yX3_bound, Cond.selects RX3 yX3_bound yX3_bound, Cond.code yX3_bound cX3_bound 2 none, Cond.fieldLink RX3 18 "CrashDesk$Speed" "bottom" "I", Cond.fieldLink RX3 21 "CrashDesk$Speed" "top" "I", Cond.methodLink RX3 48 Lib.Math.min.name, Cond.static Lib.Math.min.name, Cond.code Lib.Math.min.name Lib.Math.min.code 2 (some .int), Cond.methodLink RX3 40 yX3_isOpen]
def wsX0_settle : List Cond := .code yX0_settle cX0_settle 2 none :: ((wsX0_settle_r1 ++ (wsX0_settle_r2 ++ wsX0_settle_r3)) ++ wsX00 ++ wsX30)
def wsX0_firstCount : List Cond := .code yX0_firstCount cX0_firstCount 2 (some .int) :: ([.fieldLink RX0 28 "CrashDesk$Car" "firstCounts" "[I"] ++ wsX00)
def wsX3_isSeen : List Cond := .code yX3_isSeen cX3_isSeen 2 (some .boolean) :: ([.fieldLink RX3 28 "CrashDesk$Speed" "seen" "[Z"] ++ wsX30)
def wsX3_see : List Cond := .code yX3_see cX3_see 2 none :: ([.fieldLink RX3 28 "CrashDesk$Speed" "seen" "[Z"] ++ wsX30)
def wsX0_seeFirsts_r1 : List Cond := [Cond.fieldLink RX0 22 "CrashDesk$Car" "at" "LCrashDesk$Speed;", Cond.fieldLink RX0 80 "CrashDesk$Speed" "bottom" "I", Cond.fieldLink RX0 83 "CrashDesk$Speed" "top" "I", Cond.methodLink RX0 86 Lib.Math.abs.name, Cond.static Lib.Math.abs.name, Cond.initialized "java/lang/Math", Cond.code Lib.Math.abs.name Lib.Math.abs.code 1 (some .int), Cond.fieldLink RX0 18 "CrashDesk$Car" "first" "LCrashDesk$Speed;", Cond.methodLink RX0 92 yX3_isSeen, Cond.instanceMethod yX3_isSeen, Cond.selects RX3 yX3_isSeen yX3_isSeen, Cond.initialized RX3, Cond.code yX3_isSeen cX3_isSeen 2 (some .boolean), Cond.fieldLink RX3 28 "CrashDesk$Speed" "seen" "[Z", Cond.methodLink RX0 95 yX0_isTakenAhead, Cond.instanceMethod yX0_isTakenAhead, Cond.selects RX0 yX0_isTakenAhead yX0_isTakenAhead, Cond.initialized RX0, Cond.code yX0_isTakenAhead cX0_isTakenAhead 4 (some .boolean), Cond.fieldLink RX0 32 "CrashDesk$Car" "aheadLeast" "I", Cond.fieldLink RX0 35 "CrashDesk$Car" "aheadGreatest" "I", Cond.methodLink RX0 99 yX0_firstFor, Cond.static yX0_firstFor, Cond.code yX0_firstFor cX0_firstFor 2 (some .int)]
def wsX0_seeFirsts_r2 : List Cond := [Cond.methodLink RX0 70 yX3_isOpen, Cond.instanceMethod yX3_isOpen, Cond.selects RX3 yX3_isOpen yX3_isOpen, Cond.code yX3_isOpen cX3_isOpen 2 (some .boolean), Cond.methodLink RX3 44 yX3_priceOf, Cond.instanceMethod yX3_priceOf, Cond.selects RX3 yX3_priceOf yX3_priceOf, Cond.code yX3_priceOf cX3_priceOf 2 (some .int), Cond.fieldLink RX3 24 "CrashDesk$Speed" "prices" "[I", Cond.methodLink RX0 103 yX3_see, Cond.instanceMethod yX3_see, Cond.selects RX3 yX3_see yX3_see, Cond.code yX3_see cX3_see 2 none]
def wsX0_seeFirsts : List Cond := .code yX0_seeFirsts cX0_seeFirsts 3 none :: ((wsX0_seeFirsts_r1 ++ wsX0_seeFirsts_r2) ++ wsX00 ++ wsX30)
def wsX1_init_r1 : List Cond := [Cond.methodLink RX1 3 objectInit, Cond.instanceMethod objectInit, Cond.code objectInit ⟨#[0xb1]⟩ 1 none, Cond.classLink RX1 9 RX0, Cond.instantiable RX0 10, Cond.initialized RX0, Cond.fieldLink RX1 12 "CrashDesk$Meeting" "zero" "LCrashDesk$Car;", Cond.fieldLink RX1 18 "CrashDesk$Meeting" "one" "LCrashDesk$Car;", Cond.fieldLink RX1 21 "CrashDesk$Meeting" "wayCount" "J", Cond.fieldLink RX1 25 "CrashDesk$Meeting" "cheapest" "I", Cond.fieldLink RX1 29 "CrashDesk$Meeting" "loss" "I", Cond.fieldLink RX1 32 "CrashDesk$Meeting" "gain" "I", Cond.instanceMethod yX0_init, Cond.code yX0_init cX0_init 1 none, Cond.methodLink RX0 3 objectInit, Cond.fieldLink RX0 9 "CrashDesk$Car" "mass" "I", Cond.classLink RX0 15 RX3, Cond.instantiable RX3 6, Cond.initialized RX3, Cond.fieldLink RX0 18 "CrashDesk$Car" "first" "LCrashDesk$Speed;", Cond.fieldLink RX0 22 "CrashDesk$Car" "at" "LCrashDesk$Speed;", Cond.fieldLink RX0 25 "CrashDesk$Car" "after" "LCrashDesk$Speed;", Cond.arrayClass .int, Cond.fieldLink RX0 28 "CrashDesk$Car" "firstCounts" "[I"]
def wsX1_init_r2 : List Cond := [Cond.fieldLink RX0 32 "CrashDesk$Car" "aheadLeast" "I", Cond.fieldLink RX0 35 "CrashDesk$Car" "aheadGreatest" "I", Cond.fieldLink RX0 38 "CrashDesk$Car" "behindLeast" "I", Cond.fieldLink RX0 41 "CrashDesk$Car" "behindGreatest" "I", Cond.fieldLink RX0 44 "CrashDesk$Car" "skidsBehind" "Z", Cond.instanceMethod yX3_init, Cond.code yX3_init cX3_init 1 none, Cond.methodLink RX3 3 objectInit, Cond.fieldLink RX3 9 "CrashDesk$Speed" "low" "I", Cond.fieldLink RX3 15 "CrashDesk$Speed" "high" "I", Cond.fieldLink RX3 18 "CrashDesk$Speed" "bottom" "I", Cond.fieldLink RX3 21 "CrashDesk$Speed" "top" "I", Cond.fieldLink RX3 24 "CrashDesk$Speed" "prices" "[I", Cond.arrayClass .boolean, Cond.fieldLink RX3 28 "CrashDesk$Speed" "seen" "[Z"]
def wsX1_init : List Cond := .code yX1_init cX1_init 1 none :: ((wsX1_init_r1 ++ wsX1_init_r2) ++ wsX00 ++ wsX10 ++ wsX30)
def wsX1_pick : List Cond := .code yX1_pick cX1_pick 2 (some (.object "CrashDesk$Car")) :: ([.fieldLink RX1 12 "CrashDesk$Meeting" "zero" "LCrashDesk$Car;", .fieldLink RX1 18 "CrashDesk$Meeting" "one" "LCrashDesk$Car;"] ++ wsX10)
def wsX1_lowestShare : List Cond := .code yX1_lowestShare cX1_lowestShare 3 (some .int) :: ([])
def wsX1_meet_r1 : List Cond := [Cond.fieldLink RX1 32 "CrashDesk$Meeting" "gain" "I", Cond.fieldLink RX1 29 "CrashDesk$Meeting" "loss" "I", Cond.fieldLink RX1 18 "CrashDesk$Meeting" "one" "LCrashDesk$Car;", Cond.fieldLink RX1 45 "CrashDesk$Car" "at" "LCrashDesk$Speed;", Cond.fieldLink RX1 49 "CrashDesk$Speed" "bottom" "I", Cond.fieldLink RX1 68 "CrashDesk$Car" "after" "LCrashDesk$Speed;", Cond.methodLink RX1 75 Lib.Math.max.name, Cond.static Lib.Math.max.name, Cond.initialized "java/lang/Math", Cond.code Lib.Math.max.name Lib.Math.max.code 2 (some .int), Cond.fieldLink RX1 54 "CrashDesk$Speed" "top" "I", Cond.methodLink RX1 80 Lib.Math.min.name, Cond.static Lib.Math.min.name, Cond.code Lib.Math.min.name Lib.Math.min.code 2 (some .int), Cond.fieldLink RX1 12 "CrashDesk$Meeting" "zero" "LCrashDesk$Car;", Cond.fieldLink RX1 21 "CrashDesk$Meeting" "wayCount" "J", Cond.fieldLink RX1 25 "CrashDesk$Meeting" "cheapest" "I", Cond.static yX5_cheaper, Cond.initialized RX5, Cond.code yX5_cheaper cX5_cheaper 2 (some .int), Cond.methodLink RX1 97 yX3_see, Cond.instanceMethod yX3_see, Cond.selects RX3 yX3_see yX3_see, Cond.initialized RX3]
def wsX1_meet_r2 : List Cond := [Cond.code yX3_see cX3_see 2 none, Cond.fieldLink RX3 28 "CrashDesk$Speed" "seen" "[Z", Cond.methodLink RX1 100 yX0_firstCount, Cond.instanceMethod yX0_firstCount, Cond.selects RX0 yX0_firstCount yX0_firstCount, Cond.initialized RX0, Cond.code yX0_firstCount cX0_firstCount 2 (some .int), Cond.fieldLink RX0 28 "CrashDesk$Car" "firstCounts" "[I", Cond.methodLink RX1 104 yX3_priceOf, Cond.instanceMethod yX3_priceOf, Cond.selects RX3 yX3_priceOf yX3_priceOf, Cond.code yX3_priceOf cX3_priceOf 2 (some .int), Cond.fieldLink RX3 24 "CrashDesk$Speed" "prices" "[I"]
def wsX1_meet : List Cond := .code yX1_meet cX1_meet 13 none :: ((wsX1_meet_r1 ++ wsX1_meet_r2) ++ wsX10 ++ wsX00 ++ wsX30)
def wsX1_pushFrom_r1 : List Cond := [Cond.fieldLink RX1 29 "CrashDesk$Meeting" "loss" "I", Cond.fieldLink RX1 12 "CrashDesk$Meeting" "zero" "LCrashDesk$Car;", Cond.fieldLink RX1 68 "CrashDesk$Car" "after" "LCrashDesk$Speed;", Cond.fieldLink RX1 49 "CrashDesk$Speed" "bottom" "I", Cond.methodLink RX1 57 yX3_isOpen, Cond.instanceMethod yX3_isOpen, Cond.selects RX3 yX3_isOpen yX3_isOpen, Cond.initialized RX3, Cond.code yX3_isOpen cX3_isOpen 2 (some .boolean), Cond.methodLink RX3 44 yX3_priceOf, Cond.instanceMethod yX3_priceOf, Cond.selects RX3 yX3_priceOf yX3_priceOf, Cond.code yX3_priceOf cX3_priceOf 2 (some .int), Cond.fieldLink RX3 24 "CrashDesk$Speed" "prices" "[I", Cond.methodLink RX1 71 yX1_meet, Cond.instanceMethod yX1_meet, Cond.selects RX1 yX1_meet yX1_meet, Cond.initialized RX1, Cond.code yX1_meet cX1_meet 13 none, Cond.fieldLink RX1 32 "CrashDesk$Meeting" "gain" "I", Cond.fieldLink RX1 18 "CrashDesk$Meeting" "one" "LCrashDesk$Car;", Cond.fieldLink RX1 45 "CrashDesk$Car" "at" "LCrashDesk$Speed;", Cond.methodLink RX1 75 Lib.Math.max.name, Cond.static Lib.Math.max.name]
def wsX1_pushFrom_r2 : List Cond := [Cond.initialized "java/lang/Math", Cond.code Lib.Math.max.name Lib.Math.max.code 2 (some .int), Cond.fieldLink RX1 54 "CrashDesk$Speed" "top" "I", Cond.methodLink RX1 80 Lib.Math.min.name, Cond.static Lib.Math.min.name, Cond.code Lib.Math.min.name Lib.Math.min.code 2 (some .int), Cond.fieldLink RX1 21 "CrashDesk$Meeting" "wayCount" "J", Cond.fieldLink RX1 25 "CrashDesk$Meeting" "cheapest" "I", Cond.static yX5_cheaper, Cond.initialized RX5, Cond.code yX5_cheaper cX5_cheaper 2 (some .int), Cond.methodLink RX1 97 yX3_see, Cond.instanceMethod yX3_see, Cond.selects RX3 yX3_see yX3_see, Cond.code yX3_see cX3_see 2 none, Cond.fieldLink RX3 28 "CrashDesk$Speed" "seen" "[Z", Cond.methodLink RX1 100 yX0_firstCount, Cond.instanceMethod yX0_firstCount, Cond.selects RX0 yX0_firstCount yX0_firstCount, Cond.initialized RX0, Cond.code yX0_firstCount cX0_firstCount 2 (some .int), Cond.fieldLink RX0 28 "CrashDesk$Car" "firstCounts" "[I", Cond.methodLink RX1 104 yX3_priceOf]
def wsX1_pushFrom : List Cond := .code yX1_pushFrom cX1_pushFrom 3 none :: ((wsX1_pushFrom_r1 ++ wsX1_pushFrom_r2) ++ wsX10 ++ wsX00 ++ wsX30)
def wsX1_reckon_r1 : List Cond := [Cond.fieldLink RX1 21 "CrashDesk$Meeting" "wayCount" "J", Cond.fieldLink RX1 25 "CrashDesk$Meeting" "cheapest" "I", Cond.fieldLink RX1 18 "CrashDesk$Meeting" "one" "LCrashDesk$Car;", Cond.fieldLink RX1 35 "CrashDesk$Car" "mass" "I", Cond.fieldLink RX1 12 "CrashDesk$Meeting" "zero" "LCrashDesk$Car;", Cond.fieldLink RX1 29 "CrashDesk$Meeting" "loss" "I", Cond.fieldLink RX1 32 "CrashDesk$Meeting" "gain" "I", Cond.fieldLink RX1 45 "CrashDesk$Car" "at" "LCrashDesk$Speed;", Cond.fieldLink RX1 49 "CrashDesk$Speed" "bottom" "I", Cond.fieldLink RX1 54 "CrashDesk$Speed" "top" "I", Cond.methodLink RX1 38 yX1_lowestShare, Cond.static yX1_lowestShare, Cond.initialized RX1, Cond.code yX1_lowestShare cX1_lowestShare 3 (some .int), Cond.methodLink RX1 42 yX0_settle, Cond.instanceMethod yX0_settle, Cond.selects RX0 yX0_settle yX0_settle, Cond.initialized RX0, Cond.code yX0_settle cX0_settle 2 none, Cond.fieldLink RX0 44 "CrashDesk$Car" "skidsBehind" "Z", Cond.fieldLink RX0 25 "CrashDesk$Car" "after" "LCrashDesk$Speed;", Cond.fieldLink RX0 22 "CrashDesk$Car" "at" "LCrashDesk$Speed;", Cond.methodLink RX0 62 yX0_isTakenBehind, Cond.instanceMethod yX0_isTakenBehind]
def wsX1_reckon_r2 : List Cond := [Cond.selects RX0 yX0_isTakenBehind yX0_isTakenBehind, Cond.code yX0_isTakenBehind cX0_isTakenBehind 3 (some .boolean), Cond.fieldLink RX0 38 "CrashDesk$Car" "behindLeast" "I", Cond.fieldLink RX0 41 "CrashDesk$Car" "behindGreatest" "I", Cond.methodLink RX0 66 yX3_setPrice, Cond.instanceMethod yX3_setPrice, Cond.selects RX3 yX3_setPrice yX3_setPrice, Cond.initialized RX3, Cond.code yX3_setPrice cX3_setPrice 3 none, Cond.fieldLink RX3 24 "CrashDesk$Speed" "prices" "[I", Cond.methodLink RX0 70 yX3_isOpen, Cond.instanceMethod yX3_isOpen, Cond.selects RX3 yX3_isOpen yX3_isOpen, Cond.code yX3_isOpen cX3_isOpen 2 (some .boolean), Cond.methodLink RX3 44 yX3_priceOf, Cond.instanceMethod yX3_priceOf, Cond.selects RX3 yX3_priceOf yX3_priceOf, Cond.code yX3_priceOf cX3_priceOf 2 (some .int), Cond.methodLink RX0 73 yX0_joinFirsts, Cond.instanceMethod yX0_joinFirsts, Cond.selects RX0 yX0_joinFirsts yX0_joinFirsts, Cond.code yX0_joinFirsts cX0_joinFirsts 6 none, Cond.methodLink RX0 86 Lib.Math.abs.name, Cond.static Lib.Math.abs.name]
def wsX1_reckon_r3 : List Cond := [Cond.initialized "java/lang/Math", Cond.code Lib.Math.abs.name Lib.Math.abs.code 1 (some .int), Cond.fieldLink RX0 18 "CrashDesk$Car" "first" "LCrashDesk$Speed;", Cond.fieldLink RX0 28 "CrashDesk$Car" "firstCounts" "[I", Cond.methodLink RX0 95 yX0_isTakenAhead, Cond.instanceMethod yX0_isTakenAhead, Cond.selects RX0 yX0_isTakenAhead yX0_isTakenAhead, Cond.code yX0_isTakenAhead cX0_isTakenAhead 4 (some .boolean), Cond.fieldLink RX0 32 "CrashDesk$Car" "aheadLeast" "I", Cond.fieldLink RX0 35 "CrashDesk$Car" "aheadGreatest" "I", Cond.methodLink RX0 99 yX0_firstFor, Cond.static yX0_firstFor, Cond.code yX0_firstFor cX0_firstFor 2 (some .int), Cond.methodLink RX0 106 yX3_priceOf, Cond.static yX5_cheaper, Cond.initialized RX5, Cond.code yX5_cheaper cX5_cheaper 2 (some .int), Cond.methodLink RX0 77 yX3_bound, Cond.instanceMethod yX3_bound, Cond.selects RX3 yX3_bound yX3_bound, Cond.code yX3_bound cX3_bound 2 none, Cond.fieldLink RX3 18 "CrashDesk$Speed" "bottom" "I", Cond.fieldLink RX3 21 "CrashDesk$Speed" "top" "I", Cond.methodLink RX3 48 Lib.Math.min.name]
def wsX1_reckon_r4 : List Cond := [Cond.static Lib.Math.min.name, Cond.code Lib.Math.min.name Lib.Math.min.code 2 (some .int), Cond.methodLink RX3 40 yX3_isOpen, Cond.methodLink RX1 57 yX3_isOpen, Cond.methodLink RX1 61 yX1_pushFrom, Cond.instanceMethod yX1_pushFrom, Cond.selects RX1 yX1_pushFrom yX1_pushFrom, Cond.code yX1_pushFrom cX1_pushFrom 3 none, Cond.fieldLink RX1 68 "CrashDesk$Car" "after" "LCrashDesk$Speed;", Cond.methodLink RX1 71 yX1_meet, Cond.instanceMethod yX1_meet, Cond.selects RX1 yX1_meet yX1_meet, Cond.code yX1_meet cX1_meet 13 none, Cond.methodLink RX1 75 Lib.Math.max.name, Cond.static Lib.Math.max.name, Cond.code Lib.Math.max.name Lib.Math.max.code 2 (some .int), Cond.methodLink RX1 80 Lib.Math.min.name, Cond.methodLink RX1 97 yX3_see, Cond.instanceMethod yX3_see, Cond.selects RX3 yX3_see yX3_see, Cond.code yX3_see cX3_see 2 none, Cond.fieldLink RX3 28 "CrashDesk$Speed" "seen" "[Z", Cond.methodLink RX1 100 yX0_firstCount, Cond.instanceMethod yX0_firstCount]
def wsX1_reckon_r5 : List Cond := [Cond.selects RX0 yX0_firstCount yX0_firstCount, Cond.code yX0_firstCount cX0_firstCount 2 (some .int), Cond.methodLink RX1 104 yX3_priceOf, Cond.methodLink RX1 65 yX0_seeFirsts, Cond.instanceMethod yX0_seeFirsts, Cond.selects RX0 yX0_seeFirsts yX0_seeFirsts, Cond.code yX0_seeFirsts cX0_seeFirsts 3 none, Cond.fieldLink RX0 80 "CrashDesk$Speed" "bottom" "I", Cond.fieldLink RX0 83 "CrashDesk$Speed" "top" "I", Cond.methodLink RX0 92 yX3_isSeen, Cond.instanceMethod yX3_isSeen, Cond.selects RX3 yX3_isSeen yX3_isSeen, Cond.code yX3_isSeen cX3_isSeen 2 (some .boolean), Cond.methodLink RX0 103 yX3_see]
def wsX1_reckon : List Cond := .code yX1_reckon cX1_reckon 2 none :: ((wsX1_reckon_r1 ++ (wsX1_reckon_r2 ++ (wsX1_reckon_r3 ++ (wsX1_reckon_r4 ++ wsX1_reckon_r5)))) ++ wsX10 ++ wsX00 ++ wsX30)
def wsX2_init : List Cond := .code yX2_init cX2_init 1 none :: ([.methodLink RX2 1 objectInit, .instanceMethod objectInit, .code objectInit ⟨#[0xb1]⟩ 1 none, .fieldLink RX2 7 "CrashDesk$Skid" "car" "I", .fieldLink RX2 13 "CrashDesk$Skid" "behind" "Z", .fieldLink RX2 17 "CrashDesk$Skid" "least" "I", .fieldLink RX2 20 "CrashDesk$Skid" "greatest" "I", .fieldLink RX2 23 "CrashDesk$Skid" "counts" "Z"] ++ wsX20)
def wsX3_hear : List Cond := .code yX3_hear cX3_hear 5 none :: ([.fieldLink RX3 36 "CrashDesk$Tale" "low" "I", .fieldLink RX3 39 "CrashDesk$Tale" "high" "I", .methodLink RX3 40 yX3_isOpen, .instanceMethod yX3_isOpen, .selects RX3 yX3_isOpen yX3_isOpen, .initialized RX3, .code yX3_isOpen cX3_isOpen 2 (some .boolean), .methodLink RX3 44 yX3_priceOf, .instanceMethod yX3_priceOf, .selects RX3 yX3_priceOf yX3_priceOf, .code yX3_priceOf cX3_priceOf 2 (some .int), .fieldLink RX3 24 "CrashDesk$Speed" "prices" "[I", .methodLink RX3 32 yX3_setPrice, .instanceMethod yX3_setPrice, .selects RX3 yX3_setPrice yX3_setPrice, .code yX3_setPrice cX3_setPrice 3 none] ++ wsX40 ++ wsX30)
def wsX3_leastSeen : List Cond := .code yX3_leastSeen cX3_leastSeen 2 (some .int) :: ([.methodLink RX3 54 yX3_isSeen, .instanceMethod yX3_isSeen, .selects RX3 yX3_isSeen yX3_isSeen, .initialized RX3, .code yX3_isSeen cX3_isSeen 2 (some .boolean), .fieldLink RX3 28 "CrashDesk$Speed" "seen" "[Z"] ++ wsX30)
def wsX3_greatestSeen : List Cond := .code yX3_greatestSeen cX3_greatestSeen 2 (some .int) :: ([.methodLink RX3 54 yX3_isSeen, .instanceMethod yX3_isSeen, .selects RX3 yX3_isSeen yX3_isSeen, .initialized RX3, .code yX3_isSeen cX3_isSeen 2 (some .boolean), .fieldLink RX3 28 "CrashDesk$Speed" "seen" "[Z"] ++ wsX30)
def wsX4_init : List Cond := .code yX4_init cX4_init 1 none :: ([.methodLink RX4 1 objectInit, .instanceMethod objectInit, .code objectInit ⟨#[0xb1]⟩ 1 none, .fieldLink RX4 7 "CrashDesk$Tale" "car" "I", .fieldLink RX4 13 "CrashDesk$Tale" "speed" "I", .fieldLink RX4 16 "CrashDesk$Tale" "low" "I", .fieldLink RX4 19 "CrashDesk$Tale" "high" "I"] ++ wsX40)
def wsX5_init_r1 : List Cond := [Cond.methodLink RX5 3 objectInit, Cond.instanceMethod objectInit, Cond.code objectInit ⟨#[0xb1]⟩ 1 none, Cond.classLink RX5 9 RX2, Cond.fieldLink RX5 11 "CrashDesk" "skids" "[LCrashDesk$Skid;", Cond.classLink RX5 15 RX4, Cond.fieldLink RX5 17 "CrashDesk" "tales" "[LCrashDesk$Tale;", Cond.fieldLink RX5 21 "CrashDesk" "skidCount" "I", Cond.fieldLink RX5 25 "CrashDesk" "taleCount" "I", Cond.classLink RX5 28 RX1, Cond.instantiable RX1 6, Cond.initialized RX1, Cond.fieldLink RX5 31 "CrashDesk" "meeting" "LCrashDesk$Meeting;", Cond.fieldLink RX5 35 "CrashDesk" "reckoned" "Z", Cond.fieldLink RX5 39 "CrashDesk" "reckonedTales" "I", Cond.fieldLink RX5 42 "CrashDesk" "reckonedWithout" "I", Cond.instantiable RX2 5, Cond.initialized RX2, Cond.instantiable RX4 4, Cond.initialized RX4, Cond.instanceMethod yX1_init, Cond.code yX1_init cX1_init 1 none, Cond.methodLink RX1 3 objectInit, Cond.classLink RX1 9 RX0]
def wsX5_init_r2 : List Cond := [Cond.instantiable RX0 10, Cond.initialized RX0, Cond.fieldLink RX1 12 "CrashDesk$Meeting" "zero" "LCrashDesk$Car;", Cond.fieldLink RX1 18 "CrashDesk$Meeting" "one" "LCrashDesk$Car;", Cond.fieldLink RX1 21 "CrashDesk$Meeting" "wayCount" "J", Cond.fieldLink RX1 25 "CrashDesk$Meeting" "cheapest" "I", Cond.fieldLink RX1 29 "CrashDesk$Meeting" "loss" "I", Cond.fieldLink RX1 32 "CrashDesk$Meeting" "gain" "I", Cond.instanceMethod yX0_init, Cond.code yX0_init cX0_init 1 none, Cond.methodLink RX0 3 objectInit, Cond.fieldLink RX0 9 "CrashDesk$Car" "mass" "I", Cond.classLink RX0 15 RX3, Cond.instantiable RX3 6, Cond.initialized RX3, Cond.fieldLink RX0 18 "CrashDesk$Car" "first" "LCrashDesk$Speed;", Cond.fieldLink RX0 22 "CrashDesk$Car" "at" "LCrashDesk$Speed;", Cond.fieldLink RX0 25 "CrashDesk$Car" "after" "LCrashDesk$Speed;", Cond.arrayClass .int, Cond.fieldLink RX0 28 "CrashDesk$Car" "firstCounts" "[I", Cond.fieldLink RX0 32 "CrashDesk$Car" "aheadLeast" "I", Cond.fieldLink RX0 35 "CrashDesk$Car" "aheadGreatest" "I", Cond.fieldLink RX0 38 "CrashDesk$Car" "behindLeast" "I", Cond.fieldLink RX0 41 "CrashDesk$Car" "behindGreatest" "I"]
def wsX5_init_r3 : List Cond := [Cond.fieldLink RX0 44 "CrashDesk$Car" "skidsBehind" "Z", Cond.instanceMethod yX3_init, Cond.code yX3_init cX3_init 1 none, Cond.methodLink RX3 3 objectInit, Cond.fieldLink RX3 9 "CrashDesk$Speed" "low" "I", Cond.fieldLink RX3 15 "CrashDesk$Speed" "high" "I", Cond.fieldLink RX3 18 "CrashDesk$Speed" "bottom" "I", Cond.fieldLink RX3 21 "CrashDesk$Speed" "top" "I", Cond.fieldLink RX3 24 "CrashDesk$Speed" "prices" "[I", Cond.arrayClass .boolean, Cond.fieldLink RX3 28 "CrashDesk$Speed" "seen" "[Z", Cond.instanceMethod yX2_init, Cond.code yX2_init cX2_init 1 none, Cond.methodLink RX2 1 objectInit, Cond.fieldLink RX2 7 "CrashDesk$Skid" "car" "I", Cond.fieldLink RX2 13 "CrashDesk$Skid" "behind" "Z", Cond.fieldLink RX2 17 "CrashDesk$Skid" "least" "I", Cond.fieldLink RX2 20 "CrashDesk$Skid" "greatest" "I", Cond.fieldLink RX2 23 "CrashDesk$Skid" "counts" "Z", Cond.instanceMethod yX4_init, Cond.code yX4_init cX4_init 1 none, Cond.methodLink RX4 1 objectInit, Cond.fieldLink RX4 7 "CrashDesk$Tale" "car" "I", Cond.fieldLink RX4 13 "CrashDesk$Tale" "speed" "I"]
def wsX5_init_r4 : List Cond := [Cond.fieldLink RX4 16 "CrashDesk$Tale" "low" "I", Cond.fieldLink RX4 19 "CrashDesk$Tale" "high" "I"]
def wsX5_init : List Cond := .code yX5_init cX5_init 2 none :: ((wsX5_init_r1 ++ (wsX5_init_r2 ++ (wsX5_init_r3 ++ wsX5_init_r4))) ++ wsX50 ++ wsX10 ++ wsX20 ++ wsX40 ++ wsX00 ++ wsX30)
def wsX5_testCar : List Cond := .code yX5_testCar cX5_testCar 1 none :: ([.classLink RX5 164 "java/lang/IndexOutOfBoundsException", .initialized "java/lang/IndexOutOfBoundsException"] ++ (vx_atS RX5 168 "java/lang/IndexOutOfBoundsException" ["java/lang/RuntimeException", "java/lang/Exception"]).filter goodWord)
def wsX5_carOf : List Cond := .code yX5_carOf cX5_carOf 2 (some (.object "CrashDesk$Car")) :: ([.fieldLink RX5 31 "CrashDesk" "meeting" "LCrashDesk$Meeting;", .methodLink RX5 60 yX5_testCar, .static yX5_testCar, .initialized RX5, .code yX5_testCar cX5_testCar 1 none, .classLink RX5 164 "java/lang/IndexOutOfBoundsException", .initialized "java/lang/IndexOutOfBoundsException", .methodLink RX5 180 yX1_pick, .instanceMethod yX1_pick, .selects RX1 yX1_pick yX1_pick, .initialized RX1, .code yX1_pick cX1_pick 2 (some (.object "CrashDesk$Car")), .fieldLink RX1 12 "CrashDesk$Meeting" "zero" "LCrashDesk$Car;", .fieldLink RX1 18 "CrashDesk$Meeting" "one" "LCrashDesk$Car;"] ++ wsX50 ++ wsX10 ++ (vx_atS RX5 168 "java/lang/IndexOutOfBoundsException" ["java/lang/RuntimeException", "java/lang/Exception"]).filter goodWord)
def wsX5_testNumber : List Cond := .code yX5_testNumber cX5_testNumber 3 none :: ([.classLink RX5 171 "java/lang/IllegalArgumentException", .initialized "java/lang/IllegalArgumentException"] ++ (vx_atS RX5 175 "java/lang/IllegalArgumentException" ["java/lang/RuntimeException", "java/lang/Exception"]).filter goodWord)
def wsX5_mass_r1 : List Cond := [Cond.fieldLink RX5 55 "CrashDesk$Car" "mass" "I", Cond.fieldLink RX5 35 "CrashDesk" "reckoned" "Z", Cond.methodLink RX5 47 yX5_carOf, Cond.instanceMethod yX5_carOf, Cond.selects RX5 yX5_carOf yX5_carOf, Cond.initialized RX5, Cond.code yX5_carOf cX5_carOf 2 (some (.object "CrashDesk$Car")), Cond.fieldLink RX5 31 "CrashDesk" "meeting" "LCrashDesk$Meeting;", Cond.methodLink RX5 60 yX5_testCar, Cond.static yX5_testCar, Cond.code yX5_testCar cX5_testCar 1 none, Cond.classLink RX5 164 "java/lang/IndexOutOfBoundsException", Cond.initialized "java/lang/IndexOutOfBoundsException", Cond.methodLink RX5 180 yX1_pick, Cond.instanceMethod yX1_pick, Cond.selects RX1 yX1_pick yX1_pick, Cond.initialized RX1, Cond.code yX1_pick cX1_pick 2 (some (.object "CrashDesk$Car")), Cond.fieldLink RX1 12 "CrashDesk$Meeting" "zero" "LCrashDesk$Car;", Cond.fieldLink RX1 18 "CrashDesk$Meeting" "one" "LCrashDesk$Car;", Cond.methodLink RX5 51 yX5_testNumber, Cond.static yX5_testNumber, Cond.code yX5_testNumber cX5_testNumber 3 none, Cond.classLink RX5 171 "java/lang/IllegalArgumentException"]
def wsX5_mass_r2 : List Cond := [Cond.initialized "java/lang/IllegalArgumentException"]
def wsX5_mass : List Cond := .code yX5_mass cX5_mass 4 none :: ((wsX5_mass_r1 ++ wsX5_mass_r2) ++ wsX00 ++ wsX50 ++ wsX10 ++ (vx_atS RX5 168 "java/lang/IndexOutOfBoundsException" ["java/lang/RuntimeException", "java/lang/Exception"]).filter goodWord ++ (vx_atS RX5 175 "java/lang/IllegalArgumentException" ["java/lang/RuntimeException", "java/lang/Exception"]).filter goodWord)
def wsX5_testSpan : List Cond := .code yX5_testSpan cX5_testSpan 4 none :: ([.classLink RX5 171 "java/lang/IllegalArgumentException", .initialized "java/lang/IllegalArgumentException"] ++ (vx_atS RX5 175 "java/lang/IllegalArgumentException" ["java/lang/RuntimeException", "java/lang/Exception"]).filter goodWord)
def wsX5_skid : List Cond := .code yX5_skid cX5_skid 8 (some .int) :: ([.classLink RX5 68 "java/lang/UnsupportedOperationException", .initialized "java/lang/UnsupportedOperationException", .fieldLink RX5 21 "CrashDesk" "skidCount" "I", .fieldLink RX5 11 "CrashDesk" "skids" "[LCrashDesk$Skid;", .fieldLink RX5 75 "CrashDesk$Skid" "car" "I", .fieldLink RX5 78 "CrashDesk$Skid" "behind" "Z", .fieldLink RX5 81 "CrashDesk$Skid" "least" "I", .fieldLink RX5 84 "CrashDesk$Skid" "greatest" "I", .fieldLink RX5 87 "CrashDesk$Skid" "counts" "Z", .fieldLink RX5 35 "CrashDesk" "reckoned" "Z", .methodLink RX5 60 yX5_testCar, .static yX5_testCar, .initialized RX5, .code yX5_testCar cX5_testCar 1 none, .classLink RX5 164 "java/lang/IndexOutOfBoundsException", .initialized "java/lang/IndexOutOfBoundsException", .methodLink RX5 64 yX5_testSpan, .static yX5_testSpan, .code yX5_testSpan cX5_testSpan 4 none, .classLink RX5 171 "java/lang/IllegalArgumentException", .initialized "java/lang/IllegalArgumentException"] ++ wsX50 ++ wsX20 ++ (vx_atS RX5 72 "java/lang/UnsupportedOperationException" ["java/lang/RuntimeException", "java/lang/Exception"]).filter goodWord ++ (vx_atS RX5 168 "java/lang/IndexOutOfBoundsException" ["java/lang/RuntimeException", "java/lang/Exception"]).filter goodWord ++ (vx_atS RX5 175 "java/lang/IllegalArgumentException" ["java/lang/RuntimeException", "java/lang/Exception"]).filter goodWord)
def wsX5_skidOf : List Cond := .code yX5_skidOf cX5_skidOf 2 (some (.object "CrashDesk$Skid")) :: ([.classLink RX5 164 "java/lang/IndexOutOfBoundsException", .initialized "java/lang/IndexOutOfBoundsException", .fieldLink RX5 21 "CrashDesk" "skidCount" "I", .fieldLink RX5 11 "CrashDesk" "skids" "[LCrashDesk$Skid;"] ++ wsX50 ++ (vx_atS RX5 168 "java/lang/IndexOutOfBoundsException" ["java/lang/RuntimeException", "java/lang/Exception"]).filter goodWord)
def wsX5_drop : List Cond := .code yX5_drop cX5_drop 4 (some .boolean) :: ([.fieldLink RX5 87 "CrashDesk$Skid" "counts" "Z", .fieldLink RX5 35 "CrashDesk" "reckoned" "Z", .methodLink RX5 90 yX5_skidOf, .instanceMethod yX5_skidOf, .selects RX5 yX5_skidOf yX5_skidOf, .initialized RX5, .code yX5_skidOf cX5_skidOf 2 (some (.object "CrashDesk$Skid")), .classLink RX5 164 "java/lang/IndexOutOfBoundsException", .initialized "java/lang/IndexOutOfBoundsException", .fieldLink RX5 21 "CrashDesk" "skidCount" "I", .fieldLink RX5 11 "CrashDesk" "skids" "[LCrashDesk$Skid;"] ++ wsX20 ++ wsX50 ++ (vx_atS RX5 168 "java/lang/IndexOutOfBoundsException" ["java/lang/RuntimeException", "java/lang/Exception"]).filter goodWord)
def wsX5_testSpeed : List Cond := .code yX5_testSpeed cX5_testSpeed 2 none :: ([.classLink RX5 164 "java/lang/IndexOutOfBoundsException", .initialized "java/lang/IndexOutOfBoundsException", .methodLink RX5 60 yX5_testCar, .static yX5_testCar, .initialized RX5, .code yX5_testCar cX5_testCar 1 none] ++ (vx_atS RX5 168 "java/lang/IndexOutOfBoundsException" ["java/lang/RuntimeException", "java/lang/Exception"]).filter goodWord)
def wsX5_speedOf_r1 : List Cond := [Cond.methodLink RX5 106 yX5_testSpeed, Cond.static yX5_testSpeed, Cond.initialized RX5, Cond.code yX5_testSpeed cX5_testSpeed 2 none, Cond.classLink RX5 164 "java/lang/IndexOutOfBoundsException", Cond.initialized "java/lang/IndexOutOfBoundsException", Cond.methodLink RX5 60 yX5_testCar, Cond.static yX5_testCar, Cond.code yX5_testCar cX5_testCar 1 none, Cond.methodLink RX5 47 yX5_carOf, Cond.instanceMethod yX5_carOf, Cond.selects RX5 yX5_carOf yX5_carOf, Cond.code yX5_carOf cX5_carOf 2 (some (.object "CrashDesk$Car")), Cond.fieldLink RX5 31 "CrashDesk" "meeting" "LCrashDesk$Meeting;", Cond.methodLink RX5 180 yX1_pick, Cond.instanceMethod yX1_pick, Cond.selects RX1 yX1_pick yX1_pick, Cond.initialized RX1, Cond.code yX1_pick cX1_pick 2 (some (.object "CrashDesk$Car")), Cond.fieldLink RX1 12 "CrashDesk$Meeting" "zero" "LCrashDesk$Car;", Cond.fieldLink RX1 18 "CrashDesk$Meeting" "one" "LCrashDesk$Car;", Cond.methodLink RX5 183 yX0_pick, Cond.instanceMethod yX0_pick, Cond.selects RX0 yX0_pick yX0_pick]
def wsX5_speedOf_r2 : List Cond := [Cond.initialized RX0, Cond.code yX0_pick cX0_pick 2 (some (.object "CrashDesk$Speed")), Cond.fieldLink RX0 18 "CrashDesk$Car" "first" "LCrashDesk$Speed;", Cond.fieldLink RX0 22 "CrashDesk$Car" "at" "LCrashDesk$Speed;", Cond.fieldLink RX0 25 "CrashDesk$Car" "after" "LCrashDesk$Speed;"]
def wsX5_speedOf : List Cond := .code yX5_speedOf cX5_speedOf 3 (some (.object "CrashDesk$Speed")) :: ((wsX5_speedOf_r1 ++ wsX5_speedOf_r2) ++ wsX50 ++ wsX10 ++ wsX00 ++ (vx_atS RX5 168 "java/lang/IndexOutOfBoundsException" ["java/lang/RuntimeException", "java/lang/Exception"]).filter goodWord)
def wsX5_sure_r1 : List Cond := [Cond.fieldLink RX5 98 "CrashDesk$Speed" "low" "I", Cond.fieldLink RX5 103 "CrashDesk$Speed" "high" "I", Cond.fieldLink RX5 35 "CrashDesk" "reckoned" "Z", Cond.methodLink RX5 94 yX5_speedOf, Cond.instanceMethod yX5_speedOf, Cond.selects RX5 yX5_speedOf yX5_speedOf, Cond.initialized RX5, Cond.code yX5_speedOf cX5_speedOf 3 (some (.object "CrashDesk$Speed")), Cond.methodLink RX5 106 yX5_testSpeed, Cond.static yX5_testSpeed, Cond.code yX5_testSpeed cX5_testSpeed 2 none, Cond.classLink RX5 164 "java/lang/IndexOutOfBoundsException", Cond.initialized "java/lang/IndexOutOfBoundsException", Cond.methodLink RX5 60 yX5_testCar, Cond.static yX5_testCar, Cond.code yX5_testCar cX5_testCar 1 none, Cond.methodLink RX5 47 yX5_carOf, Cond.instanceMethod yX5_carOf, Cond.selects RX5 yX5_carOf yX5_carOf, Cond.code yX5_carOf cX5_carOf 2 (some (.object "CrashDesk$Car")), Cond.fieldLink RX5 31 "CrashDesk" "meeting" "LCrashDesk$Meeting;", Cond.methodLink RX5 180 yX1_pick, Cond.instanceMethod yX1_pick, Cond.selects RX1 yX1_pick yX1_pick]
def wsX5_sure_r2 : List Cond := [Cond.initialized RX1, Cond.code yX1_pick cX1_pick 2 (some (.object "CrashDesk$Car")), Cond.fieldLink RX1 12 "CrashDesk$Meeting" "zero" "LCrashDesk$Car;", Cond.fieldLink RX1 18 "CrashDesk$Meeting" "one" "LCrashDesk$Car;", Cond.methodLink RX5 183 yX0_pick, Cond.instanceMethod yX0_pick, Cond.selects RX0 yX0_pick yX0_pick, Cond.initialized RX0, Cond.code yX0_pick cX0_pick 2 (some (.object "CrashDesk$Speed")), Cond.fieldLink RX0 18 "CrashDesk$Car" "first" "LCrashDesk$Speed;", Cond.fieldLink RX0 22 "CrashDesk$Car" "at" "LCrashDesk$Speed;", Cond.fieldLink RX0 25 "CrashDesk$Car" "after" "LCrashDesk$Speed;", Cond.methodLink RX5 64 yX5_testSpan, Cond.static yX5_testSpan, Cond.code yX5_testSpan cX5_testSpan 4 none, Cond.classLink RX5 171 "java/lang/IllegalArgumentException", Cond.initialized "java/lang/IllegalArgumentException"]
def wsX5_sure : List Cond := .code yX5_sure cX5_sure 6 none :: ((wsX5_sure_r1 ++ wsX5_sure_r2) ++ wsX30 ++ wsX50 ++ wsX10 ++ wsX00 ++ (vx_atS RX5 168 "java/lang/IndexOutOfBoundsException" ["java/lang/RuntimeException", "java/lang/Exception"]).filter goodWord ++ (vx_atS RX5 175 "java/lang/IllegalArgumentException" ["java/lang/RuntimeException", "java/lang/Exception"]).filter goodWord)
def wsX5_tale : List Cond := .code yX5_tale cX5_tale 6 (some .int) :: ([.classLink RX5 68 "java/lang/UnsupportedOperationException", .initialized "java/lang/UnsupportedOperationException", .fieldLink RX5 25 "CrashDesk" "taleCount" "I", .fieldLink RX5 17 "CrashDesk" "tales" "[LCrashDesk$Tale;", .fieldLink RX5 112 "CrashDesk$Tale" "car" "I", .fieldLink RX5 113 "CrashDesk$Tale" "speed" "I", .fieldLink RX5 116 "CrashDesk$Tale" "low" "I", .fieldLink RX5 117 "CrashDesk$Tale" "high" "I", .fieldLink RX5 35 "CrashDesk" "reckoned" "Z", .methodLink RX5 106 yX5_testSpeed, .static yX5_testSpeed, .initialized RX5, .code yX5_testSpeed cX5_testSpeed 2 none, .classLink RX5 164 "java/lang/IndexOutOfBoundsException", .initialized "java/lang/IndexOutOfBoundsException", .methodLink RX5 60 yX5_testCar, .static yX5_testCar, .code yX5_testCar cX5_testCar 1 none, .methodLink RX5 64 yX5_testSpan, .static yX5_testSpan, .code yX5_testSpan cX5_testSpan 4 none, .classLink RX5 171 "java/lang/IllegalArgumentException", .initialized "java/lang/IllegalArgumentException"] ++ wsX50 ++ wsX40 ++ (vx_atS RX5 72 "java/lang/UnsupportedOperationException" ["java/lang/RuntimeException", "java/lang/Exception"]).filter goodWord ++ (vx_atS RX5 168 "java/lang/IndexOutOfBoundsException" ["java/lang/RuntimeException", "java/lang/Exception"]).filter goodWord ++ (vx_atS RX5 175 "java/lang/IllegalArgumentException" ["java/lang/RuntimeException", "java/lang/Exception"]).filter goodWord)
def wsX5_hush : List Cond := .code yX5_hush cX5_hush 2 (some .int) :: ([.fieldLink RX5 25 "CrashDesk" "taleCount" "I", .fieldLink RX5 35 "CrashDesk" "reckoned" "Z"] ++ wsX50)
def wsX5_reckon_r1 : List Cond := [Cond.fieldLink RX5 35 "CrashDesk" "reckoned" "Z", Cond.fieldLink RX5 39 "CrashDesk" "reckonedTales" "I", Cond.fieldLink RX5 42 "CrashDesk" "reckonedWithout" "I", Cond.fieldLink RX5 31 "CrashDesk" "meeting" "LCrashDesk$Meeting;", Cond.fieldLink RX5 157 "CrashDesk$Meeting" "zero" "LCrashDesk$Car;", Cond.fieldLink RX5 161 "CrashDesk$Meeting" "one" "LCrashDesk$Car;", Cond.fieldLink RX5 25 "CrashDesk" "taleCount" "I", Cond.fieldLink RX5 17 "CrashDesk" "tales" "[LCrashDesk$Tale;", Cond.fieldLink RX5 112 "CrashDesk$Tale" "car" "I", Cond.fieldLink RX5 113 "CrashDesk$Tale" "speed" "I", Cond.fieldLink RX5 21 "CrashDesk" "skidCount" "I", Cond.fieldLink RX5 11 "CrashDesk" "skids" "[LCrashDesk$Skid;", Cond.fieldLink RX5 87 "CrashDesk$Skid" "counts" "Z", Cond.fieldLink RX5 75 "CrashDesk$Skid" "car" "I", Cond.methodLink RX5 188 yX0_clear, Cond.instanceMethod yX0_clear, Cond.selects RX0 yX0_clear yX0_clear, Cond.initialized RX0, Cond.code yX0_clear cX0_clear 1 none, Cond.fieldLink RX0 18 "CrashDesk$Car" "first" "LCrashDesk$Speed;", Cond.fieldLink RX0 22 "CrashDesk$Car" "at" "LCrashDesk$Speed;", Cond.fieldLink RX0 25 "CrashDesk$Car" "after" "LCrashDesk$Speed;", Cond.fieldLink RX0 32 "CrashDesk$Car" "aheadLeast" "I", Cond.fieldLink RX0 35 "CrashDesk$Car" "aheadGreatest" "I"]
def wsX5_reckon_r2 : List Cond := [Cond.fieldLink RX0 38 "CrashDesk$Car" "behindLeast" "I", Cond.fieldLink RX0 41 "CrashDesk$Car" "behindGreatest" "I", Cond.fieldLink RX0 44 "CrashDesk$Car" "skidsBehind" "Z", Cond.methodLink RX0 48 yX3_clear, Cond.instanceMethod yX3_clear, Cond.selects RX3 yX3_clear yX3_clear, Cond.initialized RX3, Cond.code yX3_clear cX3_clear 2 none, Cond.fieldLink RX3 9 "CrashDesk$Speed" "low" "I", Cond.fieldLink RX3 15 "CrashDesk$Speed" "high" "I", Cond.fieldLink RX3 28 "CrashDesk$Speed" "seen" "[Z", Cond.methodLink RX3 32 yX3_setPrice, Cond.instanceMethod yX3_setPrice, Cond.selects RX3 yX3_setPrice yX3_setPrice, Cond.code yX3_setPrice cX3_setPrice 3 none, Cond.fieldLink RX3 24 "CrashDesk$Speed" "prices" "[I", Cond.methodLink RX5 180 yX1_pick, Cond.instanceMethod yX1_pick, Cond.selects RX1 yX1_pick yX1_pick, Cond.initialized RX1, Cond.code yX1_pick cX1_pick 2 (some (.object "CrashDesk$Car")), Cond.fieldLink RX1 12 "CrashDesk$Meeting" "zero" "LCrashDesk$Car;", Cond.fieldLink RX1 18 "CrashDesk$Meeting" "one" "LCrashDesk$Car;", Cond.methodLink RX5 183 yX0_pick]
def wsX5_reckon_r3 : List Cond := [Cond.instanceMethod yX0_pick, Cond.selects RX0 yX0_pick yX0_pick, Cond.code yX0_pick cX0_pick 2 (some (.object "CrashDesk$Speed")), Cond.methodLink RX5 191 yX3_hear, Cond.instanceMethod yX3_hear, Cond.selects RX3 yX3_hear yX3_hear, Cond.code yX3_hear cX3_hear 5 none, Cond.fieldLink RX3 36 "CrashDesk$Tale" "low" "I", Cond.fieldLink RX3 39 "CrashDesk$Tale" "high" "I", Cond.methodLink RX3 40 yX3_isOpen, Cond.instanceMethod yX3_isOpen, Cond.selects RX3 yX3_isOpen yX3_isOpen, Cond.code yX3_isOpen cX3_isOpen 2 (some .boolean), Cond.methodLink RX3 44 yX3_priceOf, Cond.instanceMethod yX3_priceOf, Cond.selects RX3 yX3_priceOf yX3_priceOf, Cond.code yX3_priceOf cX3_priceOf 2 (some .int), Cond.methodLink RX5 195 yX0_add, Cond.instanceMethod yX0_add, Cond.selects RX0 yX0_add yX0_add, Cond.code yX0_add cX0_add 2 none, Cond.fieldLink RX0 51 "CrashDesk$Skid" "behind" "Z", Cond.fieldLink RX0 56 "CrashDesk$Skid" "least" "I", Cond.fieldLink RX0 59 "CrashDesk$Skid" "greatest" "I"]
def wsX5_reckon_r4 : List Cond := [Cond.methodLink RX5 199 yX1_reckon, Cond.instanceMethod yX1_reckon, Cond.selects RX1 yX1_reckon yX1_reckon, Cond.code yX1_reckon cX1_reckon 2 none, Cond.fieldLink RX1 21 "CrashDesk$Meeting" "wayCount" "J", Cond.fieldLink RX1 25 "CrashDesk$Meeting" "cheapest" "I", Cond.fieldLink RX1 35 "CrashDesk$Car" "mass" "I", Cond.fieldLink RX1 29 "CrashDesk$Meeting" "loss" "I", Cond.fieldLink RX1 32 "CrashDesk$Meeting" "gain" "I", Cond.fieldLink RX1 45 "CrashDesk$Car" "at" "LCrashDesk$Speed;", Cond.fieldLink RX1 49 "CrashDesk$Speed" "bottom" "I", Cond.fieldLink RX1 54 "CrashDesk$Speed" "top" "I", Cond.methodLink RX1 38 yX1_lowestShare, Cond.static yX1_lowestShare, Cond.code yX1_lowestShare cX1_lowestShare 3 (some .int), Cond.methodLink RX1 42 yX0_settle, Cond.instanceMethod yX0_settle, Cond.selects RX0 yX0_settle yX0_settle, Cond.code yX0_settle cX0_settle 2 none, Cond.methodLink RX0 62 yX0_isTakenBehind, Cond.instanceMethod yX0_isTakenBehind, Cond.selects RX0 yX0_isTakenBehind yX0_isTakenBehind, Cond.code yX0_isTakenBehind cX0_isTakenBehind 3 (some .boolean), Cond.methodLink RX0 66 yX3_setPrice]
def wsX5_reckon_r5 : List Cond := [Cond.methodLink RX0 70 yX3_isOpen, Cond.methodLink RX0 73 yX0_joinFirsts, Cond.instanceMethod yX0_joinFirsts, Cond.selects RX0 yX0_joinFirsts yX0_joinFirsts, Cond.code yX0_joinFirsts cX0_joinFirsts 6 none, Cond.methodLink RX0 86 Lib.Math.abs.name, Cond.static Lib.Math.abs.name, Cond.initialized "java/lang/Math", Cond.code Lib.Math.abs.name Lib.Math.abs.code 1 (some .int), Cond.fieldLink RX0 28 "CrashDesk$Car" "firstCounts" "[I", Cond.methodLink RX0 95 yX0_isTakenAhead, Cond.instanceMethod yX0_isTakenAhead, Cond.selects RX0 yX0_isTakenAhead yX0_isTakenAhead, Cond.code yX0_isTakenAhead cX0_isTakenAhead 4 (some .boolean), Cond.methodLink RX0 99 yX0_firstFor, Cond.static yX0_firstFor, Cond.code yX0_firstFor cX0_firstFor 2 (some .int), Cond.methodLink RX0 106 yX3_priceOf, Cond.static yX5_cheaper, Cond.initialized RX5, Cond.code yX5_cheaper cX5_cheaper 2 (some .int), Cond.methodLink RX0 77 yX3_bound, Cond.instanceMethod yX3_bound, Cond.selects RX3 yX3_bound yX3_bound]
def wsX5_reckon_r6 : List Cond := [Cond.code yX3_bound cX3_bound 2 none, Cond.fieldLink RX3 18 "CrashDesk$Speed" "bottom" "I", Cond.fieldLink RX3 21 "CrashDesk$Speed" "top" "I", Cond.methodLink RX3 48 Lib.Math.min.name, Cond.static Lib.Math.min.name, Cond.code Lib.Math.min.name Lib.Math.min.code 2 (some .int), Cond.methodLink RX1 57 yX3_isOpen, Cond.methodLink RX1 61 yX1_pushFrom, Cond.instanceMethod yX1_pushFrom, Cond.selects RX1 yX1_pushFrom yX1_pushFrom, Cond.code yX1_pushFrom cX1_pushFrom 3 none, Cond.fieldLink RX1 68 "CrashDesk$Car" "after" "LCrashDesk$Speed;", Cond.methodLink RX1 71 yX1_meet, Cond.instanceMethod yX1_meet, Cond.selects RX1 yX1_meet yX1_meet, Cond.code yX1_meet cX1_meet 13 none, Cond.methodLink RX1 75 Lib.Math.max.name, Cond.static Lib.Math.max.name, Cond.code Lib.Math.max.name Lib.Math.max.code 2 (some .int), Cond.methodLink RX1 80 Lib.Math.min.name, Cond.methodLink RX1 97 yX3_see, Cond.instanceMethod yX3_see, Cond.selects RX3 yX3_see yX3_see, Cond.code yX3_see cX3_see 2 none]
def wsX5_reckon_r7 : List Cond := [Cond.methodLink RX1 100 yX0_firstCount, Cond.instanceMethod yX0_firstCount, Cond.selects RX0 yX0_firstCount yX0_firstCount, Cond.code yX0_firstCount cX0_firstCount 2 (some .int), Cond.methodLink RX1 104 yX3_priceOf, Cond.methodLink RX1 65 yX0_seeFirsts, Cond.instanceMethod yX0_seeFirsts, Cond.selects RX0 yX0_seeFirsts yX0_seeFirsts, Cond.code yX0_seeFirsts cX0_seeFirsts 3 none, Cond.fieldLink RX0 80 "CrashDesk$Speed" "bottom" "I", Cond.fieldLink RX0 83 "CrashDesk$Speed" "top" "I", Cond.methodLink RX0 92 yX3_isSeen, Cond.instanceMethod yX3_isSeen, Cond.selects RX3 yX3_isSeen yX3_isSeen, Cond.code yX3_isSeen cX3_isSeen 2 (some .boolean), Cond.methodLink RX0 103 yX3_see]
def wsX5_reckon : List Cond := .code yX5_reckon cX5_reckon 7 none :: ((wsX5_reckon_r1 ++ (wsX5_reckon_r2 ++ (wsX5_reckon_r3 ++ (wsX5_reckon_r4 ++ (wsX5_reckon_r5 ++ (wsX5_reckon_r6 ++ wsX5_reckon_r7)))))) ++ wsX50 ++ wsX10 ++ wsX40 ++ wsX20 ++ wsX00 ++ wsX30)
def wsX5_ways_r1 : List Cond := [Cond.fieldLink RX5 31 "CrashDesk" "meeting" "LCrashDesk$Meeting;", Cond.fieldLink RX5 121 "CrashDesk$Meeting" "wayCount" "J", Cond.methodLink RX5 118 yX5_reckon, Cond.instanceMethod yX5_reckon, Cond.selects RX5 yX5_reckon yX5_reckon, Cond.initialized RX5, Cond.code yX5_reckon cX5_reckon 7 none, Cond.fieldLink RX5 35 "CrashDesk" "reckoned" "Z", Cond.fieldLink RX5 39 "CrashDesk" "reckonedTales" "I", Cond.fieldLink RX5 42 "CrashDesk" "reckonedWithout" "I", Cond.fieldLink RX5 157 "CrashDesk$Meeting" "zero" "LCrashDesk$Car;", Cond.fieldLink RX5 161 "CrashDesk$Meeting" "one" "LCrashDesk$Car;", Cond.fieldLink RX5 25 "CrashDesk" "taleCount" "I", Cond.fieldLink RX5 17 "CrashDesk" "tales" "[LCrashDesk$Tale;", Cond.fieldLink RX5 112 "CrashDesk$Tale" "car" "I", Cond.fieldLink RX5 113 "CrashDesk$Tale" "speed" "I", Cond.fieldLink RX5 21 "CrashDesk" "skidCount" "I", Cond.fieldLink RX5 11 "CrashDesk" "skids" "[LCrashDesk$Skid;", Cond.fieldLink RX5 87 "CrashDesk$Skid" "counts" "Z", Cond.fieldLink RX5 75 "CrashDesk$Skid" "car" "I", Cond.methodLink RX5 188 yX0_clear, Cond.instanceMethod yX0_clear, Cond.selects RX0 yX0_clear yX0_clear, Cond.initialized RX0]
def wsX5_ways_r2 : List Cond := [Cond.code yX0_clear cX0_clear 1 none, Cond.fieldLink RX0 18 "CrashDesk$Car" "first" "LCrashDesk$Speed;", Cond.fieldLink RX0 22 "CrashDesk$Car" "at" "LCrashDesk$Speed;", Cond.fieldLink RX0 25 "CrashDesk$Car" "after" "LCrashDesk$Speed;", Cond.fieldLink RX0 32 "CrashDesk$Car" "aheadLeast" "I", Cond.fieldLink RX0 35 "CrashDesk$Car" "aheadGreatest" "I", Cond.fieldLink RX0 38 "CrashDesk$Car" "behindLeast" "I", Cond.fieldLink RX0 41 "CrashDesk$Car" "behindGreatest" "I", Cond.fieldLink RX0 44 "CrashDesk$Car" "skidsBehind" "Z", Cond.methodLink RX0 48 yX3_clear, Cond.instanceMethod yX3_clear, Cond.selects RX3 yX3_clear yX3_clear, Cond.initialized RX3, Cond.code yX3_clear cX3_clear 2 none, Cond.fieldLink RX3 9 "CrashDesk$Speed" "low" "I", Cond.fieldLink RX3 15 "CrashDesk$Speed" "high" "I", Cond.fieldLink RX3 28 "CrashDesk$Speed" "seen" "[Z", Cond.methodLink RX3 32 yX3_setPrice, Cond.instanceMethod yX3_setPrice, Cond.selects RX3 yX3_setPrice yX3_setPrice, Cond.code yX3_setPrice cX3_setPrice 3 none, Cond.fieldLink RX3 24 "CrashDesk$Speed" "prices" "[I", Cond.methodLink RX5 180 yX1_pick, Cond.instanceMethod yX1_pick]
def wsX5_ways_r3 : List Cond := [Cond.selects RX1 yX1_pick yX1_pick, Cond.initialized RX1, Cond.code yX1_pick cX1_pick 2 (some (.object "CrashDesk$Car")), Cond.fieldLink RX1 12 "CrashDesk$Meeting" "zero" "LCrashDesk$Car;", Cond.fieldLink RX1 18 "CrashDesk$Meeting" "one" "LCrashDesk$Car;", Cond.methodLink RX5 183 yX0_pick, Cond.instanceMethod yX0_pick, Cond.selects RX0 yX0_pick yX0_pick, Cond.code yX0_pick cX0_pick 2 (some (.object "CrashDesk$Speed")), Cond.methodLink RX5 191 yX3_hear, Cond.instanceMethod yX3_hear, Cond.selects RX3 yX3_hear yX3_hear, Cond.code yX3_hear cX3_hear 5 none, Cond.fieldLink RX3 36 "CrashDesk$Tale" "low" "I", Cond.fieldLink RX3 39 "CrashDesk$Tale" "high" "I", Cond.methodLink RX3 40 yX3_isOpen, Cond.instanceMethod yX3_isOpen, Cond.selects RX3 yX3_isOpen yX3_isOpen, Cond.code yX3_isOpen cX3_isOpen 2 (some .boolean), Cond.methodLink RX3 44 yX3_priceOf, Cond.instanceMethod yX3_priceOf, Cond.selects RX3 yX3_priceOf yX3_priceOf, Cond.code yX3_priceOf cX3_priceOf 2 (some .int), Cond.methodLink RX5 195 yX0_add]
def wsX5_ways_r4 : List Cond := [Cond.instanceMethod yX0_add, Cond.selects RX0 yX0_add yX0_add, Cond.code yX0_add cX0_add 2 none, Cond.fieldLink RX0 51 "CrashDesk$Skid" "behind" "Z", Cond.fieldLink RX0 56 "CrashDesk$Skid" "least" "I", Cond.fieldLink RX0 59 "CrashDesk$Skid" "greatest" "I", Cond.methodLink RX5 199 yX1_reckon, Cond.instanceMethod yX1_reckon, Cond.selects RX1 yX1_reckon yX1_reckon, Cond.code yX1_reckon cX1_reckon 2 none, Cond.fieldLink RX1 21 "CrashDesk$Meeting" "wayCount" "J", Cond.fieldLink RX1 25 "CrashDesk$Meeting" "cheapest" "I", Cond.fieldLink RX1 35 "CrashDesk$Car" "mass" "I", Cond.fieldLink RX1 29 "CrashDesk$Meeting" "loss" "I", Cond.fieldLink RX1 32 "CrashDesk$Meeting" "gain" "I", Cond.fieldLink RX1 45 "CrashDesk$Car" "at" "LCrashDesk$Speed;", Cond.fieldLink RX1 49 "CrashDesk$Speed" "bottom" "I", Cond.fieldLink RX1 54 "CrashDesk$Speed" "top" "I", Cond.methodLink RX1 38 yX1_lowestShare, Cond.static yX1_lowestShare, Cond.code yX1_lowestShare cX1_lowestShare 3 (some .int), Cond.methodLink RX1 42 yX0_settle, Cond.instanceMethod yX0_settle, Cond.selects RX0 yX0_settle yX0_settle]
def wsX5_ways_r5 : List Cond := [Cond.code yX0_settle cX0_settle 2 none, Cond.methodLink RX0 62 yX0_isTakenBehind, Cond.instanceMethod yX0_isTakenBehind, Cond.selects RX0 yX0_isTakenBehind yX0_isTakenBehind, Cond.code yX0_isTakenBehind cX0_isTakenBehind 3 (some .boolean), Cond.methodLink RX0 66 yX3_setPrice, Cond.methodLink RX0 70 yX3_isOpen, Cond.methodLink RX0 73 yX0_joinFirsts, Cond.instanceMethod yX0_joinFirsts, Cond.selects RX0 yX0_joinFirsts yX0_joinFirsts, Cond.code yX0_joinFirsts cX0_joinFirsts 6 none, Cond.methodLink RX0 86 Lib.Math.abs.name, Cond.static Lib.Math.abs.name, Cond.initialized "java/lang/Math", Cond.code Lib.Math.abs.name Lib.Math.abs.code 1 (some .int), Cond.fieldLink RX0 28 "CrashDesk$Car" "firstCounts" "[I", Cond.methodLink RX0 95 yX0_isTakenAhead, Cond.instanceMethod yX0_isTakenAhead, Cond.selects RX0 yX0_isTakenAhead yX0_isTakenAhead, Cond.code yX0_isTakenAhead cX0_isTakenAhead 4 (some .boolean), Cond.methodLink RX0 99 yX0_firstFor, Cond.static yX0_firstFor, Cond.code yX0_firstFor cX0_firstFor 2 (some .int), Cond.methodLink RX0 106 yX3_priceOf]
def wsX5_ways_r6 : List Cond := [Cond.static yX5_cheaper, Cond.code yX5_cheaper cX5_cheaper 2 (some .int), Cond.methodLink RX0 77 yX3_bound, Cond.instanceMethod yX3_bound, Cond.selects RX3 yX3_bound yX3_bound, Cond.code yX3_bound cX3_bound 2 none, Cond.fieldLink RX3 18 "CrashDesk$Speed" "bottom" "I", Cond.fieldLink RX3 21 "CrashDesk$Speed" "top" "I", Cond.methodLink RX3 48 Lib.Math.min.name, Cond.static Lib.Math.min.name, Cond.code Lib.Math.min.name Lib.Math.min.code 2 (some .int), Cond.methodLink RX1 57 yX3_isOpen, Cond.methodLink RX1 61 yX1_pushFrom, Cond.instanceMethod yX1_pushFrom, Cond.selects RX1 yX1_pushFrom yX1_pushFrom, Cond.code yX1_pushFrom cX1_pushFrom 3 none, Cond.fieldLink RX1 68 "CrashDesk$Car" "after" "LCrashDesk$Speed;", Cond.methodLink RX1 71 yX1_meet, Cond.instanceMethod yX1_meet, Cond.selects RX1 yX1_meet yX1_meet, Cond.code yX1_meet cX1_meet 13 none, Cond.methodLink RX1 75 Lib.Math.max.name, Cond.static Lib.Math.max.name, Cond.code Lib.Math.max.name Lib.Math.max.code 2 (some .int)]
def wsX5_ways_r7 : List Cond := [Cond.methodLink RX1 80 Lib.Math.min.name, Cond.methodLink RX1 97 yX3_see, Cond.instanceMethod yX3_see, Cond.selects RX3 yX3_see yX3_see, Cond.code yX3_see cX3_see 2 none, Cond.methodLink RX1 100 yX0_firstCount, Cond.instanceMethod yX0_firstCount, Cond.selects RX0 yX0_firstCount yX0_firstCount, Cond.code yX0_firstCount cX0_firstCount 2 (some .int), Cond.methodLink RX1 104 yX3_priceOf, Cond.methodLink RX1 65 yX0_seeFirsts, Cond.instanceMethod yX0_seeFirsts, Cond.selects RX0 yX0_seeFirsts yX0_seeFirsts, Cond.code yX0_seeFirsts cX0_seeFirsts 3 none, Cond.fieldLink RX0 80 "CrashDesk$Speed" "bottom" "I", Cond.fieldLink RX0 83 "CrashDesk$Speed" "top" "I", Cond.methodLink RX0 92 yX3_isSeen, Cond.instanceMethod yX3_isSeen, Cond.selects RX3 yX3_isSeen yX3_isSeen, Cond.code yX3_isSeen cX3_isSeen 2 (some .boolean), Cond.methodLink RX0 103 yX3_see]
def wsX5_ways : List Cond := .code yX5_ways cX5_ways 1 (some .long) :: ((wsX5_ways_r1 ++ (wsX5_ways_r2 ++ (wsX5_ways_r3 ++ (wsX5_ways_r4 ++ (wsX5_ways_r5 ++ (wsX5_ways_r6 ++ wsX5_ways_r7)))))) ++ wsX50 ++ wsX10 ++ wsX40 ++ wsX20 ++ wsX00 ++ wsX30)
def wsX5_allTales : List Cond := .code yX5_allTales cX5_allTales 1 (some .int) :: ([.fieldLink RX5 25 "CrashDesk" "taleCount" "I"] ++ wsX50)
def wsX5_testWay : List Cond := .code yX5_testWay cX5_testWay 1 none :: ([.classLink RX5 149 "java/util/NoSuchElementException", .initialized "java/util/NoSuchElementException", .fieldLink RX5 31 "CrashDesk" "meeting" "LCrashDesk$Meeting;", .fieldLink RX5 121 "CrashDesk$Meeting" "wayCount" "J"] ++ wsX50 ++ wsX10 ++ (vx_atS RX5 153 "java/util/NoSuchElementException" ["java/lang/RuntimeException", "java/lang/Exception"]).filter goodWord)
def wsX5_span_r1 : List Cond := [Cond.methodLink RX5 94 yX5_speedOf, Cond.instanceMethod yX5_speedOf, Cond.selects RX5 yX5_speedOf yX5_speedOf, Cond.initialized RX5, Cond.code yX5_speedOf cX5_speedOf 3 (some (.object "CrashDesk$Speed")), Cond.methodLink RX5 106 yX5_testSpeed, Cond.static yX5_testSpeed, Cond.code yX5_testSpeed cX5_testSpeed 2 none, Cond.classLink RX5 164 "java/lang/IndexOutOfBoundsException", Cond.initialized "java/lang/IndexOutOfBoundsException", Cond.methodLink RX5 60 yX5_testCar, Cond.static yX5_testCar, Cond.code yX5_testCar cX5_testCar 1 none, Cond.methodLink RX5 47 yX5_carOf, Cond.instanceMethod yX5_carOf, Cond.selects RX5 yX5_carOf yX5_carOf, Cond.code yX5_carOf cX5_carOf 2 (some (.object "CrashDesk$Car")), Cond.fieldLink RX5 31 "CrashDesk" "meeting" "LCrashDesk$Meeting;", Cond.methodLink RX5 180 yX1_pick, Cond.instanceMethod yX1_pick, Cond.selects RX1 yX1_pick yX1_pick, Cond.initialized RX1, Cond.code yX1_pick cX1_pick 2 (some (.object "CrashDesk$Car")), Cond.fieldLink RX1 12 "CrashDesk$Meeting" "zero" "LCrashDesk$Car;"]
def wsX5_span_r2 : List Cond := [Cond.fieldLink RX1 18 "CrashDesk$Meeting" "one" "LCrashDesk$Car;", Cond.methodLink RX5 183 yX0_pick, Cond.instanceMethod yX0_pick, Cond.selects RX0 yX0_pick yX0_pick, Cond.initialized RX0, Cond.code yX0_pick cX0_pick 2 (some (.object "CrashDesk$Speed")), Cond.fieldLink RX0 18 "CrashDesk$Car" "first" "LCrashDesk$Speed;", Cond.fieldLink RX0 22 "CrashDesk$Car" "at" "LCrashDesk$Speed;", Cond.fieldLink RX0 25 "CrashDesk$Car" "after" "LCrashDesk$Speed;", Cond.methodLink RX5 125 yX5_allTales, Cond.instanceMethod yX5_allTales, Cond.selects RX5 yX5_allTales yX5_allTales, Cond.code yX5_allTales cX5_allTales 1 (some .int), Cond.fieldLink RX5 25 "CrashDesk" "taleCount" "I", Cond.methodLink RX5 118 yX5_reckon, Cond.instanceMethod yX5_reckon, Cond.selects RX5 yX5_reckon yX5_reckon, Cond.code yX5_reckon cX5_reckon 7 none, Cond.fieldLink RX5 35 "CrashDesk" "reckoned" "Z", Cond.fieldLink RX5 39 "CrashDesk" "reckonedTales" "I", Cond.fieldLink RX5 42 "CrashDesk" "reckonedWithout" "I", Cond.fieldLink RX5 157 "CrashDesk$Meeting" "zero" "LCrashDesk$Car;", Cond.fieldLink RX5 161 "CrashDesk$Meeting" "one" "LCrashDesk$Car;", Cond.fieldLink RX5 17 "CrashDesk" "tales" "[LCrashDesk$Tale;"]
def wsX5_span_r3 : List Cond := [Cond.fieldLink RX5 112 "CrashDesk$Tale" "car" "I", Cond.fieldLink RX5 113 "CrashDesk$Tale" "speed" "I", Cond.fieldLink RX5 21 "CrashDesk" "skidCount" "I", Cond.fieldLink RX5 11 "CrashDesk" "skids" "[LCrashDesk$Skid;", Cond.fieldLink RX5 87 "CrashDesk$Skid" "counts" "Z", Cond.fieldLink RX5 75 "CrashDesk$Skid" "car" "I", Cond.methodLink RX5 188 yX0_clear, Cond.instanceMethod yX0_clear, Cond.selects RX0 yX0_clear yX0_clear, Cond.code yX0_clear cX0_clear 1 none, Cond.fieldLink RX0 32 "CrashDesk$Car" "aheadLeast" "I", Cond.fieldLink RX0 35 "CrashDesk$Car" "aheadGreatest" "I", Cond.fieldLink RX0 38 "CrashDesk$Car" "behindLeast" "I", Cond.fieldLink RX0 41 "CrashDesk$Car" "behindGreatest" "I", Cond.fieldLink RX0 44 "CrashDesk$Car" "skidsBehind" "Z", Cond.methodLink RX0 48 yX3_clear, Cond.instanceMethod yX3_clear, Cond.selects RX3 yX3_clear yX3_clear, Cond.initialized RX3, Cond.code yX3_clear cX3_clear 2 none, Cond.fieldLink RX3 9 "CrashDesk$Speed" "low" "I", Cond.fieldLink RX3 15 "CrashDesk$Speed" "high" "I", Cond.fieldLink RX3 28 "CrashDesk$Speed" "seen" "[Z", Cond.methodLink RX3 32 yX3_setPrice]
def wsX5_span_r4 : List Cond := [Cond.instanceMethod yX3_setPrice, Cond.selects RX3 yX3_setPrice yX3_setPrice, Cond.code yX3_setPrice cX3_setPrice 3 none, Cond.fieldLink RX3 24 "CrashDesk$Speed" "prices" "[I", Cond.methodLink RX5 191 yX3_hear, Cond.instanceMethod yX3_hear, Cond.selects RX3 yX3_hear yX3_hear, Cond.code yX3_hear cX3_hear 5 none, Cond.fieldLink RX3 36 "CrashDesk$Tale" "low" "I", Cond.fieldLink RX3 39 "CrashDesk$Tale" "high" "I", Cond.methodLink RX3 40 yX3_isOpen, Cond.instanceMethod yX3_isOpen, Cond.selects RX3 yX3_isOpen yX3_isOpen, Cond.code yX3_isOpen cX3_isOpen 2 (some .boolean), Cond.methodLink RX3 44 yX3_priceOf, Cond.instanceMethod yX3_priceOf, Cond.selects RX3 yX3_priceOf yX3_priceOf, Cond.code yX3_priceOf cX3_priceOf 2 (some .int), Cond.methodLink RX5 195 yX0_add, Cond.instanceMethod yX0_add, Cond.selects RX0 yX0_add yX0_add, Cond.code yX0_add cX0_add 2 none, Cond.fieldLink RX0 51 "CrashDesk$Skid" "behind" "Z", Cond.fieldLink RX0 56 "CrashDesk$Skid" "least" "I"]
def wsX5_span_r5 : List Cond := [Cond.fieldLink RX0 59 "CrashDesk$Skid" "greatest" "I", Cond.methodLink RX5 199 yX1_reckon, Cond.instanceMethod yX1_reckon, Cond.selects RX1 yX1_reckon yX1_reckon, Cond.code yX1_reckon cX1_reckon 2 none, Cond.fieldLink RX1 21 "CrashDesk$Meeting" "wayCount" "J", Cond.fieldLink RX1 25 "CrashDesk$Meeting" "cheapest" "I", Cond.fieldLink RX1 35 "CrashDesk$Car" "mass" "I", Cond.fieldLink RX1 29 "CrashDesk$Meeting" "loss" "I", Cond.fieldLink RX1 32 "CrashDesk$Meeting" "gain" "I", Cond.fieldLink RX1 45 "CrashDesk$Car" "at" "LCrashDesk$Speed;", Cond.fieldLink RX1 49 "CrashDesk$Speed" "bottom" "I", Cond.fieldLink RX1 54 "CrashDesk$Speed" "top" "I", Cond.methodLink RX1 38 yX1_lowestShare, Cond.static yX1_lowestShare, Cond.code yX1_lowestShare cX1_lowestShare 3 (some .int), Cond.methodLink RX1 42 yX0_settle, Cond.instanceMethod yX0_settle, Cond.selects RX0 yX0_settle yX0_settle, Cond.code yX0_settle cX0_settle 2 none, Cond.methodLink RX0 62 yX0_isTakenBehind, Cond.instanceMethod yX0_isTakenBehind, Cond.selects RX0 yX0_isTakenBehind yX0_isTakenBehind, Cond.code yX0_isTakenBehind cX0_isTakenBehind 3 (some .boolean)]
def wsX5_span_r6 : List Cond := [Cond.methodLink RX0 66 yX3_setPrice, Cond.methodLink RX0 70 yX3_isOpen, Cond.methodLink RX0 73 yX0_joinFirsts, Cond.instanceMethod yX0_joinFirsts, Cond.selects RX0 yX0_joinFirsts yX0_joinFirsts, Cond.code yX0_joinFirsts cX0_joinFirsts 6 none, Cond.methodLink RX0 86 Lib.Math.abs.name, Cond.static Lib.Math.abs.name, Cond.initialized "java/lang/Math", Cond.code Lib.Math.abs.name Lib.Math.abs.code 1 (some .int), Cond.fieldLink RX0 28 "CrashDesk$Car" "firstCounts" "[I", Cond.methodLink RX0 95 yX0_isTakenAhead, Cond.instanceMethod yX0_isTakenAhead, Cond.selects RX0 yX0_isTakenAhead yX0_isTakenAhead, Cond.code yX0_isTakenAhead cX0_isTakenAhead 4 (some .boolean), Cond.methodLink RX0 99 yX0_firstFor, Cond.static yX0_firstFor, Cond.code yX0_firstFor cX0_firstFor 2 (some .int), Cond.methodLink RX0 106 yX3_priceOf, Cond.static yX5_cheaper, Cond.code yX5_cheaper cX5_cheaper 2 (some .int), Cond.methodLink RX0 77 yX3_bound, Cond.instanceMethod yX3_bound, Cond.selects RX3 yX3_bound yX3_bound]
def wsX5_span_r7 : List Cond := [Cond.code yX3_bound cX3_bound 2 none, Cond.fieldLink RX3 18 "CrashDesk$Speed" "bottom" "I", Cond.fieldLink RX3 21 "CrashDesk$Speed" "top" "I", Cond.methodLink RX3 48 Lib.Math.min.name, Cond.static Lib.Math.min.name, Cond.code Lib.Math.min.name Lib.Math.min.code 2 (some .int), Cond.methodLink RX1 57 yX3_isOpen, Cond.methodLink RX1 61 yX1_pushFrom, Cond.instanceMethod yX1_pushFrom, Cond.selects RX1 yX1_pushFrom yX1_pushFrom, Cond.code yX1_pushFrom cX1_pushFrom 3 none, Cond.fieldLink RX1 68 "CrashDesk$Car" "after" "LCrashDesk$Speed;", Cond.methodLink RX1 71 yX1_meet, Cond.instanceMethod yX1_meet, Cond.selects RX1 yX1_meet yX1_meet, Cond.code yX1_meet cX1_meet 13 none, Cond.methodLink RX1 75 Lib.Math.max.name, Cond.static Lib.Math.max.name, Cond.code Lib.Math.max.name Lib.Math.max.code 2 (some .int), Cond.methodLink RX1 80 Lib.Math.min.name, Cond.methodLink RX1 97 yX3_see, Cond.instanceMethod yX3_see, Cond.selects RX3 yX3_see yX3_see, Cond.code yX3_see cX3_see 2 none]
def wsX5_span_r8 : List Cond := [Cond.methodLink RX1 100 yX0_firstCount, Cond.instanceMethod yX0_firstCount, Cond.selects RX0 yX0_firstCount yX0_firstCount, Cond.code yX0_firstCount cX0_firstCount 2 (some .int), Cond.methodLink RX1 104 yX3_priceOf, Cond.methodLink RX1 65 yX0_seeFirsts, Cond.instanceMethod yX0_seeFirsts, Cond.selects RX0 yX0_seeFirsts yX0_seeFirsts, Cond.code yX0_seeFirsts cX0_seeFirsts 3 none, Cond.fieldLink RX0 80 "CrashDesk$Speed" "bottom" "I", Cond.fieldLink RX0 83 "CrashDesk$Speed" "top" "I", Cond.methodLink RX0 92 yX3_isSeen, Cond.instanceMethod yX3_isSeen, Cond.selects RX3 yX3_isSeen yX3_isSeen, Cond.code yX3_isSeen cX3_isSeen 2 (some .boolean), Cond.methodLink RX0 103 yX3_see, Cond.methodLink RX5 129 yX5_testWay, Cond.instanceMethod yX5_testWay, Cond.selects RX5 yX5_testWay yX5_testWay, Cond.code yX5_testWay cX5_testWay 1 none, Cond.classLink RX5 149 "java/util/NoSuchElementException", Cond.initialized "java/util/NoSuchElementException", Cond.fieldLink RX5 121 "CrashDesk$Meeting" "wayCount" "J", Cond.methodLink RX5 132 yX3_greatestSeen]
def wsX5_span_r9 : List Cond := [Cond.instanceMethod yX3_greatestSeen, Cond.selects RX3 yX3_greatestSeen yX3_greatestSeen, Cond.code yX3_greatestSeen cX3_greatestSeen 2 (some .int), Cond.methodLink RX3 54 yX3_isSeen, Cond.methodLink RX5 135 yX3_leastSeen, Cond.instanceMethod yX3_leastSeen, Cond.selects RX3 yX3_leastSeen yX3_leastSeen, Cond.code yX3_leastSeen cX3_leastSeen 2 (some .int)]
def wsX5_span : List Cond := .code yX5_span cX5_span 6 (some .int) :: ((wsX5_span_r1 ++ (wsX5_span_r2 ++ (wsX5_span_r3 ++ (wsX5_span_r4 ++ (wsX5_span_r5 ++ (wsX5_span_r6 ++ (wsX5_span_r7 ++ (wsX5_span_r8 ++ wsX5_span_r9)))))))) ++ wsX50 ++ wsX10 ++ wsX00 ++ wsX40 ++ wsX20 ++ wsX30 ++ (vx_atS RX5 168 "java/lang/IndexOutOfBoundsException" ["java/lang/RuntimeException", "java/lang/Exception"]).filter goodWord ++ (vx_atS RX5 153 "java/util/NoSuchElementException" ["java/lang/RuntimeException", "java/lang/Exception"]).filter goodWord)
def wsX5_fit_r1 : List Cond := [Cond.fieldLink RX5 31 "CrashDesk" "meeting" "LCrashDesk$Meeting;", Cond.fieldLink RX5 121 "CrashDesk$Meeting" "wayCount" "J", Cond.methodLink RX5 125 yX5_allTales, Cond.instanceMethod yX5_allTales, Cond.selects RX5 yX5_allTales yX5_allTales, Cond.initialized RX5, Cond.code yX5_allTales cX5_allTales 1 (some .int), Cond.fieldLink RX5 25 "CrashDesk" "taleCount" "I", Cond.methodLink RX5 118 yX5_reckon, Cond.instanceMethod yX5_reckon, Cond.selects RX5 yX5_reckon yX5_reckon, Cond.code yX5_reckon cX5_reckon 7 none, Cond.fieldLink RX5 35 "CrashDesk" "reckoned" "Z", Cond.fieldLink RX5 39 "CrashDesk" "reckonedTales" "I", Cond.fieldLink RX5 42 "CrashDesk" "reckonedWithout" "I", Cond.fieldLink RX5 157 "CrashDesk$Meeting" "zero" "LCrashDesk$Car;", Cond.fieldLink RX5 161 "CrashDesk$Meeting" "one" "LCrashDesk$Car;", Cond.fieldLink RX5 17 "CrashDesk" "tales" "[LCrashDesk$Tale;", Cond.fieldLink RX5 112 "CrashDesk$Tale" "car" "I", Cond.fieldLink RX5 113 "CrashDesk$Tale" "speed" "I", Cond.fieldLink RX5 21 "CrashDesk" "skidCount" "I", Cond.fieldLink RX5 11 "CrashDesk" "skids" "[LCrashDesk$Skid;", Cond.fieldLink RX5 87 "CrashDesk$Skid" "counts" "Z", Cond.fieldLink RX5 75 "CrashDesk$Skid" "car" "I"]
def wsX5_fit_r2 : List Cond := [Cond.methodLink RX5 188 yX0_clear, Cond.instanceMethod yX0_clear, Cond.selects RX0 yX0_clear yX0_clear, Cond.initialized RX0, Cond.code yX0_clear cX0_clear 1 none, Cond.fieldLink RX0 18 "CrashDesk$Car" "first" "LCrashDesk$Speed;", Cond.fieldLink RX0 22 "CrashDesk$Car" "at" "LCrashDesk$Speed;", Cond.fieldLink RX0 25 "CrashDesk$Car" "after" "LCrashDesk$Speed;", Cond.fieldLink RX0 32 "CrashDesk$Car" "aheadLeast" "I", Cond.fieldLink RX0 35 "CrashDesk$Car" "aheadGreatest" "I", Cond.fieldLink RX0 38 "CrashDesk$Car" "behindLeast" "I", Cond.fieldLink RX0 41 "CrashDesk$Car" "behindGreatest" "I", Cond.fieldLink RX0 44 "CrashDesk$Car" "skidsBehind" "Z", Cond.methodLink RX0 48 yX3_clear, Cond.instanceMethod yX3_clear, Cond.selects RX3 yX3_clear yX3_clear, Cond.initialized RX3, Cond.code yX3_clear cX3_clear 2 none, Cond.fieldLink RX3 9 "CrashDesk$Speed" "low" "I", Cond.fieldLink RX3 15 "CrashDesk$Speed" "high" "I", Cond.fieldLink RX3 28 "CrashDesk$Speed" "seen" "[Z", Cond.methodLink RX3 32 yX3_setPrice, Cond.instanceMethod yX3_setPrice, Cond.selects RX3 yX3_setPrice yX3_setPrice]
def wsX5_fit_r3 : List Cond := [Cond.code yX3_setPrice cX3_setPrice 3 none, Cond.fieldLink RX3 24 "CrashDesk$Speed" "prices" "[I", Cond.methodLink RX5 180 yX1_pick, Cond.instanceMethod yX1_pick, Cond.selects RX1 yX1_pick yX1_pick, Cond.initialized RX1, Cond.code yX1_pick cX1_pick 2 (some (.object "CrashDesk$Car")), Cond.fieldLink RX1 12 "CrashDesk$Meeting" "zero" "LCrashDesk$Car;", Cond.fieldLink RX1 18 "CrashDesk$Meeting" "one" "LCrashDesk$Car;", Cond.methodLink RX5 183 yX0_pick, Cond.instanceMethod yX0_pick, Cond.selects RX0 yX0_pick yX0_pick, Cond.code yX0_pick cX0_pick 2 (some (.object "CrashDesk$Speed")), Cond.methodLink RX5 191 yX3_hear, Cond.instanceMethod yX3_hear, Cond.selects RX3 yX3_hear yX3_hear, Cond.code yX3_hear cX3_hear 5 none, Cond.fieldLink RX3 36 "CrashDesk$Tale" "low" "I", Cond.fieldLink RX3 39 "CrashDesk$Tale" "high" "I", Cond.methodLink RX3 40 yX3_isOpen, Cond.instanceMethod yX3_isOpen, Cond.selects RX3 yX3_isOpen yX3_isOpen, Cond.code yX3_isOpen cX3_isOpen 2 (some .boolean), Cond.methodLink RX3 44 yX3_priceOf]
def wsX5_fit_r4 : List Cond := [Cond.instanceMethod yX3_priceOf, Cond.selects RX3 yX3_priceOf yX3_priceOf, Cond.code yX3_priceOf cX3_priceOf 2 (some .int), Cond.methodLink RX5 195 yX0_add, Cond.instanceMethod yX0_add, Cond.selects RX0 yX0_add yX0_add, Cond.code yX0_add cX0_add 2 none, Cond.fieldLink RX0 51 "CrashDesk$Skid" "behind" "Z", Cond.fieldLink RX0 56 "CrashDesk$Skid" "least" "I", Cond.fieldLink RX0 59 "CrashDesk$Skid" "greatest" "I", Cond.methodLink RX5 199 yX1_reckon, Cond.instanceMethod yX1_reckon, Cond.selects RX1 yX1_reckon yX1_reckon, Cond.code yX1_reckon cX1_reckon 2 none, Cond.fieldLink RX1 21 "CrashDesk$Meeting" "wayCount" "J", Cond.fieldLink RX1 25 "CrashDesk$Meeting" "cheapest" "I", Cond.fieldLink RX1 35 "CrashDesk$Car" "mass" "I", Cond.fieldLink RX1 29 "CrashDesk$Meeting" "loss" "I", Cond.fieldLink RX1 32 "CrashDesk$Meeting" "gain" "I", Cond.fieldLink RX1 45 "CrashDesk$Car" "at" "LCrashDesk$Speed;", Cond.fieldLink RX1 49 "CrashDesk$Speed" "bottom" "I", Cond.fieldLink RX1 54 "CrashDesk$Speed" "top" "I", Cond.methodLink RX1 38 yX1_lowestShare, Cond.static yX1_lowestShare]
def wsX5_fit_r5 : List Cond := [Cond.code yX1_lowestShare cX1_lowestShare 3 (some .int), Cond.methodLink RX1 42 yX0_settle, Cond.instanceMethod yX0_settle, Cond.selects RX0 yX0_settle yX0_settle, Cond.code yX0_settle cX0_settle 2 none, Cond.methodLink RX0 62 yX0_isTakenBehind, Cond.instanceMethod yX0_isTakenBehind, Cond.selects RX0 yX0_isTakenBehind yX0_isTakenBehind, Cond.code yX0_isTakenBehind cX0_isTakenBehind 3 (some .boolean), Cond.methodLink RX0 66 yX3_setPrice, Cond.methodLink RX0 70 yX3_isOpen, Cond.methodLink RX0 73 yX0_joinFirsts, Cond.instanceMethod yX0_joinFirsts, Cond.selects RX0 yX0_joinFirsts yX0_joinFirsts, Cond.code yX0_joinFirsts cX0_joinFirsts 6 none, Cond.methodLink RX0 86 Lib.Math.abs.name, Cond.static Lib.Math.abs.name, Cond.initialized "java/lang/Math", Cond.code Lib.Math.abs.name Lib.Math.abs.code 1 (some .int), Cond.fieldLink RX0 28 "CrashDesk$Car" "firstCounts" "[I", Cond.methodLink RX0 95 yX0_isTakenAhead, Cond.instanceMethod yX0_isTakenAhead, Cond.selects RX0 yX0_isTakenAhead yX0_isTakenAhead, Cond.code yX0_isTakenAhead cX0_isTakenAhead 4 (some .boolean)]
def wsX5_fit_r6 : List Cond := [Cond.methodLink RX0 99 yX0_firstFor, Cond.static yX0_firstFor, Cond.code yX0_firstFor cX0_firstFor 2 (some .int), Cond.methodLink RX0 106 yX3_priceOf, Cond.static yX5_cheaper, Cond.code yX5_cheaper cX5_cheaper 2 (some .int), Cond.methodLink RX0 77 yX3_bound, Cond.instanceMethod yX3_bound, Cond.selects RX3 yX3_bound yX3_bound, Cond.code yX3_bound cX3_bound 2 none, Cond.fieldLink RX3 18 "CrashDesk$Speed" "bottom" "I", Cond.fieldLink RX3 21 "CrashDesk$Speed" "top" "I", Cond.methodLink RX3 48 Lib.Math.min.name, Cond.static Lib.Math.min.name, Cond.code Lib.Math.min.name Lib.Math.min.code 2 (some .int), Cond.methodLink RX1 57 yX3_isOpen, Cond.methodLink RX1 61 yX1_pushFrom, Cond.instanceMethod yX1_pushFrom, Cond.selects RX1 yX1_pushFrom yX1_pushFrom, Cond.code yX1_pushFrom cX1_pushFrom 3 none, Cond.fieldLink RX1 68 "CrashDesk$Car" "after" "LCrashDesk$Speed;", Cond.methodLink RX1 71 yX1_meet, Cond.instanceMethod yX1_meet, Cond.selects RX1 yX1_meet yX1_meet]
def wsX5_fit_r7 : List Cond := [Cond.code yX1_meet cX1_meet 13 none, Cond.methodLink RX1 75 Lib.Math.max.name, Cond.static Lib.Math.max.name, Cond.code Lib.Math.max.name Lib.Math.max.code 2 (some .int), Cond.methodLink RX1 80 Lib.Math.min.name, Cond.methodLink RX1 97 yX3_see, Cond.instanceMethod yX3_see, Cond.selects RX3 yX3_see yX3_see, Cond.code yX3_see cX3_see 2 none, Cond.methodLink RX1 100 yX0_firstCount, Cond.instanceMethod yX0_firstCount, Cond.selects RX0 yX0_firstCount yX0_firstCount, Cond.code yX0_firstCount cX0_firstCount 2 (some .int), Cond.methodLink RX1 104 yX3_priceOf, Cond.methodLink RX1 65 yX0_seeFirsts, Cond.instanceMethod yX0_seeFirsts, Cond.selects RX0 yX0_seeFirsts yX0_seeFirsts, Cond.code yX0_seeFirsts cX0_seeFirsts 3 none, Cond.fieldLink RX0 80 "CrashDesk$Speed" "bottom" "I", Cond.fieldLink RX0 83 "CrashDesk$Speed" "top" "I", Cond.methodLink RX0 92 yX3_isSeen, Cond.instanceMethod yX3_isSeen, Cond.selects RX3 yX3_isSeen yX3_isSeen, Cond.code yX3_isSeen cX3_isSeen 2 (some .boolean)]
def wsX5_fit_r8 : List Cond := [Cond.methodLink RX0 103 yX3_see]
def wsX5_fit : List Cond := .code yX5_fit cX5_fit 2 (some .boolean) :: ((wsX5_fit_r1 ++ (wsX5_fit_r2 ++ (wsX5_fit_r3 ++ (wsX5_fit_r4 ++ (wsX5_fit_r5 ++ (wsX5_fit_r6 ++ (wsX5_fit_r7 ++ wsX5_fit_r8))))))) ++ wsX50 ++ wsX10 ++ wsX40 ++ wsX20 ++ wsX00 ++ wsX30)
def wsX5_wrong_r1 : List Cond := [Cond.fieldLink RX5 31 "CrashDesk" "meeting" "LCrashDesk$Meeting;", Cond.fieldLink RX5 138 "CrashDesk$Meeting" "cheapest" "I", Cond.methodLink RX5 118 yX5_reckon, Cond.instanceMethod yX5_reckon, Cond.selects RX5 yX5_reckon yX5_reckon, Cond.initialized RX5, Cond.code yX5_reckon cX5_reckon 7 none, Cond.fieldLink RX5 35 "CrashDesk" "reckoned" "Z", Cond.fieldLink RX5 39 "CrashDesk" "reckonedTales" "I", Cond.fieldLink RX5 42 "CrashDesk" "reckonedWithout" "I", Cond.fieldLink RX5 157 "CrashDesk$Meeting" "zero" "LCrashDesk$Car;", Cond.fieldLink RX5 161 "CrashDesk$Meeting" "one" "LCrashDesk$Car;", Cond.fieldLink RX5 25 "CrashDesk" "taleCount" "I", Cond.fieldLink RX5 17 "CrashDesk" "tales" "[LCrashDesk$Tale;", Cond.fieldLink RX5 112 "CrashDesk$Tale" "car" "I", Cond.fieldLink RX5 113 "CrashDesk$Tale" "speed" "I", Cond.fieldLink RX5 21 "CrashDesk" "skidCount" "I", Cond.fieldLink RX5 11 "CrashDesk" "skids" "[LCrashDesk$Skid;", Cond.fieldLink RX5 87 "CrashDesk$Skid" "counts" "Z", Cond.fieldLink RX5 75 "CrashDesk$Skid" "car" "I", Cond.methodLink RX5 188 yX0_clear, Cond.instanceMethod yX0_clear, Cond.selects RX0 yX0_clear yX0_clear, Cond.initialized RX0]
def wsX5_wrong_r2 : List Cond := [Cond.code yX0_clear cX0_clear 1 none, Cond.fieldLink RX0 18 "CrashDesk$Car" "first" "LCrashDesk$Speed;", Cond.fieldLink RX0 22 "CrashDesk$Car" "at" "LCrashDesk$Speed;", Cond.fieldLink RX0 25 "CrashDesk$Car" "after" "LCrashDesk$Speed;", Cond.fieldLink RX0 32 "CrashDesk$Car" "aheadLeast" "I", Cond.fieldLink RX0 35 "CrashDesk$Car" "aheadGreatest" "I", Cond.fieldLink RX0 38 "CrashDesk$Car" "behindLeast" "I", Cond.fieldLink RX0 41 "CrashDesk$Car" "behindGreatest" "I", Cond.fieldLink RX0 44 "CrashDesk$Car" "skidsBehind" "Z", Cond.methodLink RX0 48 yX3_clear, Cond.instanceMethod yX3_clear, Cond.selects RX3 yX3_clear yX3_clear, Cond.initialized RX3, Cond.code yX3_clear cX3_clear 2 none, Cond.fieldLink RX3 9 "CrashDesk$Speed" "low" "I", Cond.fieldLink RX3 15 "CrashDesk$Speed" "high" "I", Cond.fieldLink RX3 28 "CrashDesk$Speed" "seen" "[Z", Cond.methodLink RX3 32 yX3_setPrice, Cond.instanceMethod yX3_setPrice, Cond.selects RX3 yX3_setPrice yX3_setPrice, Cond.code yX3_setPrice cX3_setPrice 3 none, Cond.fieldLink RX3 24 "CrashDesk$Speed" "prices" "[I", Cond.methodLink RX5 180 yX1_pick, Cond.instanceMethod yX1_pick]
def wsX5_wrong_r3 : List Cond := [Cond.selects RX1 yX1_pick yX1_pick, Cond.initialized RX1, Cond.code yX1_pick cX1_pick 2 (some (.object "CrashDesk$Car")), Cond.fieldLink RX1 12 "CrashDesk$Meeting" "zero" "LCrashDesk$Car;", Cond.fieldLink RX1 18 "CrashDesk$Meeting" "one" "LCrashDesk$Car;", Cond.methodLink RX5 183 yX0_pick, Cond.instanceMethod yX0_pick, Cond.selects RX0 yX0_pick yX0_pick, Cond.code yX0_pick cX0_pick 2 (some (.object "CrashDesk$Speed")), Cond.methodLink RX5 191 yX3_hear, Cond.instanceMethod yX3_hear, Cond.selects RX3 yX3_hear yX3_hear, Cond.code yX3_hear cX3_hear 5 none, Cond.fieldLink RX3 36 "CrashDesk$Tale" "low" "I", Cond.fieldLink RX3 39 "CrashDesk$Tale" "high" "I", Cond.methodLink RX3 40 yX3_isOpen, Cond.instanceMethod yX3_isOpen, Cond.selects RX3 yX3_isOpen yX3_isOpen, Cond.code yX3_isOpen cX3_isOpen 2 (some .boolean), Cond.methodLink RX3 44 yX3_priceOf, Cond.instanceMethod yX3_priceOf, Cond.selects RX3 yX3_priceOf yX3_priceOf, Cond.code yX3_priceOf cX3_priceOf 2 (some .int), Cond.methodLink RX5 195 yX0_add]
def wsX5_wrong_r4 : List Cond := [Cond.instanceMethod yX0_add, Cond.selects RX0 yX0_add yX0_add, Cond.code yX0_add cX0_add 2 none, Cond.fieldLink RX0 51 "CrashDesk$Skid" "behind" "Z", Cond.fieldLink RX0 56 "CrashDesk$Skid" "least" "I", Cond.fieldLink RX0 59 "CrashDesk$Skid" "greatest" "I", Cond.methodLink RX5 199 yX1_reckon, Cond.instanceMethod yX1_reckon, Cond.selects RX1 yX1_reckon yX1_reckon, Cond.code yX1_reckon cX1_reckon 2 none, Cond.fieldLink RX1 21 "CrashDesk$Meeting" "wayCount" "J", Cond.fieldLink RX1 25 "CrashDesk$Meeting" "cheapest" "I", Cond.fieldLink RX1 35 "CrashDesk$Car" "mass" "I", Cond.fieldLink RX1 29 "CrashDesk$Meeting" "loss" "I", Cond.fieldLink RX1 32 "CrashDesk$Meeting" "gain" "I", Cond.fieldLink RX1 45 "CrashDesk$Car" "at" "LCrashDesk$Speed;", Cond.fieldLink RX1 49 "CrashDesk$Speed" "bottom" "I", Cond.fieldLink RX1 54 "CrashDesk$Speed" "top" "I", Cond.methodLink RX1 38 yX1_lowestShare, Cond.static yX1_lowestShare, Cond.code yX1_lowestShare cX1_lowestShare 3 (some .int), Cond.methodLink RX1 42 yX0_settle, Cond.instanceMethod yX0_settle, Cond.selects RX0 yX0_settle yX0_settle]
def wsX5_wrong_r5 : List Cond := [Cond.code yX0_settle cX0_settle 2 none, Cond.methodLink RX0 62 yX0_isTakenBehind, Cond.instanceMethod yX0_isTakenBehind, Cond.selects RX0 yX0_isTakenBehind yX0_isTakenBehind, Cond.code yX0_isTakenBehind cX0_isTakenBehind 3 (some .boolean), Cond.methodLink RX0 66 yX3_setPrice, Cond.methodLink RX0 70 yX3_isOpen, Cond.methodLink RX0 73 yX0_joinFirsts, Cond.instanceMethod yX0_joinFirsts, Cond.selects RX0 yX0_joinFirsts yX0_joinFirsts, Cond.code yX0_joinFirsts cX0_joinFirsts 6 none, Cond.methodLink RX0 86 Lib.Math.abs.name, Cond.static Lib.Math.abs.name, Cond.initialized "java/lang/Math", Cond.code Lib.Math.abs.name Lib.Math.abs.code 1 (some .int), Cond.fieldLink RX0 28 "CrashDesk$Car" "firstCounts" "[I", Cond.methodLink RX0 95 yX0_isTakenAhead, Cond.instanceMethod yX0_isTakenAhead, Cond.selects RX0 yX0_isTakenAhead yX0_isTakenAhead, Cond.code yX0_isTakenAhead cX0_isTakenAhead 4 (some .boolean), Cond.methodLink RX0 99 yX0_firstFor, Cond.static yX0_firstFor, Cond.code yX0_firstFor cX0_firstFor 2 (some .int), Cond.methodLink RX0 106 yX3_priceOf]
def wsX5_wrong_r6 : List Cond := [Cond.static yX5_cheaper, Cond.code yX5_cheaper cX5_cheaper 2 (some .int), Cond.methodLink RX0 77 yX3_bound, Cond.instanceMethod yX3_bound, Cond.selects RX3 yX3_bound yX3_bound, Cond.code yX3_bound cX3_bound 2 none, Cond.fieldLink RX3 18 "CrashDesk$Speed" "bottom" "I", Cond.fieldLink RX3 21 "CrashDesk$Speed" "top" "I", Cond.methodLink RX3 48 Lib.Math.min.name, Cond.static Lib.Math.min.name, Cond.code Lib.Math.min.name Lib.Math.min.code 2 (some .int), Cond.methodLink RX1 57 yX3_isOpen, Cond.methodLink RX1 61 yX1_pushFrom, Cond.instanceMethod yX1_pushFrom, Cond.selects RX1 yX1_pushFrom yX1_pushFrom, Cond.code yX1_pushFrom cX1_pushFrom 3 none, Cond.fieldLink RX1 68 "CrashDesk$Car" "after" "LCrashDesk$Speed;", Cond.methodLink RX1 71 yX1_meet, Cond.instanceMethod yX1_meet, Cond.selects RX1 yX1_meet yX1_meet, Cond.code yX1_meet cX1_meet 13 none, Cond.methodLink RX1 75 Lib.Math.max.name, Cond.static Lib.Math.max.name, Cond.code Lib.Math.max.name Lib.Math.max.code 2 (some .int)]
def wsX5_wrong_r7 : List Cond := [Cond.methodLink RX1 80 Lib.Math.min.name, Cond.methodLink RX1 97 yX3_see, Cond.instanceMethod yX3_see, Cond.selects RX3 yX3_see yX3_see, Cond.code yX3_see cX3_see 2 none, Cond.methodLink RX1 100 yX0_firstCount, Cond.instanceMethod yX0_firstCount, Cond.selects RX0 yX0_firstCount yX0_firstCount, Cond.code yX0_firstCount cX0_firstCount 2 (some .int), Cond.methodLink RX1 104 yX3_priceOf, Cond.methodLink RX1 65 yX0_seeFirsts, Cond.instanceMethod yX0_seeFirsts, Cond.selects RX0 yX0_seeFirsts yX0_seeFirsts, Cond.code yX0_seeFirsts cX0_seeFirsts 3 none, Cond.fieldLink RX0 80 "CrashDesk$Speed" "bottom" "I", Cond.fieldLink RX0 83 "CrashDesk$Speed" "top" "I", Cond.methodLink RX0 92 yX3_isSeen, Cond.instanceMethod yX3_isSeen, Cond.selects RX3 yX3_isSeen yX3_isSeen, Cond.code yX3_isSeen cX3_isSeen 2 (some .boolean), Cond.methodLink RX0 103 yX3_see]
def wsX5_wrong : List Cond := .code yX5_wrong cX5_wrong 1 (some .int) :: ((wsX5_wrong_r1 ++ (wsX5_wrong_r2 ++ (wsX5_wrong_r3 ++ (wsX5_wrong_r4 ++ (wsX5_wrong_r5 ++ (wsX5_wrong_r6 ++ wsX5_wrong_r7)))))) ++ wsX50 ++ wsX10 ++ wsX40 ++ wsX20 ++ wsX00 ++ wsX30)
def wsX5_which_r1 : List Cond := [Cond.fieldLink RX5 31 "CrashDesk" "meeting" "LCrashDesk$Meeting;", Cond.fieldLink RX5 138 "CrashDesk$Meeting" "cheapest" "I", Cond.methodLink RX5 118 yX5_reckon, Cond.instanceMethod yX5_reckon, Cond.selects RX5 yX5_reckon yX5_reckon, Cond.initialized RX5, Cond.code yX5_reckon cX5_reckon 7 none, Cond.fieldLink RX5 35 "CrashDesk" "reckoned" "Z", Cond.fieldLink RX5 39 "CrashDesk" "reckonedTales" "I", Cond.fieldLink RX5 42 "CrashDesk" "reckonedWithout" "I", Cond.fieldLink RX5 157 "CrashDesk$Meeting" "zero" "LCrashDesk$Car;", Cond.fieldLink RX5 161 "CrashDesk$Meeting" "one" "LCrashDesk$Car;", Cond.fieldLink RX5 25 "CrashDesk" "taleCount" "I", Cond.fieldLink RX5 17 "CrashDesk" "tales" "[LCrashDesk$Tale;", Cond.fieldLink RX5 112 "CrashDesk$Tale" "car" "I", Cond.fieldLink RX5 113 "CrashDesk$Tale" "speed" "I", Cond.fieldLink RX5 21 "CrashDesk" "skidCount" "I", Cond.fieldLink RX5 11 "CrashDesk" "skids" "[LCrashDesk$Skid;", Cond.fieldLink RX5 87 "CrashDesk$Skid" "counts" "Z", Cond.fieldLink RX5 75 "CrashDesk$Skid" "car" "I", Cond.methodLink RX5 188 yX0_clear, Cond.instanceMethod yX0_clear, Cond.selects RX0 yX0_clear yX0_clear, Cond.initialized RX0]
def wsX5_which_r2 : List Cond := [Cond.code yX0_clear cX0_clear 1 none, Cond.fieldLink RX0 18 "CrashDesk$Car" "first" "LCrashDesk$Speed;", Cond.fieldLink RX0 22 "CrashDesk$Car" "at" "LCrashDesk$Speed;", Cond.fieldLink RX0 25 "CrashDesk$Car" "after" "LCrashDesk$Speed;", Cond.fieldLink RX0 32 "CrashDesk$Car" "aheadLeast" "I", Cond.fieldLink RX0 35 "CrashDesk$Car" "aheadGreatest" "I", Cond.fieldLink RX0 38 "CrashDesk$Car" "behindLeast" "I", Cond.fieldLink RX0 41 "CrashDesk$Car" "behindGreatest" "I", Cond.fieldLink RX0 44 "CrashDesk$Car" "skidsBehind" "Z", Cond.methodLink RX0 48 yX3_clear, Cond.instanceMethod yX3_clear, Cond.selects RX3 yX3_clear yX3_clear, Cond.initialized RX3, Cond.code yX3_clear cX3_clear 2 none, Cond.fieldLink RX3 9 "CrashDesk$Speed" "low" "I", Cond.fieldLink RX3 15 "CrashDesk$Speed" "high" "I", Cond.fieldLink RX3 28 "CrashDesk$Speed" "seen" "[Z", Cond.methodLink RX3 32 yX3_setPrice, Cond.instanceMethod yX3_setPrice, Cond.selects RX3 yX3_setPrice yX3_setPrice, Cond.code yX3_setPrice cX3_setPrice 3 none, Cond.fieldLink RX3 24 "CrashDesk$Speed" "prices" "[I", Cond.methodLink RX5 180 yX1_pick, Cond.instanceMethod yX1_pick]
def wsX5_which_r3 : List Cond := [Cond.selects RX1 yX1_pick yX1_pick, Cond.initialized RX1, Cond.code yX1_pick cX1_pick 2 (some (.object "CrashDesk$Car")), Cond.fieldLink RX1 12 "CrashDesk$Meeting" "zero" "LCrashDesk$Car;", Cond.fieldLink RX1 18 "CrashDesk$Meeting" "one" "LCrashDesk$Car;", Cond.methodLink RX5 183 yX0_pick, Cond.instanceMethod yX0_pick, Cond.selects RX0 yX0_pick yX0_pick, Cond.code yX0_pick cX0_pick 2 (some (.object "CrashDesk$Speed")), Cond.methodLink RX5 191 yX3_hear, Cond.instanceMethod yX3_hear, Cond.selects RX3 yX3_hear yX3_hear, Cond.code yX3_hear cX3_hear 5 none, Cond.fieldLink RX3 36 "CrashDesk$Tale" "low" "I", Cond.fieldLink RX3 39 "CrashDesk$Tale" "high" "I", Cond.methodLink RX3 40 yX3_isOpen, Cond.instanceMethod yX3_isOpen, Cond.selects RX3 yX3_isOpen yX3_isOpen, Cond.code yX3_isOpen cX3_isOpen 2 (some .boolean), Cond.methodLink RX3 44 yX3_priceOf, Cond.instanceMethod yX3_priceOf, Cond.selects RX3 yX3_priceOf yX3_priceOf, Cond.code yX3_priceOf cX3_priceOf 2 (some .int), Cond.methodLink RX5 195 yX0_add]
def wsX5_which_r4 : List Cond := [Cond.instanceMethod yX0_add, Cond.selects RX0 yX0_add yX0_add, Cond.code yX0_add cX0_add 2 none, Cond.fieldLink RX0 51 "CrashDesk$Skid" "behind" "Z", Cond.fieldLink RX0 56 "CrashDesk$Skid" "least" "I", Cond.fieldLink RX0 59 "CrashDesk$Skid" "greatest" "I", Cond.methodLink RX5 199 yX1_reckon, Cond.instanceMethod yX1_reckon, Cond.selects RX1 yX1_reckon yX1_reckon, Cond.code yX1_reckon cX1_reckon 2 none, Cond.fieldLink RX1 21 "CrashDesk$Meeting" "wayCount" "J", Cond.fieldLink RX1 25 "CrashDesk$Meeting" "cheapest" "I", Cond.fieldLink RX1 35 "CrashDesk$Car" "mass" "I", Cond.fieldLink RX1 29 "CrashDesk$Meeting" "loss" "I", Cond.fieldLink RX1 32 "CrashDesk$Meeting" "gain" "I", Cond.fieldLink RX1 45 "CrashDesk$Car" "at" "LCrashDesk$Speed;", Cond.fieldLink RX1 49 "CrashDesk$Speed" "bottom" "I", Cond.fieldLink RX1 54 "CrashDesk$Speed" "top" "I", Cond.methodLink RX1 38 yX1_lowestShare, Cond.static yX1_lowestShare, Cond.code yX1_lowestShare cX1_lowestShare 3 (some .int), Cond.methodLink RX1 42 yX0_settle, Cond.instanceMethod yX0_settle, Cond.selects RX0 yX0_settle yX0_settle]
def wsX5_which_r5 : List Cond := [Cond.code yX0_settle cX0_settle 2 none, Cond.methodLink RX0 62 yX0_isTakenBehind, Cond.instanceMethod yX0_isTakenBehind, Cond.selects RX0 yX0_isTakenBehind yX0_isTakenBehind, Cond.code yX0_isTakenBehind cX0_isTakenBehind 3 (some .boolean), Cond.methodLink RX0 66 yX3_setPrice, Cond.methodLink RX0 70 yX3_isOpen, Cond.methodLink RX0 73 yX0_joinFirsts, Cond.instanceMethod yX0_joinFirsts, Cond.selects RX0 yX0_joinFirsts yX0_joinFirsts, Cond.code yX0_joinFirsts cX0_joinFirsts 6 none, Cond.methodLink RX0 86 Lib.Math.abs.name, Cond.static Lib.Math.abs.name, Cond.initialized "java/lang/Math", Cond.code Lib.Math.abs.name Lib.Math.abs.code 1 (some .int), Cond.fieldLink RX0 28 "CrashDesk$Car" "firstCounts" "[I", Cond.methodLink RX0 95 yX0_isTakenAhead, Cond.instanceMethod yX0_isTakenAhead, Cond.selects RX0 yX0_isTakenAhead yX0_isTakenAhead, Cond.code yX0_isTakenAhead cX0_isTakenAhead 4 (some .boolean), Cond.methodLink RX0 99 yX0_firstFor, Cond.static yX0_firstFor, Cond.code yX0_firstFor cX0_firstFor 2 (some .int), Cond.methodLink RX0 106 yX3_priceOf]
def wsX5_which_r6 : List Cond := [Cond.static yX5_cheaper, Cond.code yX5_cheaper cX5_cheaper 2 (some .int), Cond.methodLink RX0 77 yX3_bound, Cond.instanceMethod yX3_bound, Cond.selects RX3 yX3_bound yX3_bound, Cond.code yX3_bound cX3_bound 2 none, Cond.fieldLink RX3 18 "CrashDesk$Speed" "bottom" "I", Cond.fieldLink RX3 21 "CrashDesk$Speed" "top" "I", Cond.methodLink RX3 48 Lib.Math.min.name, Cond.static Lib.Math.min.name, Cond.code Lib.Math.min.name Lib.Math.min.code 2 (some .int), Cond.methodLink RX1 57 yX3_isOpen, Cond.methodLink RX1 61 yX1_pushFrom, Cond.instanceMethod yX1_pushFrom, Cond.selects RX1 yX1_pushFrom yX1_pushFrom, Cond.code yX1_pushFrom cX1_pushFrom 3 none, Cond.fieldLink RX1 68 "CrashDesk$Car" "after" "LCrashDesk$Speed;", Cond.methodLink RX1 71 yX1_meet, Cond.instanceMethod yX1_meet, Cond.selects RX1 yX1_meet yX1_meet, Cond.code yX1_meet cX1_meet 13 none, Cond.methodLink RX1 75 Lib.Math.max.name, Cond.static Lib.Math.max.name, Cond.code Lib.Math.max.name Lib.Math.max.code 2 (some .int)]
def wsX5_which_r7 : List Cond := [Cond.methodLink RX1 80 Lib.Math.min.name, Cond.methodLink RX1 97 yX3_see, Cond.instanceMethod yX3_see, Cond.selects RX3 yX3_see yX3_see, Cond.code yX3_see cX3_see 2 none, Cond.methodLink RX1 100 yX0_firstCount, Cond.instanceMethod yX0_firstCount, Cond.selects RX0 yX0_firstCount yX0_firstCount, Cond.code yX0_firstCount cX0_firstCount 2 (some .int), Cond.methodLink RX1 104 yX3_priceOf, Cond.methodLink RX1 65 yX0_seeFirsts, Cond.instanceMethod yX0_seeFirsts, Cond.selects RX0 yX0_seeFirsts yX0_seeFirsts, Cond.code yX0_seeFirsts cX0_seeFirsts 3 none, Cond.fieldLink RX0 80 "CrashDesk$Speed" "bottom" "I", Cond.fieldLink RX0 83 "CrashDesk$Speed" "top" "I", Cond.methodLink RX0 92 yX3_isSeen, Cond.instanceMethod yX3_isSeen, Cond.selects RX3 yX3_isSeen yX3_isSeen, Cond.code yX3_isSeen cX3_isSeen 2 (some .boolean), Cond.methodLink RX0 103 yX3_see]
def wsX5_which : List Cond := .code yX5_which cX5_which 1 (some .int) :: ((wsX5_which_r1 ++ (wsX5_which_r2 ++ (wsX5_which_r3 ++ (wsX5_which_r4 ++ (wsX5_which_r5 ++ (wsX5_which_r6 ++ wsX5_which_r7)))))) ++ wsX50 ++ wsX10 ++ wsX40 ++ wsX20 ++ wsX00 ++ wsX30)
def wsX5_odds_r1 : List Cond := [Cond.fieldLink RX5 31 "CrashDesk" "meeting" "LCrashDesk$Meeting;", Cond.fieldLink RX5 121 "CrashDesk$Meeting" "wayCount" "J", Cond.fieldLink RX5 21 "CrashDesk" "skidCount" "I", Cond.fieldLink RX5 11 "CrashDesk" "skids" "[LCrashDesk$Skid;", Cond.fieldLink RX5 87 "CrashDesk$Skid" "counts" "Z", Cond.methodLink RX5 118 yX5_reckon, Cond.instanceMethod yX5_reckon, Cond.selects RX5 yX5_reckon yX5_reckon, Cond.initialized RX5, Cond.code yX5_reckon cX5_reckon 7 none, Cond.fieldLink RX5 35 "CrashDesk" "reckoned" "Z", Cond.fieldLink RX5 39 "CrashDesk" "reckonedTales" "I", Cond.fieldLink RX5 42 "CrashDesk" "reckonedWithout" "I", Cond.fieldLink RX5 157 "CrashDesk$Meeting" "zero" "LCrashDesk$Car;", Cond.fieldLink RX5 161 "CrashDesk$Meeting" "one" "LCrashDesk$Car;", Cond.fieldLink RX5 25 "CrashDesk" "taleCount" "I", Cond.fieldLink RX5 17 "CrashDesk" "tales" "[LCrashDesk$Tale;", Cond.fieldLink RX5 112 "CrashDesk$Tale" "car" "I", Cond.fieldLink RX5 113 "CrashDesk$Tale" "speed" "I", Cond.fieldLink RX5 75 "CrashDesk$Skid" "car" "I", Cond.methodLink RX5 188 yX0_clear, Cond.instanceMethod yX0_clear, Cond.selects RX0 yX0_clear yX0_clear, Cond.initialized RX0]
def wsX5_odds_r2 : List Cond := [Cond.code yX0_clear cX0_clear 1 none, Cond.fieldLink RX0 18 "CrashDesk$Car" "first" "LCrashDesk$Speed;", Cond.fieldLink RX0 22 "CrashDesk$Car" "at" "LCrashDesk$Speed;", Cond.fieldLink RX0 25 "CrashDesk$Car" "after" "LCrashDesk$Speed;", Cond.fieldLink RX0 32 "CrashDesk$Car" "aheadLeast" "I", Cond.fieldLink RX0 35 "CrashDesk$Car" "aheadGreatest" "I", Cond.fieldLink RX0 38 "CrashDesk$Car" "behindLeast" "I", Cond.fieldLink RX0 41 "CrashDesk$Car" "behindGreatest" "I", Cond.fieldLink RX0 44 "CrashDesk$Car" "skidsBehind" "Z", Cond.methodLink RX0 48 yX3_clear, Cond.instanceMethod yX3_clear, Cond.selects RX3 yX3_clear yX3_clear, Cond.initialized RX3, Cond.code yX3_clear cX3_clear 2 none, Cond.fieldLink RX3 9 "CrashDesk$Speed" "low" "I", Cond.fieldLink RX3 15 "CrashDesk$Speed" "high" "I", Cond.fieldLink RX3 28 "CrashDesk$Speed" "seen" "[Z", Cond.methodLink RX3 32 yX3_setPrice, Cond.instanceMethod yX3_setPrice, Cond.selects RX3 yX3_setPrice yX3_setPrice, Cond.code yX3_setPrice cX3_setPrice 3 none, Cond.fieldLink RX3 24 "CrashDesk$Speed" "prices" "[I", Cond.methodLink RX5 180 yX1_pick, Cond.instanceMethod yX1_pick]
def wsX5_odds_r3 : List Cond := [Cond.selects RX1 yX1_pick yX1_pick, Cond.initialized RX1, Cond.code yX1_pick cX1_pick 2 (some (.object "CrashDesk$Car")), Cond.fieldLink RX1 12 "CrashDesk$Meeting" "zero" "LCrashDesk$Car;", Cond.fieldLink RX1 18 "CrashDesk$Meeting" "one" "LCrashDesk$Car;", Cond.methodLink RX5 183 yX0_pick, Cond.instanceMethod yX0_pick, Cond.selects RX0 yX0_pick yX0_pick, Cond.code yX0_pick cX0_pick 2 (some (.object "CrashDesk$Speed")), Cond.methodLink RX5 191 yX3_hear, Cond.instanceMethod yX3_hear, Cond.selects RX3 yX3_hear yX3_hear, Cond.code yX3_hear cX3_hear 5 none, Cond.fieldLink RX3 36 "CrashDesk$Tale" "low" "I", Cond.fieldLink RX3 39 "CrashDesk$Tale" "high" "I", Cond.methodLink RX3 40 yX3_isOpen, Cond.instanceMethod yX3_isOpen, Cond.selects RX3 yX3_isOpen yX3_isOpen, Cond.code yX3_isOpen cX3_isOpen 2 (some .boolean), Cond.methodLink RX3 44 yX3_priceOf, Cond.instanceMethod yX3_priceOf, Cond.selects RX3 yX3_priceOf yX3_priceOf, Cond.code yX3_priceOf cX3_priceOf 2 (some .int), Cond.methodLink RX5 195 yX0_add]
def wsX5_odds_r4 : List Cond := [Cond.instanceMethod yX0_add, Cond.selects RX0 yX0_add yX0_add, Cond.code yX0_add cX0_add 2 none, Cond.fieldLink RX0 51 "CrashDesk$Skid" "behind" "Z", Cond.fieldLink RX0 56 "CrashDesk$Skid" "least" "I", Cond.fieldLink RX0 59 "CrashDesk$Skid" "greatest" "I", Cond.methodLink RX5 199 yX1_reckon, Cond.instanceMethod yX1_reckon, Cond.selects RX1 yX1_reckon yX1_reckon, Cond.code yX1_reckon cX1_reckon 2 none, Cond.fieldLink RX1 21 "CrashDesk$Meeting" "wayCount" "J", Cond.fieldLink RX1 25 "CrashDesk$Meeting" "cheapest" "I", Cond.fieldLink RX1 35 "CrashDesk$Car" "mass" "I", Cond.fieldLink RX1 29 "CrashDesk$Meeting" "loss" "I", Cond.fieldLink RX1 32 "CrashDesk$Meeting" "gain" "I", Cond.fieldLink RX1 45 "CrashDesk$Car" "at" "LCrashDesk$Speed;", Cond.fieldLink RX1 49 "CrashDesk$Speed" "bottom" "I", Cond.fieldLink RX1 54 "CrashDesk$Speed" "top" "I", Cond.methodLink RX1 38 yX1_lowestShare, Cond.static yX1_lowestShare, Cond.code yX1_lowestShare cX1_lowestShare 3 (some .int), Cond.methodLink RX1 42 yX0_settle, Cond.instanceMethod yX0_settle, Cond.selects RX0 yX0_settle yX0_settle]
def wsX5_odds_r5 : List Cond := [Cond.code yX0_settle cX0_settle 2 none, Cond.methodLink RX0 62 yX0_isTakenBehind, Cond.instanceMethod yX0_isTakenBehind, Cond.selects RX0 yX0_isTakenBehind yX0_isTakenBehind, Cond.code yX0_isTakenBehind cX0_isTakenBehind 3 (some .boolean), Cond.methodLink RX0 66 yX3_setPrice, Cond.methodLink RX0 70 yX3_isOpen, Cond.methodLink RX0 73 yX0_joinFirsts, Cond.instanceMethod yX0_joinFirsts, Cond.selects RX0 yX0_joinFirsts yX0_joinFirsts, Cond.code yX0_joinFirsts cX0_joinFirsts 6 none, Cond.methodLink RX0 86 Lib.Math.abs.name, Cond.static Lib.Math.abs.name, Cond.initialized "java/lang/Math", Cond.code Lib.Math.abs.name Lib.Math.abs.code 1 (some .int), Cond.fieldLink RX0 28 "CrashDesk$Car" "firstCounts" "[I", Cond.methodLink RX0 95 yX0_isTakenAhead, Cond.instanceMethod yX0_isTakenAhead, Cond.selects RX0 yX0_isTakenAhead yX0_isTakenAhead, Cond.code yX0_isTakenAhead cX0_isTakenAhead 4 (some .boolean), Cond.methodLink RX0 99 yX0_firstFor, Cond.static yX0_firstFor, Cond.code yX0_firstFor cX0_firstFor 2 (some .int), Cond.methodLink RX0 106 yX3_priceOf]
def wsX5_odds_r6 : List Cond := [Cond.static yX5_cheaper, Cond.code yX5_cheaper cX5_cheaper 2 (some .int), Cond.methodLink RX0 77 yX3_bound, Cond.instanceMethod yX3_bound, Cond.selects RX3 yX3_bound yX3_bound, Cond.code yX3_bound cX3_bound 2 none, Cond.fieldLink RX3 18 "CrashDesk$Speed" "bottom" "I", Cond.fieldLink RX3 21 "CrashDesk$Speed" "top" "I", Cond.methodLink RX3 48 Lib.Math.min.name, Cond.static Lib.Math.min.name, Cond.code Lib.Math.min.name Lib.Math.min.code 2 (some .int), Cond.methodLink RX1 57 yX3_isOpen, Cond.methodLink RX1 61 yX1_pushFrom, Cond.instanceMethod yX1_pushFrom, Cond.selects RX1 yX1_pushFrom yX1_pushFrom, Cond.code yX1_pushFrom cX1_pushFrom 3 none, Cond.fieldLink RX1 68 "CrashDesk$Car" "after" "LCrashDesk$Speed;", Cond.methodLink RX1 71 yX1_meet, Cond.instanceMethod yX1_meet, Cond.selects RX1 yX1_meet yX1_meet, Cond.code yX1_meet cX1_meet 13 none, Cond.methodLink RX1 75 Lib.Math.max.name, Cond.static Lib.Math.max.name, Cond.code Lib.Math.max.name Lib.Math.max.code 2 (some .int)]
def wsX5_odds_r7 : List Cond := [Cond.methodLink RX1 80 Lib.Math.min.name, Cond.methodLink RX1 97 yX3_see, Cond.instanceMethod yX3_see, Cond.selects RX3 yX3_see yX3_see, Cond.code yX3_see cX3_see 2 none, Cond.methodLink RX1 100 yX0_firstCount, Cond.instanceMethod yX0_firstCount, Cond.selects RX0 yX0_firstCount yX0_firstCount, Cond.code yX0_firstCount cX0_firstCount 2 (some .int), Cond.methodLink RX1 104 yX3_priceOf, Cond.methodLink RX1 65 yX0_seeFirsts, Cond.instanceMethod yX0_seeFirsts, Cond.selects RX0 yX0_seeFirsts yX0_seeFirsts, Cond.code yX0_seeFirsts cX0_seeFirsts 3 none, Cond.fieldLink RX0 80 "CrashDesk$Speed" "bottom" "I", Cond.fieldLink RX0 83 "CrashDesk$Speed" "top" "I", Cond.methodLink RX0 92 yX3_isSeen, Cond.instanceMethod yX3_isSeen, Cond.selects RX3 yX3_isSeen yX3_isSeen, Cond.code yX3_isSeen cX3_isSeen 2 (some .boolean), Cond.methodLink RX0 103 yX3_see]
def wsX5_odds : List Cond := .code yX5_odds cX5_odds 3 (some .int) :: ((wsX5_odds_r1 ++ (wsX5_odds_r2 ++ (wsX5_odds_r3 ++ (wsX5_odds_r4 ++ (wsX5_odds_r5 ++ (wsX5_odds_r6 ++ wsX5_odds_r7)))))) ++ wsX50 ++ wsX10 ++ wsX20 ++ wsX40 ++ wsX00 ++ wsX30)
def wsX5_avoided_r1 : List Cond := [Cond.fieldLink RX5 141 "CrashDesk$Car" "first" "LCrashDesk$Speed;", Cond.methodLink RX5 47 yX5_carOf, Cond.instanceMethod yX5_carOf, Cond.selects RX5 yX5_carOf yX5_carOf, Cond.initialized RX5, Cond.code yX5_carOf cX5_carOf 2 (some (.object "CrashDesk$Car")), Cond.fieldLink RX5 31 "CrashDesk" "meeting" "LCrashDesk$Meeting;", Cond.methodLink RX5 60 yX5_testCar, Cond.static yX5_testCar, Cond.code yX5_testCar cX5_testCar 1 none, Cond.classLink RX5 164 "java/lang/IndexOutOfBoundsException", Cond.initialized "java/lang/IndexOutOfBoundsException", Cond.methodLink RX5 180 yX1_pick, Cond.instanceMethod yX1_pick, Cond.selects RX1 yX1_pick yX1_pick, Cond.initialized RX1, Cond.code yX1_pick cX1_pick 2 (some (.object "CrashDesk$Car")), Cond.fieldLink RX1 12 "CrashDesk$Meeting" "zero" "LCrashDesk$Car;", Cond.fieldLink RX1 18 "CrashDesk$Meeting" "one" "LCrashDesk$Car;", Cond.methodLink RX5 51 yX5_testNumber, Cond.static yX5_testNumber, Cond.code yX5_testNumber cX5_testNumber 3 none, Cond.classLink RX5 171 "java/lang/IllegalArgumentException", Cond.initialized "java/lang/IllegalArgumentException"]
def wsX5_avoided_r2 : List Cond := [Cond.methodLink RX5 118 yX5_reckon, Cond.instanceMethod yX5_reckon, Cond.selects RX5 yX5_reckon yX5_reckon, Cond.code yX5_reckon cX5_reckon 7 none, Cond.fieldLink RX5 35 "CrashDesk" "reckoned" "Z", Cond.fieldLink RX5 39 "CrashDesk" "reckonedTales" "I", Cond.fieldLink RX5 42 "CrashDesk" "reckonedWithout" "I", Cond.fieldLink RX5 157 "CrashDesk$Meeting" "zero" "LCrashDesk$Car;", Cond.fieldLink RX5 161 "CrashDesk$Meeting" "one" "LCrashDesk$Car;", Cond.fieldLink RX5 25 "CrashDesk" "taleCount" "I", Cond.fieldLink RX5 17 "CrashDesk" "tales" "[LCrashDesk$Tale;", Cond.fieldLink RX5 112 "CrashDesk$Tale" "car" "I", Cond.fieldLink RX5 113 "CrashDesk$Tale" "speed" "I", Cond.fieldLink RX5 21 "CrashDesk" "skidCount" "I", Cond.fieldLink RX5 11 "CrashDesk" "skids" "[LCrashDesk$Skid;", Cond.fieldLink RX5 87 "CrashDesk$Skid" "counts" "Z", Cond.fieldLink RX5 75 "CrashDesk$Skid" "car" "I", Cond.methodLink RX5 188 yX0_clear, Cond.instanceMethod yX0_clear, Cond.selects RX0 yX0_clear yX0_clear, Cond.initialized RX0, Cond.code yX0_clear cX0_clear 1 none, Cond.fieldLink RX0 18 "CrashDesk$Car" "first" "LCrashDesk$Speed;", Cond.fieldLink RX0 22 "CrashDesk$Car" "at" "LCrashDesk$Speed;"]
def wsX5_avoided_r3 : List Cond := [Cond.fieldLink RX0 25 "CrashDesk$Car" "after" "LCrashDesk$Speed;", Cond.fieldLink RX0 32 "CrashDesk$Car" "aheadLeast" "I", Cond.fieldLink RX0 35 "CrashDesk$Car" "aheadGreatest" "I", Cond.fieldLink RX0 38 "CrashDesk$Car" "behindLeast" "I", Cond.fieldLink RX0 41 "CrashDesk$Car" "behindGreatest" "I", Cond.fieldLink RX0 44 "CrashDesk$Car" "skidsBehind" "Z", Cond.methodLink RX0 48 yX3_clear, Cond.instanceMethod yX3_clear, Cond.selects RX3 yX3_clear yX3_clear, Cond.initialized RX3, Cond.code yX3_clear cX3_clear 2 none, Cond.fieldLink RX3 9 "CrashDesk$Speed" "low" "I", Cond.fieldLink RX3 15 "CrashDesk$Speed" "high" "I", Cond.fieldLink RX3 28 "CrashDesk$Speed" "seen" "[Z", Cond.methodLink RX3 32 yX3_setPrice, Cond.instanceMethod yX3_setPrice, Cond.selects RX3 yX3_setPrice yX3_setPrice, Cond.code yX3_setPrice cX3_setPrice 3 none, Cond.fieldLink RX3 24 "CrashDesk$Speed" "prices" "[I", Cond.methodLink RX5 183 yX0_pick, Cond.instanceMethod yX0_pick, Cond.selects RX0 yX0_pick yX0_pick, Cond.code yX0_pick cX0_pick 2 (some (.object "CrashDesk$Speed")), Cond.methodLink RX5 191 yX3_hear]
def wsX5_avoided_r4 : List Cond := [Cond.instanceMethod yX3_hear, Cond.selects RX3 yX3_hear yX3_hear, Cond.code yX3_hear cX3_hear 5 none, Cond.fieldLink RX3 36 "CrashDesk$Tale" "low" "I", Cond.fieldLink RX3 39 "CrashDesk$Tale" "high" "I", Cond.methodLink RX3 40 yX3_isOpen, Cond.instanceMethod yX3_isOpen, Cond.selects RX3 yX3_isOpen yX3_isOpen, Cond.code yX3_isOpen cX3_isOpen 2 (some .boolean), Cond.methodLink RX3 44 yX3_priceOf, Cond.instanceMethod yX3_priceOf, Cond.selects RX3 yX3_priceOf yX3_priceOf, Cond.code yX3_priceOf cX3_priceOf 2 (some .int), Cond.methodLink RX5 195 yX0_add, Cond.instanceMethod yX0_add, Cond.selects RX0 yX0_add yX0_add, Cond.code yX0_add cX0_add 2 none, Cond.fieldLink RX0 51 "CrashDesk$Skid" "behind" "Z", Cond.fieldLink RX0 56 "CrashDesk$Skid" "least" "I", Cond.fieldLink RX0 59 "CrashDesk$Skid" "greatest" "I", Cond.methodLink RX5 199 yX1_reckon, Cond.instanceMethod yX1_reckon, Cond.selects RX1 yX1_reckon yX1_reckon, Cond.code yX1_reckon cX1_reckon 2 none]
def wsX5_avoided_r5 : List Cond := [Cond.fieldLink RX1 21 "CrashDesk$Meeting" "wayCount" "J", Cond.fieldLink RX1 25 "CrashDesk$Meeting" "cheapest" "I", Cond.fieldLink RX1 35 "CrashDesk$Car" "mass" "I", Cond.fieldLink RX1 29 "CrashDesk$Meeting" "loss" "I", Cond.fieldLink RX1 32 "CrashDesk$Meeting" "gain" "I", Cond.fieldLink RX1 45 "CrashDesk$Car" "at" "LCrashDesk$Speed;", Cond.fieldLink RX1 49 "CrashDesk$Speed" "bottom" "I", Cond.fieldLink RX1 54 "CrashDesk$Speed" "top" "I", Cond.methodLink RX1 38 yX1_lowestShare, Cond.static yX1_lowestShare, Cond.code yX1_lowestShare cX1_lowestShare 3 (some .int), Cond.methodLink RX1 42 yX0_settle, Cond.instanceMethod yX0_settle, Cond.selects RX0 yX0_settle yX0_settle, Cond.code yX0_settle cX0_settle 2 none, Cond.methodLink RX0 62 yX0_isTakenBehind, Cond.instanceMethod yX0_isTakenBehind, Cond.selects RX0 yX0_isTakenBehind yX0_isTakenBehind, Cond.code yX0_isTakenBehind cX0_isTakenBehind 3 (some .boolean), Cond.methodLink RX0 66 yX3_setPrice, Cond.methodLink RX0 70 yX3_isOpen, Cond.methodLink RX0 73 yX0_joinFirsts, Cond.instanceMethod yX0_joinFirsts, Cond.selects RX0 yX0_joinFirsts yX0_joinFirsts]
def wsX5_avoided_r6 : List Cond := [Cond.code yX0_joinFirsts cX0_joinFirsts 6 none, Cond.methodLink RX0 86 Lib.Math.abs.name, Cond.static Lib.Math.abs.name, Cond.initialized "java/lang/Math", Cond.code Lib.Math.abs.name Lib.Math.abs.code 1 (some .int), Cond.fieldLink RX0 28 "CrashDesk$Car" "firstCounts" "[I", Cond.methodLink RX0 95 yX0_isTakenAhead, Cond.instanceMethod yX0_isTakenAhead, Cond.selects RX0 yX0_isTakenAhead yX0_isTakenAhead, Cond.code yX0_isTakenAhead cX0_isTakenAhead 4 (some .boolean), Cond.methodLink RX0 99 yX0_firstFor, Cond.static yX0_firstFor, Cond.code yX0_firstFor cX0_firstFor 2 (some .int), Cond.methodLink RX0 106 yX3_priceOf, Cond.static yX5_cheaper, Cond.code yX5_cheaper cX5_cheaper 2 (some .int), Cond.methodLink RX0 77 yX3_bound, Cond.instanceMethod yX3_bound, Cond.selects RX3 yX3_bound yX3_bound, Cond.code yX3_bound cX3_bound 2 none, Cond.fieldLink RX3 18 "CrashDesk$Speed" "bottom" "I", Cond.fieldLink RX3 21 "CrashDesk$Speed" "top" "I", Cond.methodLink RX3 48 Lib.Math.min.name, Cond.static Lib.Math.min.name]
def wsX5_avoided_r7 : List Cond := [Cond.code Lib.Math.min.name Lib.Math.min.code 2 (some .int), Cond.methodLink RX1 57 yX3_isOpen, Cond.methodLink RX1 61 yX1_pushFrom, Cond.instanceMethod yX1_pushFrom, Cond.selects RX1 yX1_pushFrom yX1_pushFrom, Cond.code yX1_pushFrom cX1_pushFrom 3 none, Cond.fieldLink RX1 68 "CrashDesk$Car" "after" "LCrashDesk$Speed;", Cond.methodLink RX1 71 yX1_meet, Cond.instanceMethod yX1_meet, Cond.selects RX1 yX1_meet yX1_meet, Cond.code yX1_meet cX1_meet 13 none, Cond.methodLink RX1 75 Lib.Math.max.name, Cond.static Lib.Math.max.name, Cond.code Lib.Math.max.name Lib.Math.max.code 2 (some .int), Cond.methodLink RX1 80 Lib.Math.min.name, Cond.methodLink RX1 97 yX3_see, Cond.instanceMethod yX3_see, Cond.selects RX3 yX3_see yX3_see, Cond.code yX3_see cX3_see 2 none, Cond.methodLink RX1 100 yX0_firstCount, Cond.instanceMethod yX0_firstCount, Cond.selects RX0 yX0_firstCount yX0_firstCount, Cond.code yX0_firstCount cX0_firstCount 2 (some .int), Cond.methodLink RX1 104 yX3_priceOf]
def wsX5_avoided_r8 : List Cond := [Cond.methodLink RX1 65 yX0_seeFirsts, Cond.instanceMethod yX0_seeFirsts, Cond.selects RX0 yX0_seeFirsts yX0_seeFirsts, Cond.code yX0_seeFirsts cX0_seeFirsts 3 none, Cond.fieldLink RX0 80 "CrashDesk$Speed" "bottom" "I", Cond.fieldLink RX0 83 "CrashDesk$Speed" "top" "I", Cond.methodLink RX0 92 yX3_isSeen, Cond.instanceMethod yX3_isSeen, Cond.selects RX3 yX3_isSeen yX3_isSeen, Cond.code yX3_isSeen cX3_isSeen 2 (some .boolean), Cond.methodLink RX0 103 yX3_see, Cond.methodLink RX5 129 yX5_testWay, Cond.instanceMethod yX5_testWay, Cond.selects RX5 yX5_testWay yX5_testWay, Cond.code yX5_testWay cX5_testWay 1 none, Cond.classLink RX5 149 "java/util/NoSuchElementException", Cond.initialized "java/util/NoSuchElementException", Cond.fieldLink RX5 121 "CrashDesk$Meeting" "wayCount" "J", Cond.methodLink RX5 145 yX3_isSeen]
def wsX5_avoided : List Cond := .code yX5_avoided cX5_avoided 9 (some .int) :: ((wsX5_avoided_r1 ++ (wsX5_avoided_r2 ++ (wsX5_avoided_r3 ++ (wsX5_avoided_r4 ++ (wsX5_avoided_r5 ++ (wsX5_avoided_r6 ++ (wsX5_avoided_r7 ++ wsX5_avoided_r8))))))) ++ wsX00 ++ wsX50 ++ wsX10 ++ wsX40 ++ wsX20 ++ wsX30 ++ (vx_atS RX5 168 "java/lang/IndexOutOfBoundsException" ["java/lang/RuntimeException", "java/lang/Exception"]).filter goodWord ++ (vx_atS RX5 175 "java/lang/IllegalArgumentException" ["java/lang/RuntimeException", "java/lang/Exception"]).filter goodWord ++ (vx_atS RX5 153 "java/util/NoSuchElementException" ["java/lang/RuntimeException", "java/lang/Exception"]).filter goodWord)
def wsX5_look : List Cond := .code yX5_look cX5_look 4 (some .int) :: ([.classLink RX5 149 "java/util/NoSuchElementException", .initialized "java/util/NoSuchElementException", .fieldLink RX5 75 "CrashDesk$Skid" "car" "I", .fieldLink RX5 78 "CrashDesk$Skid" "behind" "Z", .fieldLink RX5 81 "CrashDesk$Skid" "least" "I", .fieldLink RX5 84 "CrashDesk$Skid" "greatest" "I", .fieldLink RX5 87 "CrashDesk$Skid" "counts" "Z", .methodLink RX5 90 yX5_skidOf, .instanceMethod yX5_skidOf, .selects RX5 yX5_skidOf yX5_skidOf, .initialized RX5, .code yX5_skidOf cX5_skidOf 2 (some (.object "CrashDesk$Skid")), .classLink RX5 164 "java/lang/IndexOutOfBoundsException", .initialized "java/lang/IndexOutOfBoundsException", .fieldLink RX5 21 "CrashDesk" "skidCount" "I", .fieldLink RX5 11 "CrashDesk" "skids" "[LCrashDesk$Skid;"] ++ wsX20 ++ wsX50 ++ (vx_atS RX5 153 "java/util/NoSuchElementException" ["java/lang/RuntimeException", "java/lang/Exception"]).filter goodWord ++ (vx_atS RX5 168 "java/lang/IndexOutOfBoundsException" ["java/lang/RuntimeException", "java/lang/Exception"]).filter goodWord)
def wsX5_can_r1 : List Cond := [Cond.methodLink RX5 94 yX5_speedOf, Cond.instanceMethod yX5_speedOf, Cond.selects RX5 yX5_speedOf yX5_speedOf, Cond.initialized RX5, Cond.code yX5_speedOf cX5_speedOf 3 (some (.object "CrashDesk$Speed")), Cond.methodLink RX5 106 yX5_testSpeed, Cond.static yX5_testSpeed, Cond.code yX5_testSpeed cX5_testSpeed 2 none, Cond.classLink RX5 164 "java/lang/IndexOutOfBoundsException", Cond.initialized "java/lang/IndexOutOfBoundsException", Cond.methodLink RX5 60 yX5_testCar, Cond.static yX5_testCar, Cond.code yX5_testCar cX5_testCar 1 none, Cond.methodLink RX5 47 yX5_carOf, Cond.instanceMethod yX5_carOf, Cond.selects RX5 yX5_carOf yX5_carOf, Cond.code yX5_carOf cX5_carOf 2 (some (.object "CrashDesk$Car")), Cond.fieldLink RX5 31 "CrashDesk" "meeting" "LCrashDesk$Meeting;", Cond.methodLink RX5 180 yX1_pick, Cond.instanceMethod yX1_pick, Cond.selects RX1 yX1_pick yX1_pick, Cond.initialized RX1, Cond.code yX1_pick cX1_pick 2 (some (.object "CrashDesk$Car")), Cond.fieldLink RX1 12 "CrashDesk$Meeting" "zero" "LCrashDesk$Car;"]
def wsX5_can_r2 : List Cond := [Cond.fieldLink RX1 18 "CrashDesk$Meeting" "one" "LCrashDesk$Car;", Cond.methodLink RX5 183 yX0_pick, Cond.instanceMethod yX0_pick, Cond.selects RX0 yX0_pick yX0_pick, Cond.initialized RX0, Cond.code yX0_pick cX0_pick 2 (some (.object "CrashDesk$Speed")), Cond.fieldLink RX0 18 "CrashDesk$Car" "first" "LCrashDesk$Speed;", Cond.fieldLink RX0 22 "CrashDesk$Car" "at" "LCrashDesk$Speed;", Cond.fieldLink RX0 25 "CrashDesk$Car" "after" "LCrashDesk$Speed;", Cond.methodLink RX5 118 yX5_reckon, Cond.instanceMethod yX5_reckon, Cond.selects RX5 yX5_reckon yX5_reckon, Cond.code yX5_reckon cX5_reckon 7 none, Cond.fieldLink RX5 35 "CrashDesk" "reckoned" "Z", Cond.fieldLink RX5 39 "CrashDesk" "reckonedTales" "I", Cond.fieldLink RX5 42 "CrashDesk" "reckonedWithout" "I", Cond.fieldLink RX5 157 "CrashDesk$Meeting" "zero" "LCrashDesk$Car;", Cond.fieldLink RX5 161 "CrashDesk$Meeting" "one" "LCrashDesk$Car;", Cond.fieldLink RX5 25 "CrashDesk" "taleCount" "I", Cond.fieldLink RX5 17 "CrashDesk" "tales" "[LCrashDesk$Tale;", Cond.fieldLink RX5 112 "CrashDesk$Tale" "car" "I", Cond.fieldLink RX5 113 "CrashDesk$Tale" "speed" "I", Cond.fieldLink RX5 21 "CrashDesk" "skidCount" "I", Cond.fieldLink RX5 11 "CrashDesk" "skids" "[LCrashDesk$Skid;"]
def wsX5_can_r3 : List Cond := [Cond.fieldLink RX5 87 "CrashDesk$Skid" "counts" "Z", Cond.fieldLink RX5 75 "CrashDesk$Skid" "car" "I", Cond.methodLink RX5 188 yX0_clear, Cond.instanceMethod yX0_clear, Cond.selects RX0 yX0_clear yX0_clear, Cond.code yX0_clear cX0_clear 1 none, Cond.fieldLink RX0 32 "CrashDesk$Car" "aheadLeast" "I", Cond.fieldLink RX0 35 "CrashDesk$Car" "aheadGreatest" "I", Cond.fieldLink RX0 38 "CrashDesk$Car" "behindLeast" "I", Cond.fieldLink RX0 41 "CrashDesk$Car" "behindGreatest" "I", Cond.fieldLink RX0 44 "CrashDesk$Car" "skidsBehind" "Z", Cond.methodLink RX0 48 yX3_clear, Cond.instanceMethod yX3_clear, Cond.selects RX3 yX3_clear yX3_clear, Cond.initialized RX3, Cond.code yX3_clear cX3_clear 2 none, Cond.fieldLink RX3 9 "CrashDesk$Speed" "low" "I", Cond.fieldLink RX3 15 "CrashDesk$Speed" "high" "I", Cond.fieldLink RX3 28 "CrashDesk$Speed" "seen" "[Z", Cond.methodLink RX3 32 yX3_setPrice, Cond.instanceMethod yX3_setPrice, Cond.selects RX3 yX3_setPrice yX3_setPrice, Cond.code yX3_setPrice cX3_setPrice 3 none, Cond.fieldLink RX3 24 "CrashDesk$Speed" "prices" "[I"]
def wsX5_can_r4 : List Cond := [Cond.methodLink RX5 191 yX3_hear, Cond.instanceMethod yX3_hear, Cond.selects RX3 yX3_hear yX3_hear, Cond.code yX3_hear cX3_hear 5 none, Cond.fieldLink RX3 36 "CrashDesk$Tale" "low" "I", Cond.fieldLink RX3 39 "CrashDesk$Tale" "high" "I", Cond.methodLink RX3 40 yX3_isOpen, Cond.instanceMethod yX3_isOpen, Cond.selects RX3 yX3_isOpen yX3_isOpen, Cond.code yX3_isOpen cX3_isOpen 2 (some .boolean), Cond.methodLink RX3 44 yX3_priceOf, Cond.instanceMethod yX3_priceOf, Cond.selects RX3 yX3_priceOf yX3_priceOf, Cond.code yX3_priceOf cX3_priceOf 2 (some .int), Cond.methodLink RX5 195 yX0_add, Cond.instanceMethod yX0_add, Cond.selects RX0 yX0_add yX0_add, Cond.code yX0_add cX0_add 2 none, Cond.fieldLink RX0 51 "CrashDesk$Skid" "behind" "Z", Cond.fieldLink RX0 56 "CrashDesk$Skid" "least" "I", Cond.fieldLink RX0 59 "CrashDesk$Skid" "greatest" "I", Cond.methodLink RX5 199 yX1_reckon, Cond.instanceMethod yX1_reckon, Cond.selects RX1 yX1_reckon yX1_reckon]
def wsX5_can_r5 : List Cond := [Cond.code yX1_reckon cX1_reckon 2 none, Cond.fieldLink RX1 21 "CrashDesk$Meeting" "wayCount" "J", Cond.fieldLink RX1 25 "CrashDesk$Meeting" "cheapest" "I", Cond.fieldLink RX1 35 "CrashDesk$Car" "mass" "I", Cond.fieldLink RX1 29 "CrashDesk$Meeting" "loss" "I", Cond.fieldLink RX1 32 "CrashDesk$Meeting" "gain" "I", Cond.fieldLink RX1 45 "CrashDesk$Car" "at" "LCrashDesk$Speed;", Cond.fieldLink RX1 49 "CrashDesk$Speed" "bottom" "I", Cond.fieldLink RX1 54 "CrashDesk$Speed" "top" "I", Cond.methodLink RX1 38 yX1_lowestShare, Cond.static yX1_lowestShare, Cond.code yX1_lowestShare cX1_lowestShare 3 (some .int), Cond.methodLink RX1 42 yX0_settle, Cond.instanceMethod yX0_settle, Cond.selects RX0 yX0_settle yX0_settle, Cond.code yX0_settle cX0_settle 2 none, Cond.methodLink RX0 62 yX0_isTakenBehind, Cond.instanceMethod yX0_isTakenBehind, Cond.selects RX0 yX0_isTakenBehind yX0_isTakenBehind, Cond.code yX0_isTakenBehind cX0_isTakenBehind 3 (some .boolean), Cond.methodLink RX0 66 yX3_setPrice, Cond.methodLink RX0 70 yX3_isOpen, Cond.methodLink RX0 73 yX0_joinFirsts, Cond.instanceMethod yX0_joinFirsts]
def wsX5_can_r6 : List Cond := [Cond.selects RX0 yX0_joinFirsts yX0_joinFirsts, Cond.code yX0_joinFirsts cX0_joinFirsts 6 none, Cond.methodLink RX0 86 Lib.Math.abs.name, Cond.static Lib.Math.abs.name, Cond.initialized "java/lang/Math", Cond.code Lib.Math.abs.name Lib.Math.abs.code 1 (some .int), Cond.fieldLink RX0 28 "CrashDesk$Car" "firstCounts" "[I", Cond.methodLink RX0 95 yX0_isTakenAhead, Cond.instanceMethod yX0_isTakenAhead, Cond.selects RX0 yX0_isTakenAhead yX0_isTakenAhead, Cond.code yX0_isTakenAhead cX0_isTakenAhead 4 (some .boolean), Cond.methodLink RX0 99 yX0_firstFor, Cond.static yX0_firstFor, Cond.code yX0_firstFor cX0_firstFor 2 (some .int), Cond.methodLink RX0 106 yX3_priceOf, Cond.static yX5_cheaper, Cond.code yX5_cheaper cX5_cheaper 2 (some .int), Cond.methodLink RX0 77 yX3_bound, Cond.instanceMethod yX3_bound, Cond.selects RX3 yX3_bound yX3_bound, Cond.code yX3_bound cX3_bound 2 none, Cond.fieldLink RX3 18 "CrashDesk$Speed" "bottom" "I", Cond.fieldLink RX3 21 "CrashDesk$Speed" "top" "I", Cond.methodLink RX3 48 Lib.Math.min.name]
def wsX5_can_r7 : List Cond := [Cond.static Lib.Math.min.name, Cond.code Lib.Math.min.name Lib.Math.min.code 2 (some .int), Cond.methodLink RX1 57 yX3_isOpen, Cond.methodLink RX1 61 yX1_pushFrom, Cond.instanceMethod yX1_pushFrom, Cond.selects RX1 yX1_pushFrom yX1_pushFrom, Cond.code yX1_pushFrom cX1_pushFrom 3 none, Cond.fieldLink RX1 68 "CrashDesk$Car" "after" "LCrashDesk$Speed;", Cond.methodLink RX1 71 yX1_meet, Cond.instanceMethod yX1_meet, Cond.selects RX1 yX1_meet yX1_meet, Cond.code yX1_meet cX1_meet 13 none, Cond.methodLink RX1 75 Lib.Math.max.name, Cond.static Lib.Math.max.name, Cond.code Lib.Math.max.name Lib.Math.max.code 2 (some .int), Cond.methodLink RX1 80 Lib.Math.min.name, Cond.methodLink RX1 97 yX3_see, Cond.instanceMethod yX3_see, Cond.selects RX3 yX3_see yX3_see, Cond.code yX3_see cX3_see 2 none, Cond.methodLink RX1 100 yX0_firstCount, Cond.instanceMethod yX0_firstCount, Cond.selects RX0 yX0_firstCount yX0_firstCount, Cond.code yX0_firstCount cX0_firstCount 2 (some .int)]
def wsX5_can_r8 : List Cond := [Cond.methodLink RX1 104 yX3_priceOf, Cond.methodLink RX1 65 yX0_seeFirsts, Cond.instanceMethod yX0_seeFirsts, Cond.selects RX0 yX0_seeFirsts yX0_seeFirsts, Cond.code yX0_seeFirsts cX0_seeFirsts 3 none, Cond.fieldLink RX0 80 "CrashDesk$Speed" "bottom" "I", Cond.fieldLink RX0 83 "CrashDesk$Speed" "top" "I", Cond.methodLink RX0 92 yX3_isSeen, Cond.instanceMethod yX3_isSeen, Cond.selects RX3 yX3_isSeen yX3_isSeen, Cond.code yX3_isSeen cX3_isSeen 2 (some .boolean), Cond.methodLink RX0 103 yX3_see, Cond.methodLink RX5 145 yX3_isSeen]
def wsX5_can : List Cond := .code yX5_can cX5_can 5 (some .boolean) :: ((wsX5_can_r1 ++ (wsX5_can_r2 ++ (wsX5_can_r3 ++ (wsX5_can_r4 ++ (wsX5_can_r5 ++ (wsX5_can_r6 ++ (wsX5_can_r7 ++ wsX5_can_r8))))))) ++ wsX50 ++ wsX10 ++ wsX00 ++ wsX40 ++ wsX20 ++ wsX30 ++ (vx_atS RX5 168 "java/lang/IndexOutOfBoundsException" ["java/lang/RuntimeException", "java/lang/Exception"]).filter goodWord)
def wsX5_countingSkids : List Cond := .code yX5_countingSkids cX5_countingSkids 3 (some .int) :: ([.fieldLink RX5 21 "CrashDesk" "skidCount" "I", .fieldLink RX5 11 "CrashDesk" "skids" "[LCrashDesk$Skid;", .fieldLink RX5 87 "CrashDesk$Skid" "counts" "Z"] ++ wsX50 ++ wsX20)
def wsX5_count : List Cond := .code yX5_count cX5_count 2 (some .int) :: ([.fieldLink RX5 21 "CrashDesk" "skidCount" "I", .fieldLink RX5 25 "CrashDesk" "taleCount" "I", .fieldLink RX5 31 "CrashDesk" "meeting" "LCrashDesk$Meeting;", .fieldLink RX5 157 "CrashDesk$Meeting" "zero" "LCrashDesk$Car;", .fieldLink RX5 55 "CrashDesk$Car" "mass" "I", .fieldLink RX5 161 "CrashDesk$Meeting" "one" "LCrashDesk$Car;", .methodLink RX5 154 yX5_countingSkids, .instanceMethod yX5_countingSkids, .selects RX5 yX5_countingSkids yX5_countingSkids, .initialized RX5, .code yX5_countingSkids cX5_countingSkids 3 (some .int), .fieldLink RX5 11 "CrashDesk" "skids" "[LCrashDesk$Skid;", .fieldLink RX5 87 "CrashDesk$Skid" "counts" "Z"] ++ wsX50 ++ wsX10 ++ wsX00 ++ wsX20)
def wsX6_init : List Cond := .code yX6_init cX6_init 1 none :: ([.methodLink RX6 1 objectInit, .instanceMethod objectInit, .code objectInit ⟨#[0xb1]⟩ 1 none, .arrayClass .int, .fieldLink RX6 7 "CrashDeskModel" "mass" "[I", .fieldLink RX6 13 "CrashDeskModel" "sCar" "[I", .arrayClass .boolean, .fieldLink RX6 16 "CrashDeskModel" "sBehind" "[Z", .fieldLink RX6 20 "CrashDeskModel" "sLeast" "[I", .fieldLink RX6 23 "CrashDeskModel" "sMost" "[I", .fieldLink RX6 26 "CrashDeskModel" "isDropped" "[Z", .fieldLink RX6 29 "CrashDeskModel" "low" "[I", .fieldLink RX6 32 "CrashDeskModel" "high" "[I", .fieldLink RX6 35 "CrashDeskModel" "tRow" "[I", .fieldLink RX6 38 "CrashDeskModel" "tLow" "[I", .fieldLink RX6 41 "CrashDeskModel" "tHigh" "[I", .fieldLink RX6 44 "CrashDeskModel" "isLet" "[Z", .fieldLink RX6 47 "CrashDeskModel" "isThere" "[Z", .fieldLink RX6 50 "CrashDeskModel" "firsts" "[I", .fieldLink RX6 53 "CrashDeskModel" "isMask" "[Z", .constant RX6 56 (206848), .fieldLink RX6 57 "CrashDeskModel" "isMade" "[Z", .fieldLink RX6 60 "CrashDeskModel" "made" "[I", .fieldLink RX6 63 "CrashDeskModel" "mades" "[I"] ++ wsX60)
def wsX6_thrown : List Cond := .code yX6_thrown cX6_thrown 1 (some .int) :: ([.fieldLink RX6 66 "CrashDeskModel" "thrown" "I"] ++ wsX60)
def wsX6_throwsIf : List Cond := .code yX6_throwsIf cX6_throwsIf 3 (some .boolean) :: ([.fieldLink RX6 66 "CrashDeskModel" "thrown" "I"] ++ wsX60)
def wsX6_in : List Cond := .code yX6_in cX6_in 3 (some .boolean) :: ([])
def wsX6_noCar : List Cond := .code yX6_noCar cX6_noCar 1 (some .boolean) :: ([.methodLink RX6 70 yX6_in, .static yX6_in, .initialized RX6, .code yX6_in cX6_in 3 (some .boolean)])
def wsX6_noSpeed : List Cond := .code yX6_noSpeed cX6_noSpeed 2 (some .boolean) :: ([.methodLink RX6 74 yX6_noCar, .static yX6_noCar, .initialized RX6, .code yX6_noCar cX6_noCar 1 (some .boolean), .methodLink RX6 70 yX6_in, .static yX6_in, .code yX6_in cX6_in 3 (some .boolean)])
def wsX6_noSpan : List Cond := .code yX6_noSpan cX6_noSpan 2 (some .boolean) :: ([])
def wsX6_mass : List Cond := .code yX6_mass cX6_mass 3 none :: ([.fieldLink RX6 66 "CrashDeskModel" "thrown" "I", .fieldLink RX6 7 "CrashDeskModel" "mass" "[I", .methodLink RX6 74 yX6_noCar, .static yX6_noCar, .initialized RX6, .code yX6_noCar cX6_noCar 1 (some .boolean), .methodLink RX6 70 yX6_in, .static yX6_in, .code yX6_in cX6_in 3 (some .boolean), .methodLink RX6 78 yX6_throwsIf, .instanceMethod yX6_throwsIf, .selects RX6 yX6_throwsIf yX6_throwsIf, .code yX6_throwsIf cX6_throwsIf 3 (some .boolean)] ++ wsX60)
def wsX6_skid : List Cond := .code yX6_skid cX6_skid 7 (some .int) :: ([.fieldLink RX6 66 "CrashDeskModel" "thrown" "I", .fieldLink RX6 82 "CrashDeskModel" "skids" "I", .fieldLink RX6 13 "CrashDeskModel" "sCar" "[I", .fieldLink RX6 16 "CrashDeskModel" "sBehind" "[Z", .fieldLink RX6 20 "CrashDeskModel" "sLeast" "[I", .fieldLink RX6 23 "CrashDeskModel" "sMost" "[I", .methodLink RX6 74 yX6_noCar, .static yX6_noCar, .initialized RX6, .code yX6_noCar cX6_noCar 1 (some .boolean), .methodLink RX6 70 yX6_in, .static yX6_in, .code yX6_in cX6_in 3 (some .boolean), .methodLink RX6 78 yX6_throwsIf, .instanceMethod yX6_throwsIf, .selects RX6 yX6_throwsIf yX6_throwsIf, .code yX6_throwsIf cX6_throwsIf 3 (some .boolean)] ++ wsX60)
def wsX6_drop : List Cond := .code yX6_drop cX6_drop 4 (some .boolean) :: ([.fieldLink RX6 66 "CrashDeskModel" "thrown" "I", .fieldLink RX6 82 "CrashDeskModel" "skids" "I", .fieldLink RX6 26 "CrashDeskModel" "isDropped" "[Z", .methodLink RX6 70 yX6_in, .static yX6_in, .initialized RX6, .code yX6_in cX6_in 3 (some .boolean), .methodLink RX6 78 yX6_throwsIf, .instanceMethod yX6_throwsIf, .selects RX6 yX6_throwsIf yX6_throwsIf, .code yX6_throwsIf cX6_throwsIf 3 (some .boolean)] ++ wsX60)
def wsX6_sure : List Cond := .code yX6_sure cX6_sure 5 none :: ([.fieldLink RX6 66 "CrashDeskModel" "thrown" "I", .fieldLink RX6 29 "CrashDeskModel" "low" "[I", .fieldLink RX6 32 "CrashDeskModel" "high" "[I", .methodLink RX6 85 yX6_noSpeed, .static yX6_noSpeed, .initialized RX6, .code yX6_noSpeed cX6_noSpeed 2 (some .boolean), .methodLink RX6 74 yX6_noCar, .static yX6_noCar, .code yX6_noCar cX6_noCar 1 (some .boolean), .methodLink RX6 70 yX6_in, .static yX6_in, .code yX6_in cX6_in 3 (some .boolean), .methodLink RX6 78 yX6_throwsIf, .instanceMethod yX6_throwsIf, .selects RX6 yX6_throwsIf yX6_throwsIf, .code yX6_throwsIf cX6_throwsIf 3 (some .boolean), .methodLink RX6 89 yX6_noSpan, .static yX6_noSpan, .code yX6_noSpan cX6_noSpan 2 (some .boolean)] ++ wsX60)
def wsX6_tale : List Cond := .code yX6_tale cX6_tale 5 (some .int) :: ([.fieldLink RX6 66 "CrashDeskModel" "thrown" "I", .fieldLink RX6 92 "CrashDeskModel" "tales" "I", .fieldLink RX6 35 "CrashDeskModel" "tRow" "[I", .fieldLink RX6 38 "CrashDeskModel" "tLow" "[I", .fieldLink RX6 41 "CrashDeskModel" "tHigh" "[I", .methodLink RX6 85 yX6_noSpeed, .static yX6_noSpeed, .initialized RX6, .code yX6_noSpeed cX6_noSpeed 2 (some .boolean), .methodLink RX6 74 yX6_noCar, .static yX6_noCar, .code yX6_noCar cX6_noCar 1 (some .boolean), .methodLink RX6 70 yX6_in, .static yX6_in, .code yX6_in cX6_in 3 (some .boolean), .methodLink RX6 78 yX6_throwsIf, .instanceMethod yX6_throwsIf, .selects RX6 yX6_throwsIf yX6_throwsIf, .code yX6_throwsIf cX6_throwsIf 3 (some .boolean), .methodLink RX6 89 yX6_noSpan, .static yX6_noSpan, .code yX6_noSpan cX6_noSpan 2 (some .boolean)] ++ wsX60)
def wsX6_hush : List Cond := .code yX6_hush cX6_hush 2 (some .int) :: ([.fieldLink RX6 66 "CrashDeskModel" "thrown" "I", .fieldLink RX6 92 "CrashDeskModel" "tales" "I"] ++ wsX60)
def wsX6_cell : List Cond := .code yX6_cell cX6_cell 2 (some .int) :: ([])
def wsX6_falses : List Cond := .code yX6_falses cX6_falses 5 (some .int) :: ([.fieldLink RX6 92 "CrashDeskModel" "tales" "I", .fieldLink RX6 35 "CrashDeskModel" "tRow" "[I", .fieldLink RX6 38 "CrashDeskModel" "tLow" "[I", .fieldLink RX6 41 "CrashDeskModel" "tHigh" "[I", .methodLink RX6 70 yX6_in, .static yX6_in, .initialized RX6, .code yX6_in cX6_in 3 (some .boolean)] ++ wsX60)
def wsX6_lets : List Cond := .code yX6_lets cX6_lets 4 none :: ([.fieldLink RX6 44 "CrashDeskModel" "isLet" "[Z", .fieldLink RX6 29 "CrashDeskModel" "low" "[I", .fieldLink RX6 32 "CrashDeskModel" "high" "[I", .fieldLink RX6 47 "CrashDeskModel" "isThere" "[Z", .methodLink RX6 95 yX6_cell, .static yX6_cell, .initialized RX6, .code yX6_cell cX6_cell 2 (some .int), .methodLink RX6 70 yX6_in, .static yX6_in, .code yX6_in cX6_in 3 (some .boolean), .methodLink RX6 99 yX6_falses, .instanceMethod yX6_falses, .selects RX6 yX6_falses yX6_falses, .code yX6_falses cX6_falses 5 (some .int), .fieldLink RX6 92 "CrashDeskModel" "tales" "I", .fieldLink RX6 35 "CrashDeskModel" "tRow" "[I", .fieldLink RX6 38 "CrashDeskModel" "tLow" "[I", .fieldLink RX6 41 "CrashDeskModel" "tHigh" "[I"] ++ wsX60)
def wsX6_takes : List Cond := .code yX6_takes cX6_takes 9 (some .boolean) :: ([.fieldLink RX6 82 "CrashDeskModel" "skids" "I", .fieldLink RX6 13 "CrashDeskModel" "sCar" "[I", .fieldLink RX6 16 "CrashDeskModel" "sBehind" "[Z", .fieldLink RX6 26 "CrashDeskModel" "isDropped" "[Z", .fieldLink RX6 20 "CrashDeskModel" "sLeast" "[I", .fieldLink RX6 23 "CrashDeskModel" "sMost" "[I", .methodLink RX6 70 yX6_in, .static yX6_in, .initialized RX6, .code yX6_in cX6_in 3 (some .boolean)] ++ wsX60)
def wsX6_isFirst : List Cond := .code yX6_isFirst cX6_isFirst 6 (some .boolean) :: ([.fieldLink RX6 44 "CrashDeskModel" "isLet" "[Z", .methodLink RX6 95 yX6_cell, .static yX6_cell, .initialized RX6, .code yX6_cell cX6_cell 2 (some .int), .methodLink RX6 102 yX6_takes, .instanceMethod yX6_takes, .selects RX6 yX6_takes yX6_takes, .code yX6_takes cX6_takes 9 (some .boolean), .fieldLink RX6 82 "CrashDeskModel" "skids" "I", .fieldLink RX6 13 "CrashDeskModel" "sCar" "[I", .fieldLink RX6 16 "CrashDeskModel" "sBehind" "[Z", .fieldLink RX6 26 "CrashDeskModel" "isDropped" "[Z", .fieldLink RX6 20 "CrashDeskModel" "sLeast" "[I", .fieldLink RX6 23 "CrashDeskModel" "sMost" "[I", .methodLink RX6 70 yX6_in, .static yX6_in, .code yX6_in cX6_in 3 (some .boolean)] ++ wsX60)
def wsX6_counts : List Cond := .code yX6_counts cX6_counts 6 none :: ([.fieldLink RX6 44 "CrashDeskModel" "isLet" "[Z", .fieldLink RX6 50 "CrashDeskModel" "firsts" "[I", .methodLink RX6 95 yX6_cell, .static yX6_cell, .initialized RX6, .code yX6_cell cX6_cell 2 (some .int), .methodLink RX6 106 yX6_isFirst, .instanceMethod yX6_isFirst, .selects RX6 yX6_isFirst yX6_isFirst, .code yX6_isFirst cX6_isFirst 6 (some .boolean), .methodLink RX6 102 yX6_takes, .instanceMethod yX6_takes, .selects RX6 yX6_takes yX6_takes, .code yX6_takes cX6_takes 9 (some .boolean), .fieldLink RX6 82 "CrashDeskModel" "skids" "I", .fieldLink RX6 13 "CrashDeskModel" "sCar" "[I", .fieldLink RX6 16 "CrashDeskModel" "sBehind" "[Z", .fieldLink RX6 26 "CrashDeskModel" "isDropped" "[Z", .fieldLink RX6 20 "CrashDeskModel" "sLeast" "[I", .fieldLink RX6 23 "CrashDeskModel" "sMost" "[I", .methodLink RX6 70 yX6_in, .static yX6_in, .code yX6_in cX6_in 3 (some .boolean)] ++ wsX60)
def wsX6_masks : List Cond := .code yX6_masks cX6_masks 8 none :: ([.fieldLink RX6 63 "CrashDeskModel" "mades" "[I", .fieldLink RX6 53 "CrashDeskModel" "isMask" "[Z", .fieldLink RX6 60 "CrashDeskModel" "made" "[I"] ++ wsX60)
def wsX6_goes_r1 : List Cond := [Cond.fieldLink RX6 117 "CrashDeskModel" "many" "J", Cond.fieldLink RX6 50 "CrashDeskModel" "firsts" "[I", Cond.fieldLink RX6 7 "CrashDeskModel" "mass" "[I", Cond.fieldLink RX6 44 "CrashDeskModel" "isLet" "[Z", Cond.fieldLink RX6 47 "CrashDeskModel" "isThere" "[Z", Cond.fieldLink RX6 121 "CrashDeskModel" "wanted" "Z", Cond.methodLink RX6 110 yX6_lets, Cond.instanceMethod yX6_lets, Cond.selects RX6 yX6_lets yX6_lets, Cond.initialized RX6, Cond.code yX6_lets cX6_lets 4 none, Cond.fieldLink RX6 29 "CrashDeskModel" "low" "[I", Cond.fieldLink RX6 32 "CrashDeskModel" "high" "[I", Cond.methodLink RX6 95 yX6_cell, Cond.static yX6_cell, Cond.code yX6_cell cX6_cell 2 (some .int), Cond.methodLink RX6 70 yX6_in, Cond.static yX6_in, Cond.code yX6_in cX6_in 3 (some .boolean), Cond.methodLink RX6 99 yX6_falses, Cond.instanceMethod yX6_falses, Cond.selects RX6 yX6_falses yX6_falses, Cond.code yX6_falses cX6_falses 5 (some .int), Cond.fieldLink RX6 92 "CrashDeskModel" "tales" "I"]
def wsX6_goes_r2 : List Cond := [Cond.fieldLink RX6 35 "CrashDeskModel" "tRow" "[I", Cond.fieldLink RX6 38 "CrashDeskModel" "tLow" "[I", Cond.fieldLink RX6 41 "CrashDeskModel" "tHigh" "[I", Cond.methodLink RX6 114 yX6_counts, Cond.instanceMethod yX6_counts, Cond.selects RX6 yX6_counts yX6_counts, Cond.code yX6_counts cX6_counts 6 none, Cond.methodLink RX6 106 yX6_isFirst, Cond.instanceMethod yX6_isFirst, Cond.selects RX6 yX6_isFirst yX6_isFirst, Cond.code yX6_isFirst cX6_isFirst 6 (some .boolean), Cond.methodLink RX6 102 yX6_takes, Cond.instanceMethod yX6_takes, Cond.selects RX6 yX6_takes yX6_takes, Cond.code yX6_takes cX6_takes 9 (some .boolean), Cond.fieldLink RX6 82 "CrashDeskModel" "skids" "I", Cond.fieldLink RX6 13 "CrashDeskModel" "sCar" "[I", Cond.fieldLink RX6 16 "CrashDeskModel" "sBehind" "[Z", Cond.fieldLink RX6 26 "CrashDeskModel" "isDropped" "[Z", Cond.fieldLink RX6 20 "CrashDeskModel" "sLeast" "[I", Cond.fieldLink RX6 23 "CrashDeskModel" "sMost" "[I", Cond.methodLink RX6 125 yX6_masks, Cond.instanceMethod yX6_masks, Cond.selects RX6 yX6_masks yX6_masks]
def wsX6_goes_r3 : List Cond := [Cond.code yX6_masks cX6_masks 8 none, Cond.fieldLink RX6 63 "CrashDeskModel" "mades" "[I", Cond.fieldLink RX6 53 "CrashDeskModel" "isMask" "[Z", Cond.fieldLink RX6 60 "CrashDeskModel" "made" "[I"]
def wsX6_goes : List Cond := .code yX6_goes cX6_goes 10 (some .boolean) :: ((wsX6_goes_r1 ++ (wsX6_goes_r2 ++ wsX6_goes_r3)) ++ wsX60)
def wsX6_makes_r1 : List Cond := [Cond.fieldLink RX6 63 "CrashDeskModel" "mades" "[I", Cond.fieldLink RX6 92 "CrashDeskModel" "tales" "I", Cond.fieldLink RX6 57 "CrashDeskModel" "isMade" "[Z", Cond.fieldLink RX6 44 "CrashDeskModel" "isLet" "[Z", Cond.fieldLink RX6 60 "CrashDeskModel" "made" "[I", Cond.methodLink RX6 110 yX6_lets, Cond.instanceMethod yX6_lets, Cond.selects RX6 yX6_lets yX6_lets, Cond.initialized RX6, Cond.code yX6_lets cX6_lets 4 none, Cond.fieldLink RX6 29 "CrashDeskModel" "low" "[I", Cond.fieldLink RX6 32 "CrashDeskModel" "high" "[I", Cond.fieldLink RX6 47 "CrashDeskModel" "isThere" "[Z", Cond.methodLink RX6 95 yX6_cell, Cond.static yX6_cell, Cond.code yX6_cell cX6_cell 2 (some .int), Cond.methodLink RX6 70 yX6_in, Cond.static yX6_in, Cond.code yX6_in cX6_in 3 (some .boolean), Cond.methodLink RX6 99 yX6_falses, Cond.instanceMethod yX6_falses, Cond.selects RX6 yX6_falses yX6_falses, Cond.code yX6_falses cX6_falses 5 (some .int), Cond.fieldLink RX6 35 "CrashDeskModel" "tRow" "[I"]
def wsX6_makes_r2 : List Cond := [Cond.fieldLink RX6 38 "CrashDeskModel" "tLow" "[I", Cond.fieldLink RX6 41 "CrashDeskModel" "tHigh" "[I", Cond.methodLink RX6 106 yX6_isFirst, Cond.instanceMethod yX6_isFirst, Cond.selects RX6 yX6_isFirst yX6_isFirst, Cond.code yX6_isFirst cX6_isFirst 6 (some .boolean), Cond.methodLink RX6 102 yX6_takes, Cond.instanceMethod yX6_takes, Cond.selects RX6 yX6_takes yX6_takes, Cond.code yX6_takes cX6_takes 9 (some .boolean), Cond.fieldLink RX6 82 "CrashDeskModel" "skids" "I", Cond.fieldLink RX6 13 "CrashDeskModel" "sCar" "[I", Cond.fieldLink RX6 16 "CrashDeskModel" "sBehind" "[Z", Cond.fieldLink RX6 26 "CrashDeskModel" "isDropped" "[Z", Cond.fieldLink RX6 20 "CrashDeskModel" "sLeast" "[I", Cond.fieldLink RX6 23 "CrashDeskModel" "sMost" "[I"]
def wsX6_makes : List Cond := .code yX6_makes cX6_makes 6 none :: ((wsX6_makes_r1 ++ wsX6_makes_r2) ++ wsX60)
def wsJ6_bitCount_0f7a4 : List Cond := .code yJ6_bitCount_0f7a4 cJ6_bitCount_0f7a4 1 (some .int) :: ([.constant RJ6 265 (1431655765), .constant RJ6 266 (858993459), .constant RJ6 267 (252645135)])
def wsX6_fewest_r1 : List Cond := [Cond.fieldLink RX6 53 "CrashDeskModel" "isMask" "[Z", Cond.fieldLink RX6 121 "CrashDeskModel" "wanted" "Z", Cond.fieldLink RX6 92 "CrashDeskModel" "tales" "I", Cond.methodLink RX6 129 yX6_makes, Cond.instanceMethod yX6_makes, Cond.selects RX6 yX6_makes yX6_makes, Cond.initialized RX6, Cond.code yX6_makes cX6_makes 6 none, Cond.fieldLink RX6 63 "CrashDeskModel" "mades" "[I", Cond.fieldLink RX6 57 "CrashDeskModel" "isMade" "[Z", Cond.fieldLink RX6 44 "CrashDeskModel" "isLet" "[Z", Cond.fieldLink RX6 60 "CrashDeskModel" "made" "[I", Cond.methodLink RX6 110 yX6_lets, Cond.instanceMethod yX6_lets, Cond.selects RX6 yX6_lets yX6_lets, Cond.code yX6_lets cX6_lets 4 none, Cond.fieldLink RX6 29 "CrashDeskModel" "low" "[I", Cond.fieldLink RX6 32 "CrashDeskModel" "high" "[I", Cond.fieldLink RX6 47 "CrashDeskModel" "isThere" "[Z", Cond.methodLink RX6 95 yX6_cell, Cond.static yX6_cell, Cond.code yX6_cell cX6_cell 2 (some .int), Cond.methodLink RX6 70 yX6_in, Cond.static yX6_in]
def wsX6_fewest_r2 : List Cond := [Cond.code yX6_in cX6_in 3 (some .boolean), Cond.methodLink RX6 99 yX6_falses, Cond.instanceMethod yX6_falses, Cond.selects RX6 yX6_falses yX6_falses, Cond.code yX6_falses cX6_falses 5 (some .int), Cond.fieldLink RX6 35 "CrashDeskModel" "tRow" "[I", Cond.fieldLink RX6 38 "CrashDeskModel" "tLow" "[I", Cond.fieldLink RX6 41 "CrashDeskModel" "tHigh" "[I", Cond.methodLink RX6 106 yX6_isFirst, Cond.instanceMethod yX6_isFirst, Cond.selects RX6 yX6_isFirst yX6_isFirst, Cond.code yX6_isFirst cX6_isFirst 6 (some .boolean), Cond.methodLink RX6 102 yX6_takes, Cond.instanceMethod yX6_takes, Cond.selects RX6 yX6_takes yX6_takes, Cond.code yX6_takes cX6_takes 9 (some .boolean), Cond.fieldLink RX6 82 "CrashDeskModel" "skids" "I", Cond.fieldLink RX6 13 "CrashDeskModel" "sCar" "[I", Cond.fieldLink RX6 16 "CrashDeskModel" "sBehind" "[Z", Cond.fieldLink RX6 26 "CrashDeskModel" "isDropped" "[Z", Cond.fieldLink RX6 20 "CrashDeskModel" "sLeast" "[I", Cond.fieldLink RX6 23 "CrashDeskModel" "sMost" "[I", Cond.methodLink RX6 132 yX6_goes, Cond.instanceMethod yX6_goes]
def wsX6_fewest_r3 : List Cond := [Cond.selects RX6 yX6_goes yX6_goes, Cond.code yX6_goes cX6_goes 10 (some .boolean), Cond.fieldLink RX6 117 "CrashDeskModel" "many" "J", Cond.fieldLink RX6 50 "CrashDeskModel" "firsts" "[I", Cond.fieldLink RX6 7 "CrashDeskModel" "mass" "[I", Cond.methodLink RX6 114 yX6_counts, Cond.instanceMethod yX6_counts, Cond.selects RX6 yX6_counts yX6_counts, Cond.code yX6_counts cX6_counts 6 none, Cond.methodLink RX6 125 yX6_masks, Cond.instanceMethod yX6_masks, Cond.selects RX6 yX6_masks yX6_masks, Cond.code yX6_masks cX6_masks 8 none, Cond.methodLink RX6 135 yJ6_bitCount_0f7a4, Cond.static yJ6_bitCount_0f7a4, Cond.initialized RJ6, Cond.code yJ6_bitCount_0f7a4 cJ6_bitCount_0f7a4 1 (some .int), Cond.constant RJ6 265 (1431655765), Cond.constant RJ6 266 (858993459), Cond.constant RJ6 267 (252645135)]
def wsX6_fewest : List Cond := .code yX6_fewest cX6_fewest 4 (some .int) :: ((wsX6_fewest_r1 ++ (wsX6_fewest_r2 ++ wsX6_fewest_r3)) ++ wsX60)
def wsX6_all : List Cond := .code yX6_all cX6_all 1 (some .int) :: ([.fieldLink RX6 92 "CrashDeskModel" "tales" "I"] ++ wsX60)
def wsX6_ways_r1 : List Cond := [Cond.fieldLink RX6 66 "CrashDeskModel" "thrown" "I", Cond.fieldLink RX6 117 "CrashDeskModel" "many" "J", Cond.methodLink RX6 132 yX6_goes, Cond.instanceMethod yX6_goes, Cond.selects RX6 yX6_goes yX6_goes, Cond.initialized RX6, Cond.code yX6_goes cX6_goes 10 (some .boolean), Cond.fieldLink RX6 50 "CrashDeskModel" "firsts" "[I", Cond.fieldLink RX6 7 "CrashDeskModel" "mass" "[I", Cond.fieldLink RX6 44 "CrashDeskModel" "isLet" "[Z", Cond.fieldLink RX6 47 "CrashDeskModel" "isThere" "[Z", Cond.fieldLink RX6 121 "CrashDeskModel" "wanted" "Z", Cond.methodLink RX6 110 yX6_lets, Cond.instanceMethod yX6_lets, Cond.selects RX6 yX6_lets yX6_lets, Cond.code yX6_lets cX6_lets 4 none, Cond.fieldLink RX6 29 "CrashDeskModel" "low" "[I", Cond.fieldLink RX6 32 "CrashDeskModel" "high" "[I", Cond.methodLink RX6 95 yX6_cell, Cond.static yX6_cell, Cond.code yX6_cell cX6_cell 2 (some .int), Cond.methodLink RX6 70 yX6_in, Cond.static yX6_in, Cond.code yX6_in cX6_in 3 (some .boolean)]
def wsX6_ways_r2 : List Cond := [Cond.methodLink RX6 99 yX6_falses, Cond.instanceMethod yX6_falses, Cond.selects RX6 yX6_falses yX6_falses, Cond.code yX6_falses cX6_falses 5 (some .int), Cond.fieldLink RX6 92 "CrashDeskModel" "tales" "I", Cond.fieldLink RX6 35 "CrashDeskModel" "tRow" "[I", Cond.fieldLink RX6 38 "CrashDeskModel" "tLow" "[I", Cond.fieldLink RX6 41 "CrashDeskModel" "tHigh" "[I", Cond.methodLink RX6 114 yX6_counts, Cond.instanceMethod yX6_counts, Cond.selects RX6 yX6_counts yX6_counts, Cond.code yX6_counts cX6_counts 6 none, Cond.methodLink RX6 106 yX6_isFirst, Cond.instanceMethod yX6_isFirst, Cond.selects RX6 yX6_isFirst yX6_isFirst, Cond.code yX6_isFirst cX6_isFirst 6 (some .boolean), Cond.methodLink RX6 102 yX6_takes, Cond.instanceMethod yX6_takes, Cond.selects RX6 yX6_takes yX6_takes, Cond.code yX6_takes cX6_takes 9 (some .boolean), Cond.fieldLink RX6 82 "CrashDeskModel" "skids" "I", Cond.fieldLink RX6 13 "CrashDeskModel" "sCar" "[I", Cond.fieldLink RX6 16 "CrashDeskModel" "sBehind" "[Z", Cond.fieldLink RX6 26 "CrashDeskModel" "isDropped" "[Z"]
def wsX6_ways_r3 : List Cond := [Cond.fieldLink RX6 20 "CrashDeskModel" "sLeast" "[I", Cond.fieldLink RX6 23 "CrashDeskModel" "sMost" "[I", Cond.methodLink RX6 125 yX6_masks, Cond.instanceMethod yX6_masks, Cond.selects RX6 yX6_masks yX6_masks, Cond.code yX6_masks cX6_masks 8 none, Cond.fieldLink RX6 63 "CrashDeskModel" "mades" "[I", Cond.fieldLink RX6 53 "CrashDeskModel" "isMask" "[Z", Cond.fieldLink RX6 60 "CrashDeskModel" "made" "[I"]
def wsX6_ways : List Cond := .code yX6_ways cX6_ways 2 (some .long) :: ((wsX6_ways_r1 ++ (wsX6_ways_r2 ++ wsX6_ways_r3)) ++ wsX60)
def wsX6_span_r1 : List Cond := [Cond.fieldLink RX6 66 "CrashDeskModel" "thrown" "I", Cond.fieldLink RX6 47 "CrashDeskModel" "isThere" "[Z", Cond.methodLink RX6 85 yX6_noSpeed, Cond.static yX6_noSpeed, Cond.initialized RX6, Cond.code yX6_noSpeed cX6_noSpeed 2 (some .boolean), Cond.methodLink RX6 74 yX6_noCar, Cond.static yX6_noCar, Cond.code yX6_noCar cX6_noCar 1 (some .boolean), Cond.methodLink RX6 70 yX6_in, Cond.static yX6_in, Cond.code yX6_in cX6_in 3 (some .boolean), Cond.methodLink RX6 78 yX6_throwsIf, Cond.instanceMethod yX6_throwsIf, Cond.selects RX6 yX6_throwsIf yX6_throwsIf, Cond.code yX6_throwsIf cX6_throwsIf 3 (some .boolean), Cond.methodLink RX6 141 yX6_all, Cond.instanceMethod yX6_all, Cond.selects RX6 yX6_all yX6_all, Cond.code yX6_all cX6_all 1 (some .int), Cond.fieldLink RX6 92 "CrashDeskModel" "tales" "I", Cond.methodLink RX6 132 yX6_goes, Cond.instanceMethod yX6_goes, Cond.selects RX6 yX6_goes yX6_goes]
def wsX6_span_r2 : List Cond := [Cond.code yX6_goes cX6_goes 10 (some .boolean), Cond.fieldLink RX6 117 "CrashDeskModel" "many" "J", Cond.fieldLink RX6 50 "CrashDeskModel" "firsts" "[I", Cond.fieldLink RX6 7 "CrashDeskModel" "mass" "[I", Cond.fieldLink RX6 44 "CrashDeskModel" "isLet" "[Z", Cond.fieldLink RX6 121 "CrashDeskModel" "wanted" "Z", Cond.methodLink RX6 110 yX6_lets, Cond.instanceMethod yX6_lets, Cond.selects RX6 yX6_lets yX6_lets, Cond.code yX6_lets cX6_lets 4 none, Cond.fieldLink RX6 29 "CrashDeskModel" "low" "[I", Cond.fieldLink RX6 32 "CrashDeskModel" "high" "[I", Cond.methodLink RX6 95 yX6_cell, Cond.static yX6_cell, Cond.code yX6_cell cX6_cell 2 (some .int), Cond.methodLink RX6 99 yX6_falses, Cond.instanceMethod yX6_falses, Cond.selects RX6 yX6_falses yX6_falses, Cond.code yX6_falses cX6_falses 5 (some .int), Cond.fieldLink RX6 35 "CrashDeskModel" "tRow" "[I", Cond.fieldLink RX6 38 "CrashDeskModel" "tLow" "[I", Cond.fieldLink RX6 41 "CrashDeskModel" "tHigh" "[I", Cond.methodLink RX6 114 yX6_counts, Cond.instanceMethod yX6_counts]
def wsX6_span_r3 : List Cond := [Cond.selects RX6 yX6_counts yX6_counts, Cond.code yX6_counts cX6_counts 6 none, Cond.methodLink RX6 106 yX6_isFirst, Cond.instanceMethod yX6_isFirst, Cond.selects RX6 yX6_isFirst yX6_isFirst, Cond.code yX6_isFirst cX6_isFirst 6 (some .boolean), Cond.methodLink RX6 102 yX6_takes, Cond.instanceMethod yX6_takes, Cond.selects RX6 yX6_takes yX6_takes, Cond.code yX6_takes cX6_takes 9 (some .boolean), Cond.fieldLink RX6 82 "CrashDeskModel" "skids" "I", Cond.fieldLink RX6 13 "CrashDeskModel" "sCar" "[I", Cond.fieldLink RX6 16 "CrashDeskModel" "sBehind" "[Z", Cond.fieldLink RX6 26 "CrashDeskModel" "isDropped" "[Z", Cond.fieldLink RX6 20 "CrashDeskModel" "sLeast" "[I", Cond.fieldLink RX6 23 "CrashDeskModel" "sMost" "[I", Cond.methodLink RX6 125 yX6_masks, Cond.instanceMethod yX6_masks, Cond.selects RX6 yX6_masks yX6_masks, Cond.code yX6_masks cX6_masks 8 none, Cond.fieldLink RX6 63 "CrashDeskModel" "mades" "[I", Cond.fieldLink RX6 53 "CrashDeskModel" "isMask" "[Z", Cond.fieldLink RX6 60 "CrashDeskModel" "made" "[I"]
def wsX6_span : List Cond := .code yX6_span cX6_span 6 (some .int) :: ((wsX6_span_r1 ++ (wsX6_span_r2 ++ wsX6_span_r3)) ++ wsX60)
def wsX6_fit_r1 : List Cond := [Cond.fieldLink RX6 66 "CrashDeskModel" "thrown" "I", Cond.methodLink RX6 141 yX6_all, Cond.instanceMethod yX6_all, Cond.selects RX6 yX6_all yX6_all, Cond.initialized RX6, Cond.code yX6_all cX6_all 1 (some .int), Cond.fieldLink RX6 92 "CrashDeskModel" "tales" "I", Cond.methodLink RX6 132 yX6_goes, Cond.instanceMethod yX6_goes, Cond.selects RX6 yX6_goes yX6_goes, Cond.code yX6_goes cX6_goes 10 (some .boolean), Cond.fieldLink RX6 117 "CrashDeskModel" "many" "J", Cond.fieldLink RX6 50 "CrashDeskModel" "firsts" "[I", Cond.fieldLink RX6 7 "CrashDeskModel" "mass" "[I", Cond.fieldLink RX6 44 "CrashDeskModel" "isLet" "[Z", Cond.fieldLink RX6 47 "CrashDeskModel" "isThere" "[Z", Cond.fieldLink RX6 121 "CrashDeskModel" "wanted" "Z", Cond.methodLink RX6 110 yX6_lets, Cond.instanceMethod yX6_lets, Cond.selects RX6 yX6_lets yX6_lets, Cond.code yX6_lets cX6_lets 4 none, Cond.fieldLink RX6 29 "CrashDeskModel" "low" "[I", Cond.fieldLink RX6 32 "CrashDeskModel" "high" "[I", Cond.methodLink RX6 95 yX6_cell]
def wsX6_fit_r2 : List Cond := [Cond.static yX6_cell, Cond.code yX6_cell cX6_cell 2 (some .int), Cond.methodLink RX6 70 yX6_in, Cond.static yX6_in, Cond.code yX6_in cX6_in 3 (some .boolean), Cond.methodLink RX6 99 yX6_falses, Cond.instanceMethod yX6_falses, Cond.selects RX6 yX6_falses yX6_falses, Cond.code yX6_falses cX6_falses 5 (some .int), Cond.fieldLink RX6 35 "CrashDeskModel" "tRow" "[I", Cond.fieldLink RX6 38 "CrashDeskModel" "tLow" "[I", Cond.fieldLink RX6 41 "CrashDeskModel" "tHigh" "[I", Cond.methodLink RX6 114 yX6_counts, Cond.instanceMethod yX6_counts, Cond.selects RX6 yX6_counts yX6_counts, Cond.code yX6_counts cX6_counts 6 none, Cond.methodLink RX6 106 yX6_isFirst, Cond.instanceMethod yX6_isFirst, Cond.selects RX6 yX6_isFirst yX6_isFirst, Cond.code yX6_isFirst cX6_isFirst 6 (some .boolean), Cond.methodLink RX6 102 yX6_takes, Cond.instanceMethod yX6_takes, Cond.selects RX6 yX6_takes yX6_takes, Cond.code yX6_takes cX6_takes 9 (some .boolean)]
def wsX6_fit_r3 : List Cond := [Cond.fieldLink RX6 82 "CrashDeskModel" "skids" "I", Cond.fieldLink RX6 13 "CrashDeskModel" "sCar" "[I", Cond.fieldLink RX6 16 "CrashDeskModel" "sBehind" "[Z", Cond.fieldLink RX6 26 "CrashDeskModel" "isDropped" "[Z", Cond.fieldLink RX6 20 "CrashDeskModel" "sLeast" "[I", Cond.fieldLink RX6 23 "CrashDeskModel" "sMost" "[I", Cond.methodLink RX6 125 yX6_masks, Cond.instanceMethod yX6_masks, Cond.selects RX6 yX6_masks yX6_masks, Cond.code yX6_masks cX6_masks 8 none, Cond.fieldLink RX6 63 "CrashDeskModel" "mades" "[I", Cond.fieldLink RX6 53 "CrashDeskModel" "isMask" "[Z", Cond.fieldLink RX6 60 "CrashDeskModel" "made" "[I"]
def wsX6_fit : List Cond := .code yX6_fit cX6_fit 2 (some .boolean) :: ((wsX6_fit_r1 ++ (wsX6_fit_r2 ++ wsX6_fit_r3)) ++ wsX60)
def wsX6_wrong_r1 : List Cond := [Cond.fieldLink RX6 66 "CrashDeskModel" "thrown" "I", Cond.methodLink RX6 145 yX6_fewest, Cond.instanceMethod yX6_fewest, Cond.selects RX6 yX6_fewest yX6_fewest, Cond.initialized RX6, Cond.code yX6_fewest cX6_fewest 4 (some .int), Cond.fieldLink RX6 53 "CrashDeskModel" "isMask" "[Z", Cond.fieldLink RX6 121 "CrashDeskModel" "wanted" "Z", Cond.fieldLink RX6 92 "CrashDeskModel" "tales" "I", Cond.methodLink RX6 129 yX6_makes, Cond.instanceMethod yX6_makes, Cond.selects RX6 yX6_makes yX6_makes, Cond.code yX6_makes cX6_makes 6 none, Cond.fieldLink RX6 63 "CrashDeskModel" "mades" "[I", Cond.fieldLink RX6 57 "CrashDeskModel" "isMade" "[Z", Cond.fieldLink RX6 44 "CrashDeskModel" "isLet" "[Z", Cond.fieldLink RX6 60 "CrashDeskModel" "made" "[I", Cond.methodLink RX6 110 yX6_lets, Cond.instanceMethod yX6_lets, Cond.selects RX6 yX6_lets yX6_lets, Cond.code yX6_lets cX6_lets 4 none, Cond.fieldLink RX6 29 "CrashDeskModel" "low" "[I", Cond.fieldLink RX6 32 "CrashDeskModel" "high" "[I", Cond.fieldLink RX6 47 "CrashDeskModel" "isThere" "[Z"]
def wsX6_wrong_r2 : List Cond := [Cond.methodLink RX6 95 yX6_cell, Cond.static yX6_cell, Cond.code yX6_cell cX6_cell 2 (some .int), Cond.methodLink RX6 70 yX6_in, Cond.static yX6_in, Cond.code yX6_in cX6_in 3 (some .boolean), Cond.methodLink RX6 99 yX6_falses, Cond.instanceMethod yX6_falses, Cond.selects RX6 yX6_falses yX6_falses, Cond.code yX6_falses cX6_falses 5 (some .int), Cond.fieldLink RX6 35 "CrashDeskModel" "tRow" "[I", Cond.fieldLink RX6 38 "CrashDeskModel" "tLow" "[I", Cond.fieldLink RX6 41 "CrashDeskModel" "tHigh" "[I", Cond.methodLink RX6 106 yX6_isFirst, Cond.instanceMethod yX6_isFirst, Cond.selects RX6 yX6_isFirst yX6_isFirst, Cond.code yX6_isFirst cX6_isFirst 6 (some .boolean), Cond.methodLink RX6 102 yX6_takes, Cond.instanceMethod yX6_takes, Cond.selects RX6 yX6_takes yX6_takes, Cond.code yX6_takes cX6_takes 9 (some .boolean), Cond.fieldLink RX6 82 "CrashDeskModel" "skids" "I", Cond.fieldLink RX6 13 "CrashDeskModel" "sCar" "[I", Cond.fieldLink RX6 16 "CrashDeskModel" "sBehind" "[Z"]
def wsX6_wrong_r3 : List Cond := [Cond.fieldLink RX6 26 "CrashDeskModel" "isDropped" "[Z", Cond.fieldLink RX6 20 "CrashDeskModel" "sLeast" "[I", Cond.fieldLink RX6 23 "CrashDeskModel" "sMost" "[I", Cond.methodLink RX6 132 yX6_goes, Cond.instanceMethod yX6_goes, Cond.selects RX6 yX6_goes yX6_goes, Cond.code yX6_goes cX6_goes 10 (some .boolean), Cond.fieldLink RX6 117 "CrashDeskModel" "many" "J", Cond.fieldLink RX6 50 "CrashDeskModel" "firsts" "[I", Cond.fieldLink RX6 7 "CrashDeskModel" "mass" "[I", Cond.methodLink RX6 114 yX6_counts, Cond.instanceMethod yX6_counts, Cond.selects RX6 yX6_counts yX6_counts, Cond.code yX6_counts cX6_counts 6 none, Cond.methodLink RX6 125 yX6_masks, Cond.instanceMethod yX6_masks, Cond.selects RX6 yX6_masks yX6_masks, Cond.code yX6_masks cX6_masks 8 none, Cond.methodLink RX6 135 yJ6_bitCount_0f7a4, Cond.static yJ6_bitCount_0f7a4, Cond.initialized RJ6, Cond.code yJ6_bitCount_0f7a4 cJ6_bitCount_0f7a4 1 (some .int), Cond.constant RJ6 265 (1431655765), Cond.constant RJ6 266 (858993459)]
def wsX6_wrong_r4 : List Cond := [Cond.constant RJ6 267 (252645135)]
def wsX6_wrong : List Cond := .code yX6_wrong cX6_wrong 2 (some .int) :: ((wsX6_wrong_r1 ++ (wsX6_wrong_r2 ++ (wsX6_wrong_r3 ++ wsX6_wrong_r4))) ++ wsX60)
def wsX6_which_r1 : List Cond := [Cond.fieldLink RX6 66 "CrashDeskModel" "thrown" "I", Cond.methodLink RX6 145 yX6_fewest, Cond.instanceMethod yX6_fewest, Cond.selects RX6 yX6_fewest yX6_fewest, Cond.initialized RX6, Cond.code yX6_fewest cX6_fewest 4 (some .int), Cond.fieldLink RX6 53 "CrashDeskModel" "isMask" "[Z", Cond.fieldLink RX6 121 "CrashDeskModel" "wanted" "Z", Cond.fieldLink RX6 92 "CrashDeskModel" "tales" "I", Cond.methodLink RX6 129 yX6_makes, Cond.instanceMethod yX6_makes, Cond.selects RX6 yX6_makes yX6_makes, Cond.code yX6_makes cX6_makes 6 none, Cond.fieldLink RX6 63 "CrashDeskModel" "mades" "[I", Cond.fieldLink RX6 57 "CrashDeskModel" "isMade" "[Z", Cond.fieldLink RX6 44 "CrashDeskModel" "isLet" "[Z", Cond.fieldLink RX6 60 "CrashDeskModel" "made" "[I", Cond.methodLink RX6 110 yX6_lets, Cond.instanceMethod yX6_lets, Cond.selects RX6 yX6_lets yX6_lets, Cond.code yX6_lets cX6_lets 4 none, Cond.fieldLink RX6 29 "CrashDeskModel" "low" "[I", Cond.fieldLink RX6 32 "CrashDeskModel" "high" "[I", Cond.fieldLink RX6 47 "CrashDeskModel" "isThere" "[Z"]
def wsX6_which_r2 : List Cond := [Cond.methodLink RX6 95 yX6_cell, Cond.static yX6_cell, Cond.code yX6_cell cX6_cell 2 (some .int), Cond.methodLink RX6 70 yX6_in, Cond.static yX6_in, Cond.code yX6_in cX6_in 3 (some .boolean), Cond.methodLink RX6 99 yX6_falses, Cond.instanceMethod yX6_falses, Cond.selects RX6 yX6_falses yX6_falses, Cond.code yX6_falses cX6_falses 5 (some .int), Cond.fieldLink RX6 35 "CrashDeskModel" "tRow" "[I", Cond.fieldLink RX6 38 "CrashDeskModel" "tLow" "[I", Cond.fieldLink RX6 41 "CrashDeskModel" "tHigh" "[I", Cond.methodLink RX6 106 yX6_isFirst, Cond.instanceMethod yX6_isFirst, Cond.selects RX6 yX6_isFirst yX6_isFirst, Cond.code yX6_isFirst cX6_isFirst 6 (some .boolean), Cond.methodLink RX6 102 yX6_takes, Cond.instanceMethod yX6_takes, Cond.selects RX6 yX6_takes yX6_takes, Cond.code yX6_takes cX6_takes 9 (some .boolean), Cond.fieldLink RX6 82 "CrashDeskModel" "skids" "I", Cond.fieldLink RX6 13 "CrashDeskModel" "sCar" "[I", Cond.fieldLink RX6 16 "CrashDeskModel" "sBehind" "[Z"]
def wsX6_which_r3 : List Cond := [Cond.fieldLink RX6 26 "CrashDeskModel" "isDropped" "[Z", Cond.fieldLink RX6 20 "CrashDeskModel" "sLeast" "[I", Cond.fieldLink RX6 23 "CrashDeskModel" "sMost" "[I", Cond.methodLink RX6 132 yX6_goes, Cond.instanceMethod yX6_goes, Cond.selects RX6 yX6_goes yX6_goes, Cond.code yX6_goes cX6_goes 10 (some .boolean), Cond.fieldLink RX6 117 "CrashDeskModel" "many" "J", Cond.fieldLink RX6 50 "CrashDeskModel" "firsts" "[I", Cond.fieldLink RX6 7 "CrashDeskModel" "mass" "[I", Cond.methodLink RX6 114 yX6_counts, Cond.instanceMethod yX6_counts, Cond.selects RX6 yX6_counts yX6_counts, Cond.code yX6_counts cX6_counts 6 none, Cond.methodLink RX6 125 yX6_masks, Cond.instanceMethod yX6_masks, Cond.selects RX6 yX6_masks yX6_masks, Cond.code yX6_masks cX6_masks 8 none, Cond.methodLink RX6 135 yJ6_bitCount_0f7a4, Cond.static yJ6_bitCount_0f7a4, Cond.initialized RJ6, Cond.code yJ6_bitCount_0f7a4 cJ6_bitCount_0f7a4 1 (some .int), Cond.constant RJ6 265 (1431655765), Cond.constant RJ6 266 (858993459)]
def wsX6_which_r4 : List Cond := [Cond.constant RJ6 267 (252645135)]
def wsX6_which : List Cond := .code yX6_which cX6_which 1 (some .int) :: ((wsX6_which_r1 ++ (wsX6_which_r2 ++ (wsX6_which_r3 ++ wsX6_which_r4))) ++ wsX60)
def wsX6_odds_r1 : List Cond := [Cond.fieldLink RX6 66 "CrashDeskModel" "thrown" "I", Cond.fieldLink RX6 82 "CrashDeskModel" "skids" "I", Cond.fieldLink RX6 26 "CrashDeskModel" "isDropped" "[Z", Cond.methodLink RX6 132 yX6_goes, Cond.instanceMethod yX6_goes, Cond.selects RX6 yX6_goes yX6_goes, Cond.initialized RX6, Cond.code yX6_goes cX6_goes 10 (some .boolean), Cond.fieldLink RX6 117 "CrashDeskModel" "many" "J", Cond.fieldLink RX6 50 "CrashDeskModel" "firsts" "[I", Cond.fieldLink RX6 7 "CrashDeskModel" "mass" "[I", Cond.fieldLink RX6 44 "CrashDeskModel" "isLet" "[Z", Cond.fieldLink RX6 47 "CrashDeskModel" "isThere" "[Z", Cond.fieldLink RX6 121 "CrashDeskModel" "wanted" "Z", Cond.methodLink RX6 110 yX6_lets, Cond.instanceMethod yX6_lets, Cond.selects RX6 yX6_lets yX6_lets, Cond.code yX6_lets cX6_lets 4 none, Cond.fieldLink RX6 29 "CrashDeskModel" "low" "[I", Cond.fieldLink RX6 32 "CrashDeskModel" "high" "[I", Cond.methodLink RX6 95 yX6_cell, Cond.static yX6_cell, Cond.code yX6_cell cX6_cell 2 (some .int), Cond.methodLink RX6 70 yX6_in]
def wsX6_odds_r2 : List Cond := [Cond.static yX6_in, Cond.code yX6_in cX6_in 3 (some .boolean), Cond.methodLink RX6 99 yX6_falses, Cond.instanceMethod yX6_falses, Cond.selects RX6 yX6_falses yX6_falses, Cond.code yX6_falses cX6_falses 5 (some .int), Cond.fieldLink RX6 92 "CrashDeskModel" "tales" "I", Cond.fieldLink RX6 35 "CrashDeskModel" "tRow" "[I", Cond.fieldLink RX6 38 "CrashDeskModel" "tLow" "[I", Cond.fieldLink RX6 41 "CrashDeskModel" "tHigh" "[I", Cond.methodLink RX6 114 yX6_counts, Cond.instanceMethod yX6_counts, Cond.selects RX6 yX6_counts yX6_counts, Cond.code yX6_counts cX6_counts 6 none, Cond.methodLink RX6 106 yX6_isFirst, Cond.instanceMethod yX6_isFirst, Cond.selects RX6 yX6_isFirst yX6_isFirst, Cond.code yX6_isFirst cX6_isFirst 6 (some .boolean), Cond.methodLink RX6 102 yX6_takes, Cond.instanceMethod yX6_takes, Cond.selects RX6 yX6_takes yX6_takes, Cond.code yX6_takes cX6_takes 9 (some .boolean), Cond.fieldLink RX6 13 "CrashDeskModel" "sCar" "[I", Cond.fieldLink RX6 16 "CrashDeskModel" "sBehind" "[Z"]
def wsX6_odds_r3 : List Cond := [Cond.fieldLink RX6 20 "CrashDeskModel" "sLeast" "[I", Cond.fieldLink RX6 23 "CrashDeskModel" "sMost" "[I", Cond.methodLink RX6 125 yX6_masks, Cond.instanceMethod yX6_masks, Cond.selects RX6 yX6_masks yX6_masks, Cond.code yX6_masks cX6_masks 8 none, Cond.fieldLink RX6 63 "CrashDeskModel" "mades" "[I", Cond.fieldLink RX6 53 "CrashDeskModel" "isMask" "[Z", Cond.fieldLink RX6 60 "CrashDeskModel" "made" "[I"]
def wsX6_odds : List Cond := .code yX6_odds cX6_odds 3 (some .int) :: ((wsX6_odds_r1 ++ (wsX6_odds_r2 ++ wsX6_odds_r3)) ++ wsX60)
def wsX6_avoided_r1 : List Cond := [Cond.fieldLink RX6 66 "CrashDeskModel" "thrown" "I", Cond.fieldLink RX6 47 "CrashDeskModel" "isThere" "[Z", Cond.methodLink RX6 74 yX6_noCar, Cond.static yX6_noCar, Cond.initialized RX6, Cond.code yX6_noCar cX6_noCar 1 (some .boolean), Cond.methodLink RX6 70 yX6_in, Cond.static yX6_in, Cond.code yX6_in cX6_in 3 (some .boolean), Cond.methodLink RX6 78 yX6_throwsIf, Cond.instanceMethod yX6_throwsIf, Cond.selects RX6 yX6_throwsIf yX6_throwsIf, Cond.code yX6_throwsIf cX6_throwsIf 3 (some .boolean), Cond.methodLink RX6 132 yX6_goes, Cond.instanceMethod yX6_goes, Cond.selects RX6 yX6_goes yX6_goes, Cond.code yX6_goes cX6_goes 10 (some .boolean), Cond.fieldLink RX6 117 "CrashDeskModel" "many" "J", Cond.fieldLink RX6 50 "CrashDeskModel" "firsts" "[I", Cond.fieldLink RX6 7 "CrashDeskModel" "mass" "[I", Cond.fieldLink RX6 44 "CrashDeskModel" "isLet" "[Z", Cond.fieldLink RX6 121 "CrashDeskModel" "wanted" "Z", Cond.methodLink RX6 110 yX6_lets, Cond.instanceMethod yX6_lets]
def wsX6_avoided_r2 : List Cond := [Cond.selects RX6 yX6_lets yX6_lets, Cond.code yX6_lets cX6_lets 4 none, Cond.fieldLink RX6 29 "CrashDeskModel" "low" "[I", Cond.fieldLink RX6 32 "CrashDeskModel" "high" "[I", Cond.methodLink RX6 95 yX6_cell, Cond.static yX6_cell, Cond.code yX6_cell cX6_cell 2 (some .int), Cond.methodLink RX6 99 yX6_falses, Cond.instanceMethod yX6_falses, Cond.selects RX6 yX6_falses yX6_falses, Cond.code yX6_falses cX6_falses 5 (some .int), Cond.fieldLink RX6 92 "CrashDeskModel" "tales" "I", Cond.fieldLink RX6 35 "CrashDeskModel" "tRow" "[I", Cond.fieldLink RX6 38 "CrashDeskModel" "tLow" "[I", Cond.fieldLink RX6 41 "CrashDeskModel" "tHigh" "[I", Cond.methodLink RX6 114 yX6_counts, Cond.instanceMethod yX6_counts, Cond.selects RX6 yX6_counts yX6_counts, Cond.code yX6_counts cX6_counts 6 none, Cond.methodLink RX6 106 yX6_isFirst, Cond.instanceMethod yX6_isFirst, Cond.selects RX6 yX6_isFirst yX6_isFirst, Cond.code yX6_isFirst cX6_isFirst 6 (some .boolean), Cond.methodLink RX6 102 yX6_takes]
def wsX6_avoided_r3 : List Cond := [Cond.instanceMethod yX6_takes, Cond.selects RX6 yX6_takes yX6_takes, Cond.code yX6_takes cX6_takes 9 (some .boolean), Cond.fieldLink RX6 82 "CrashDeskModel" "skids" "I", Cond.fieldLink RX6 13 "CrashDeskModel" "sCar" "[I", Cond.fieldLink RX6 16 "CrashDeskModel" "sBehind" "[Z", Cond.fieldLink RX6 26 "CrashDeskModel" "isDropped" "[Z", Cond.fieldLink RX6 20 "CrashDeskModel" "sLeast" "[I", Cond.fieldLink RX6 23 "CrashDeskModel" "sMost" "[I", Cond.methodLink RX6 125 yX6_masks, Cond.instanceMethod yX6_masks, Cond.selects RX6 yX6_masks yX6_masks, Cond.code yX6_masks cX6_masks 8 none, Cond.fieldLink RX6 63 "CrashDeskModel" "mades" "[I", Cond.fieldLink RX6 53 "CrashDeskModel" "isMask" "[Z", Cond.fieldLink RX6 60 "CrashDeskModel" "made" "[I"]
def wsX6_avoided : List Cond := .code yX6_avoided cX6_avoided 8 (some .int) :: ((wsX6_avoided_r1 ++ (wsX6_avoided_r2 ++ wsX6_avoided_r3)) ++ wsX60)
def wsX6_look : List Cond := .code yX6_look cX6_look 3 (some .int) :: ([.fieldLink RX6 66 "CrashDeskModel" "thrown" "I", .fieldLink RX6 82 "CrashDeskModel" "skids" "I", .fieldLink RX6 13 "CrashDeskModel" "sCar" "[I", .fieldLink RX6 16 "CrashDeskModel" "sBehind" "[Z", .fieldLink RX6 20 "CrashDeskModel" "sLeast" "[I", .fieldLink RX6 23 "CrashDeskModel" "sMost" "[I", .fieldLink RX6 26 "CrashDeskModel" "isDropped" "[Z", .methodLink RX6 70 yX6_in, .static yX6_in, .initialized RX6, .code yX6_in cX6_in 3 (some .boolean), .methodLink RX6 78 yX6_throwsIf, .instanceMethod yX6_throwsIf, .selects RX6 yX6_throwsIf yX6_throwsIf, .code yX6_throwsIf cX6_throwsIf 3 (some .boolean)] ++ wsX60)
def wsX6_can_r1 : List Cond := [Cond.fieldLink RX6 66 "CrashDeskModel" "thrown" "I", Cond.fieldLink RX6 47 "CrashDeskModel" "isThere" "[Z", Cond.methodLink RX6 85 yX6_noSpeed, Cond.static yX6_noSpeed, Cond.initialized RX6, Cond.code yX6_noSpeed cX6_noSpeed 2 (some .boolean), Cond.methodLink RX6 74 yX6_noCar, Cond.static yX6_noCar, Cond.code yX6_noCar cX6_noCar 1 (some .boolean), Cond.methodLink RX6 70 yX6_in, Cond.static yX6_in, Cond.code yX6_in cX6_in 3 (some .boolean), Cond.methodLink RX6 78 yX6_throwsIf, Cond.instanceMethod yX6_throwsIf, Cond.selects RX6 yX6_throwsIf yX6_throwsIf, Cond.code yX6_throwsIf cX6_throwsIf 3 (some .boolean), Cond.methodLink RX6 132 yX6_goes, Cond.instanceMethod yX6_goes, Cond.selects RX6 yX6_goes yX6_goes, Cond.code yX6_goes cX6_goes 10 (some .boolean), Cond.fieldLink RX6 117 "CrashDeskModel" "many" "J", Cond.fieldLink RX6 50 "CrashDeskModel" "firsts" "[I", Cond.fieldLink RX6 7 "CrashDeskModel" "mass" "[I", Cond.fieldLink RX6 44 "CrashDeskModel" "isLet" "[Z"]
def wsX6_can_r2 : List Cond := [Cond.fieldLink RX6 121 "CrashDeskModel" "wanted" "Z", Cond.methodLink RX6 110 yX6_lets, Cond.instanceMethod yX6_lets, Cond.selects RX6 yX6_lets yX6_lets, Cond.code yX6_lets cX6_lets 4 none, Cond.fieldLink RX6 29 "CrashDeskModel" "low" "[I", Cond.fieldLink RX6 32 "CrashDeskModel" "high" "[I", Cond.methodLink RX6 95 yX6_cell, Cond.static yX6_cell, Cond.code yX6_cell cX6_cell 2 (some .int), Cond.methodLink RX6 99 yX6_falses, Cond.instanceMethod yX6_falses, Cond.selects RX6 yX6_falses yX6_falses, Cond.code yX6_falses cX6_falses 5 (some .int), Cond.fieldLink RX6 92 "CrashDeskModel" "tales" "I", Cond.fieldLink RX6 35 "CrashDeskModel" "tRow" "[I", Cond.fieldLink RX6 38 "CrashDeskModel" "tLow" "[I", Cond.fieldLink RX6 41 "CrashDeskModel" "tHigh" "[I", Cond.methodLink RX6 114 yX6_counts, Cond.instanceMethod yX6_counts, Cond.selects RX6 yX6_counts yX6_counts, Cond.code yX6_counts cX6_counts 6 none, Cond.methodLink RX6 106 yX6_isFirst, Cond.instanceMethod yX6_isFirst]
def wsX6_can_r3 : List Cond := [Cond.selects RX6 yX6_isFirst yX6_isFirst, Cond.code yX6_isFirst cX6_isFirst 6 (some .boolean), Cond.methodLink RX6 102 yX6_takes, Cond.instanceMethod yX6_takes, Cond.selects RX6 yX6_takes yX6_takes, Cond.code yX6_takes cX6_takes 9 (some .boolean), Cond.fieldLink RX6 82 "CrashDeskModel" "skids" "I", Cond.fieldLink RX6 13 "CrashDeskModel" "sCar" "[I", Cond.fieldLink RX6 16 "CrashDeskModel" "sBehind" "[Z", Cond.fieldLink RX6 26 "CrashDeskModel" "isDropped" "[Z", Cond.fieldLink RX6 20 "CrashDeskModel" "sLeast" "[I", Cond.fieldLink RX6 23 "CrashDeskModel" "sMost" "[I", Cond.methodLink RX6 125 yX6_masks, Cond.instanceMethod yX6_masks, Cond.selects RX6 yX6_masks yX6_masks, Cond.code yX6_masks cX6_masks 8 none, Cond.fieldLink RX6 63 "CrashDeskModel" "mades" "[I", Cond.fieldLink RX6 53 "CrashDeskModel" "isMask" "[Z", Cond.fieldLink RX6 60 "CrashDeskModel" "made" "[I"]
def wsX6_can : List Cond := .code yX6_can cX6_can 4 (some .boolean) :: ((wsX6_can_r1 ++ (wsX6_can_r2 ++ wsX6_can_r3)) ++ wsX60)
def wsX6_count : List Cond := .code yX6_count cX6_count 4 (some .int) :: ([.fieldLink RX6 66 "CrashDeskModel" "thrown" "I", .fieldLink RX6 82 "CrashDeskModel" "skids" "I", .fieldLink RX6 26 "CrashDeskModel" "isDropped" "[Z", .fieldLink RX6 92 "CrashDeskModel" "tales" "I", .fieldLink RX6 7 "CrashDeskModel" "mass" "[I"] ++ wsX60)
def wsJ9_abs_0f7a4 : List Cond := .code yJ9_abs_0f7a4 cJ9_abs_0f7a4 1 (some .int) :: ([])
def wsJ9_max_7cf53 : List Cond := .code yJ9_max_7cf53 cJ9_max_7cf53 2 (some .int) :: ([])
def wsJ9_min_7cf53 : List Cond := .code yJ9_min_7cf53 cJ9_min_7cf53 2 (some .int) :: ([])
def wsL_mass_r1 : List Cond := [Cond.classLink RL 13 "java/lang/IndexOutOfBoundsException", Cond.classLink RL 15 "java/lang/IllegalArgumentException", Cond.methodLink RL 7 yX5_mass, Cond.instanceMethod yX5_mass, Cond.selects RX5 yX5_mass yX5_mass, Cond.initialized RX5, Cond.code yX5_mass cX5_mass 4 none, Cond.fieldLink RX5 55 "CrashDesk$Car" "mass" "I", Cond.fieldLink RX5 35 "CrashDesk" "reckoned" "Z", Cond.methodLink RX5 47 yX5_carOf, Cond.instanceMethod yX5_carOf, Cond.selects RX5 yX5_carOf yX5_carOf, Cond.code yX5_carOf cX5_carOf 2 (some (.object "CrashDesk$Car")), Cond.fieldLink RX5 31 "CrashDesk" "meeting" "LCrashDesk$Meeting;", Cond.methodLink RX5 60 yX5_testCar, Cond.static yX5_testCar, Cond.code yX5_testCar cX5_testCar 1 none, Cond.classLink RX5 164 "java/lang/IndexOutOfBoundsException", Cond.initialized "java/lang/IndexOutOfBoundsException", Cond.methodLink RX5 180 yX1_pick, Cond.instanceMethod yX1_pick, Cond.selects RX1 yX1_pick yX1_pick, Cond.initialized RX1, Cond.code yX1_pick cX1_pick 2 (some (.object "CrashDesk$Car"))]
def wsL_mass_r2 : List Cond := [Cond.fieldLink RX1 12 "CrashDesk$Meeting" "zero" "LCrashDesk$Car;", Cond.fieldLink RX1 18 "CrashDesk$Meeting" "one" "LCrashDesk$Car;", Cond.methodLink RX5 51 yX5_testNumber, Cond.static yX5_testNumber, Cond.code yX5_testNumber cX5_testNumber 3 none, Cond.classLink RX5 171 "java/lang/IllegalArgumentException", Cond.initialized "java/lang/IllegalArgumentException"]
def wsL_mass : List Cond := .codeWith yL_mass cL_mass 4 (some .int) [(0, 6, 9, 13), (0, 6, 12, 15)] :: ((wsL_mass_r1 ++ wsL_mass_r2) ++ wsX00 ++ wsX50 ++ wsX10 ++ (vx_atS RX5 168 "java/lang/IndexOutOfBoundsException" ["java/lang/RuntimeException", "java/lang/Exception"]).filter goodWord ++ (vx_atS RX5 175 "java/lang/IllegalArgumentException" ["java/lang/RuntimeException", "java/lang/Exception"]).filter goodWord)
def wsL_skid_r1 : List Cond := [Cond.classLink RL 13 "java/lang/IndexOutOfBoundsException", Cond.classLink RL 15 "java/lang/IllegalArgumentException", Cond.classLink RL 21 "java/lang/UnsupportedOperationException", Cond.methodLink RL 17 yX5_skid, Cond.instanceMethod yX5_skid, Cond.selects RX5 yX5_skid yX5_skid, Cond.initialized RX5, Cond.code yX5_skid cX5_skid 8 (some .int), Cond.classLink RX5 68 "java/lang/UnsupportedOperationException", Cond.initialized "java/lang/UnsupportedOperationException", Cond.fieldLink RX5 21 "CrashDesk" "skidCount" "I", Cond.fieldLink RX5 11 "CrashDesk" "skids" "[LCrashDesk$Skid;", Cond.fieldLink RX5 75 "CrashDesk$Skid" "car" "I", Cond.fieldLink RX5 78 "CrashDesk$Skid" "behind" "Z", Cond.fieldLink RX5 81 "CrashDesk$Skid" "least" "I", Cond.fieldLink RX5 84 "CrashDesk$Skid" "greatest" "I", Cond.fieldLink RX5 87 "CrashDesk$Skid" "counts" "Z", Cond.fieldLink RX5 35 "CrashDesk" "reckoned" "Z", Cond.methodLink RX5 60 yX5_testCar, Cond.static yX5_testCar, Cond.code yX5_testCar cX5_testCar 1 none, Cond.classLink RX5 164 "java/lang/IndexOutOfBoundsException", Cond.initialized "java/lang/IndexOutOfBoundsException", Cond.methodLink RX5 64 yX5_testSpan]
def wsL_skid_r2 : List Cond := [Cond.static yX5_testSpan, Cond.code yX5_testSpan cX5_testSpan 4 none, Cond.classLink RX5 171 "java/lang/IllegalArgumentException", Cond.initialized "java/lang/IllegalArgumentException"]
def wsL_skid : List Cond := .codeWith yL_skid cL_skid 9 (some .int) [(0, 18, 21, 13), (0, 18, 25, 15), (0, 18, 29, 21)] :: ((wsL_skid_r1 ++ wsL_skid_r2) ++ wsX50 ++ wsX20 ++ (vx_atS RX5 72 "java/lang/UnsupportedOperationException" ["java/lang/RuntimeException", "java/lang/Exception"]).filter goodWord ++ (vx_atS RX5 168 "java/lang/IndexOutOfBoundsException" ["java/lang/RuntimeException", "java/lang/Exception"]).filter goodWord ++ (vx_atS RX5 175 "java/lang/IllegalArgumentException" ["java/lang/RuntimeException", "java/lang/Exception"]).filter goodWord)
def wsL_drop : List Cond := .codeWith yL_drop cL_drop 5 (some .int) [(0, 17, 20, 13)] :: ([.classLink RL 13 "java/lang/IndexOutOfBoundsException", .methodLink RL 23 yX5_drop, .instanceMethod yX5_drop, .selects RX5 yX5_drop yX5_drop, .initialized RX5, .code yX5_drop cX5_drop 4 (some .boolean), .fieldLink RX5 87 "CrashDesk$Skid" "counts" "Z", .fieldLink RX5 35 "CrashDesk" "reckoned" "Z", .methodLink RX5 90 yX5_skidOf, .instanceMethod yX5_skidOf, .selects RX5 yX5_skidOf yX5_skidOf, .code yX5_skidOf cX5_skidOf 2 (some (.object "CrashDesk$Skid")), .classLink RX5 164 "java/lang/IndexOutOfBoundsException", .initialized "java/lang/IndexOutOfBoundsException", .fieldLink RX5 21 "CrashDesk" "skidCount" "I", .fieldLink RX5 11 "CrashDesk" "skids" "[LCrashDesk$Skid;"] ++ wsX20 ++ wsX50 ++ (vx_atS RX5 168 "java/lang/IndexOutOfBoundsException" ["java/lang/RuntimeException", "java/lang/Exception"]).filter goodWord)
def wsL_sure_r1 : List Cond := [Cond.classLink RL 13 "java/lang/IndexOutOfBoundsException", Cond.classLink RL 15 "java/lang/IllegalArgumentException", Cond.methodLink RL 27 yX5_sure, Cond.instanceMethod yX5_sure, Cond.selects RX5 yX5_sure yX5_sure, Cond.initialized RX5, Cond.code yX5_sure cX5_sure 6 none, Cond.fieldLink RX5 98 "CrashDesk$Speed" "low" "I", Cond.fieldLink RX5 103 "CrashDesk$Speed" "high" "I", Cond.fieldLink RX5 35 "CrashDesk" "reckoned" "Z", Cond.methodLink RX5 94 yX5_speedOf, Cond.instanceMethod yX5_speedOf, Cond.selects RX5 yX5_speedOf yX5_speedOf, Cond.code yX5_speedOf cX5_speedOf 3 (some (.object "CrashDesk$Speed")), Cond.methodLink RX5 106 yX5_testSpeed, Cond.static yX5_testSpeed, Cond.code yX5_testSpeed cX5_testSpeed 2 none, Cond.classLink RX5 164 "java/lang/IndexOutOfBoundsException", Cond.initialized "java/lang/IndexOutOfBoundsException", Cond.methodLink RX5 60 yX5_testCar, Cond.static yX5_testCar, Cond.code yX5_testCar cX5_testCar 1 none, Cond.methodLink RX5 47 yX5_carOf, Cond.instanceMethod yX5_carOf]
def wsL_sure_r2 : List Cond := [Cond.selects RX5 yX5_carOf yX5_carOf, Cond.code yX5_carOf cX5_carOf 2 (some (.object "CrashDesk$Car")), Cond.fieldLink RX5 31 "CrashDesk" "meeting" "LCrashDesk$Meeting;", Cond.methodLink RX5 180 yX1_pick, Cond.instanceMethod yX1_pick, Cond.selects RX1 yX1_pick yX1_pick, Cond.initialized RX1, Cond.code yX1_pick cX1_pick 2 (some (.object "CrashDesk$Car")), Cond.fieldLink RX1 12 "CrashDesk$Meeting" "zero" "LCrashDesk$Car;", Cond.fieldLink RX1 18 "CrashDesk$Meeting" "one" "LCrashDesk$Car;", Cond.methodLink RX5 183 yX0_pick, Cond.instanceMethod yX0_pick, Cond.selects RX0 yX0_pick yX0_pick, Cond.initialized RX0, Cond.code yX0_pick cX0_pick 2 (some (.object "CrashDesk$Speed")), Cond.fieldLink RX0 18 "CrashDesk$Car" "first" "LCrashDesk$Speed;", Cond.fieldLink RX0 22 "CrashDesk$Car" "at" "LCrashDesk$Speed;", Cond.fieldLink RX0 25 "CrashDesk$Car" "after" "LCrashDesk$Speed;", Cond.methodLink RX5 64 yX5_testSpan, Cond.static yX5_testSpan, Cond.code yX5_testSpan cX5_testSpan 4 none, Cond.classLink RX5 171 "java/lang/IllegalArgumentException", Cond.initialized "java/lang/IllegalArgumentException"]
def wsL_sure : List Cond := .codeWith yL_sure cL_sure 6 (some .int) [(0, 9, 12, 13), (0, 9, 16, 15)] :: ((wsL_sure_r1 ++ wsL_sure_r2) ++ wsX30 ++ wsX50 ++ wsX10 ++ wsX00 ++ (vx_atS RX5 168 "java/lang/IndexOutOfBoundsException" ["java/lang/RuntimeException", "java/lang/Exception"]).filter goodWord ++ (vx_atS RX5 175 "java/lang/IllegalArgumentException" ["java/lang/RuntimeException", "java/lang/Exception"]).filter goodWord)
def wsL_tale_r1 : List Cond := [Cond.classLink RL 13 "java/lang/IndexOutOfBoundsException", Cond.classLink RL 15 "java/lang/IllegalArgumentException", Cond.classLink RL 21 "java/lang/UnsupportedOperationException", Cond.methodLink RL 31 yX5_tale, Cond.instanceMethod yX5_tale, Cond.selects RX5 yX5_tale yX5_tale, Cond.initialized RX5, Cond.code yX5_tale cX5_tale 6 (some .int), Cond.classLink RX5 68 "java/lang/UnsupportedOperationException", Cond.initialized "java/lang/UnsupportedOperationException", Cond.fieldLink RX5 25 "CrashDesk" "taleCount" "I", Cond.fieldLink RX5 17 "CrashDesk" "tales" "[LCrashDesk$Tale;", Cond.fieldLink RX5 112 "CrashDesk$Tale" "car" "I", Cond.fieldLink RX5 113 "CrashDesk$Tale" "speed" "I", Cond.fieldLink RX5 116 "CrashDesk$Tale" "low" "I", Cond.fieldLink RX5 117 "CrashDesk$Tale" "high" "I", Cond.fieldLink RX5 35 "CrashDesk" "reckoned" "Z", Cond.methodLink RX5 106 yX5_testSpeed, Cond.static yX5_testSpeed, Cond.code yX5_testSpeed cX5_testSpeed 2 none, Cond.classLink RX5 164 "java/lang/IndexOutOfBoundsException", Cond.initialized "java/lang/IndexOutOfBoundsException", Cond.methodLink RX5 60 yX5_testCar, Cond.static yX5_testCar]
def wsL_tale_r2 : List Cond := [Cond.code yX5_testCar cX5_testCar 1 none, Cond.methodLink RX5 64 yX5_testSpan, Cond.static yX5_testSpan, Cond.code yX5_testSpan cX5_testSpan 4 none, Cond.classLink RX5 171 "java/lang/IllegalArgumentException", Cond.initialized "java/lang/IllegalArgumentException"]
def wsL_tale : List Cond := .codeWith yL_tale cL_tale 7 (some .int) [(0, 14, 17, 13), (0, 14, 21, 15), (0, 14, 25, 21)] :: ((wsL_tale_r1 ++ wsL_tale_r2) ++ wsX50 ++ wsX40 ++ (vx_atS RX5 72 "java/lang/UnsupportedOperationException" ["java/lang/RuntimeException", "java/lang/Exception"]).filter goodWord ++ (vx_atS RX5 168 "java/lang/IndexOutOfBoundsException" ["java/lang/RuntimeException", "java/lang/Exception"]).filter goodWord ++ (vx_atS RX5 175 "java/lang/IllegalArgumentException" ["java/lang/RuntimeException", "java/lang/Exception"]).filter goodWord)
def wsL_span_r1 : List Cond := [Cond.classLink RL 13 "java/lang/IndexOutOfBoundsException", Cond.classLink RL 39 "java/util/NoSuchElementException", Cond.methodLink RL 35 yX5_span, Cond.instanceMethod yX5_span, Cond.selects RX5 yX5_span yX5_span, Cond.initialized RX5, Cond.code yX5_span cX5_span 6 (some .int), Cond.methodLink RX5 94 yX5_speedOf, Cond.instanceMethod yX5_speedOf, Cond.selects RX5 yX5_speedOf yX5_speedOf, Cond.code yX5_speedOf cX5_speedOf 3 (some (.object "CrashDesk$Speed")), Cond.methodLink RX5 106 yX5_testSpeed, Cond.static yX5_testSpeed, Cond.code yX5_testSpeed cX5_testSpeed 2 none, Cond.classLink RX5 164 "java/lang/IndexOutOfBoundsException", Cond.initialized "java/lang/IndexOutOfBoundsException", Cond.methodLink RX5 60 yX5_testCar, Cond.static yX5_testCar, Cond.code yX5_testCar cX5_testCar 1 none, Cond.methodLink RX5 47 yX5_carOf, Cond.instanceMethod yX5_carOf, Cond.selects RX5 yX5_carOf yX5_carOf, Cond.code yX5_carOf cX5_carOf 2 (some (.object "CrashDesk$Car")), Cond.fieldLink RX5 31 "CrashDesk" "meeting" "LCrashDesk$Meeting;"]
def wsL_span_r2 : List Cond := [Cond.methodLink RX5 180 yX1_pick, Cond.instanceMethod yX1_pick, Cond.selects RX1 yX1_pick yX1_pick, Cond.initialized RX1, Cond.code yX1_pick cX1_pick 2 (some (.object "CrashDesk$Car")), Cond.fieldLink RX1 12 "CrashDesk$Meeting" "zero" "LCrashDesk$Car;", Cond.fieldLink RX1 18 "CrashDesk$Meeting" "one" "LCrashDesk$Car;", Cond.methodLink RX5 183 yX0_pick, Cond.instanceMethod yX0_pick, Cond.selects RX0 yX0_pick yX0_pick, Cond.initialized RX0, Cond.code yX0_pick cX0_pick 2 (some (.object "CrashDesk$Speed")), Cond.fieldLink RX0 18 "CrashDesk$Car" "first" "LCrashDesk$Speed;", Cond.fieldLink RX0 22 "CrashDesk$Car" "at" "LCrashDesk$Speed;", Cond.fieldLink RX0 25 "CrashDesk$Car" "after" "LCrashDesk$Speed;", Cond.methodLink RX5 125 yX5_allTales, Cond.instanceMethod yX5_allTales, Cond.selects RX5 yX5_allTales yX5_allTales, Cond.code yX5_allTales cX5_allTales 1 (some .int), Cond.fieldLink RX5 25 "CrashDesk" "taleCount" "I", Cond.methodLink RX5 118 yX5_reckon, Cond.instanceMethod yX5_reckon, Cond.selects RX5 yX5_reckon yX5_reckon, Cond.code yX5_reckon cX5_reckon 7 none]
def wsL_span_r3 : List Cond := [Cond.fieldLink RX5 35 "CrashDesk" "reckoned" "Z", Cond.fieldLink RX5 39 "CrashDesk" "reckonedTales" "I", Cond.fieldLink RX5 42 "CrashDesk" "reckonedWithout" "I", Cond.fieldLink RX5 157 "CrashDesk$Meeting" "zero" "LCrashDesk$Car;", Cond.fieldLink RX5 161 "CrashDesk$Meeting" "one" "LCrashDesk$Car;", Cond.fieldLink RX5 17 "CrashDesk" "tales" "[LCrashDesk$Tale;", Cond.fieldLink RX5 112 "CrashDesk$Tale" "car" "I", Cond.fieldLink RX5 113 "CrashDesk$Tale" "speed" "I", Cond.fieldLink RX5 21 "CrashDesk" "skidCount" "I", Cond.fieldLink RX5 11 "CrashDesk" "skids" "[LCrashDesk$Skid;", Cond.fieldLink RX5 87 "CrashDesk$Skid" "counts" "Z", Cond.fieldLink RX5 75 "CrashDesk$Skid" "car" "I", Cond.methodLink RX5 188 yX0_clear, Cond.instanceMethod yX0_clear, Cond.selects RX0 yX0_clear yX0_clear, Cond.code yX0_clear cX0_clear 1 none, Cond.fieldLink RX0 32 "CrashDesk$Car" "aheadLeast" "I", Cond.fieldLink RX0 35 "CrashDesk$Car" "aheadGreatest" "I", Cond.fieldLink RX0 38 "CrashDesk$Car" "behindLeast" "I", Cond.fieldLink RX0 41 "CrashDesk$Car" "behindGreatest" "I", Cond.fieldLink RX0 44 "CrashDesk$Car" "skidsBehind" "Z", Cond.methodLink RX0 48 yX3_clear, Cond.instanceMethod yX3_clear, Cond.selects RX3 yX3_clear yX3_clear]
def wsL_span_r4 : List Cond := [Cond.initialized RX3, Cond.code yX3_clear cX3_clear 2 none, Cond.fieldLink RX3 9 "CrashDesk$Speed" "low" "I", Cond.fieldLink RX3 15 "CrashDesk$Speed" "high" "I", Cond.fieldLink RX3 28 "CrashDesk$Speed" "seen" "[Z", Cond.methodLink RX3 32 yX3_setPrice, Cond.instanceMethod yX3_setPrice, Cond.selects RX3 yX3_setPrice yX3_setPrice, Cond.code yX3_setPrice cX3_setPrice 3 none, Cond.fieldLink RX3 24 "CrashDesk$Speed" "prices" "[I", Cond.methodLink RX5 191 yX3_hear, Cond.instanceMethod yX3_hear, Cond.selects RX3 yX3_hear yX3_hear, Cond.code yX3_hear cX3_hear 5 none, Cond.fieldLink RX3 36 "CrashDesk$Tale" "low" "I", Cond.fieldLink RX3 39 "CrashDesk$Tale" "high" "I", Cond.methodLink RX3 40 yX3_isOpen, Cond.instanceMethod yX3_isOpen, Cond.selects RX3 yX3_isOpen yX3_isOpen, Cond.code yX3_isOpen cX3_isOpen 2 (some .boolean), Cond.methodLink RX3 44 yX3_priceOf, Cond.instanceMethod yX3_priceOf, Cond.selects RX3 yX3_priceOf yX3_priceOf, Cond.code yX3_priceOf cX3_priceOf 2 (some .int)]
def wsL_span_r5 : List Cond := [Cond.methodLink RX5 195 yX0_add, Cond.instanceMethod yX0_add, Cond.selects RX0 yX0_add yX0_add, Cond.code yX0_add cX0_add 2 none, Cond.fieldLink RX0 51 "CrashDesk$Skid" "behind" "Z", Cond.fieldLink RX0 56 "CrashDesk$Skid" "least" "I", Cond.fieldLink RX0 59 "CrashDesk$Skid" "greatest" "I", Cond.methodLink RX5 199 yX1_reckon, Cond.instanceMethod yX1_reckon, Cond.selects RX1 yX1_reckon yX1_reckon, Cond.code yX1_reckon cX1_reckon 2 none, Cond.fieldLink RX1 21 "CrashDesk$Meeting" "wayCount" "J", Cond.fieldLink RX1 25 "CrashDesk$Meeting" "cheapest" "I", Cond.fieldLink RX1 35 "CrashDesk$Car" "mass" "I", Cond.fieldLink RX1 29 "CrashDesk$Meeting" "loss" "I", Cond.fieldLink RX1 32 "CrashDesk$Meeting" "gain" "I", Cond.fieldLink RX1 45 "CrashDesk$Car" "at" "LCrashDesk$Speed;", Cond.fieldLink RX1 49 "CrashDesk$Speed" "bottom" "I", Cond.fieldLink RX1 54 "CrashDesk$Speed" "top" "I", Cond.methodLink RX1 38 yX1_lowestShare, Cond.static yX1_lowestShare, Cond.code yX1_lowestShare cX1_lowestShare 3 (some .int), Cond.methodLink RX1 42 yX0_settle, Cond.instanceMethod yX0_settle]
def wsL_span_r6 : List Cond := [Cond.selects RX0 yX0_settle yX0_settle, Cond.code yX0_settle cX0_settle 2 none, Cond.methodLink RX0 62 yX0_isTakenBehind, Cond.instanceMethod yX0_isTakenBehind, Cond.selects RX0 yX0_isTakenBehind yX0_isTakenBehind, Cond.code yX0_isTakenBehind cX0_isTakenBehind 3 (some .boolean), Cond.methodLink RX0 66 yX3_setPrice, Cond.methodLink RX0 70 yX3_isOpen, Cond.methodLink RX0 73 yX0_joinFirsts, Cond.instanceMethod yX0_joinFirsts, Cond.selects RX0 yX0_joinFirsts yX0_joinFirsts, Cond.code yX0_joinFirsts cX0_joinFirsts 6 none, Cond.methodLink RX0 86 Lib.Math.abs.name, Cond.static Lib.Math.abs.name, Cond.initialized "java/lang/Math", Cond.code Lib.Math.abs.name Lib.Math.abs.code 1 (some .int), Cond.fieldLink RX0 28 "CrashDesk$Car" "firstCounts" "[I", Cond.methodLink RX0 95 yX0_isTakenAhead, Cond.instanceMethod yX0_isTakenAhead, Cond.selects RX0 yX0_isTakenAhead yX0_isTakenAhead, Cond.code yX0_isTakenAhead cX0_isTakenAhead 4 (some .boolean), Cond.methodLink RX0 99 yX0_firstFor, Cond.static yX0_firstFor, Cond.code yX0_firstFor cX0_firstFor 2 (some .int)]
def wsL_span_r7 : List Cond := [Cond.methodLink RX0 106 yX3_priceOf, Cond.static yX5_cheaper, Cond.code yX5_cheaper cX5_cheaper 2 (some .int), Cond.methodLink RX0 77 yX3_bound, Cond.instanceMethod yX3_bound, Cond.selects RX3 yX3_bound yX3_bound, Cond.code yX3_bound cX3_bound 2 none, Cond.fieldLink RX3 18 "CrashDesk$Speed" "bottom" "I", Cond.fieldLink RX3 21 "CrashDesk$Speed" "top" "I", Cond.methodLink RX3 48 Lib.Math.min.name, Cond.static Lib.Math.min.name, Cond.code Lib.Math.min.name Lib.Math.min.code 2 (some .int), Cond.methodLink RX1 57 yX3_isOpen, Cond.methodLink RX1 61 yX1_pushFrom, Cond.instanceMethod yX1_pushFrom, Cond.selects RX1 yX1_pushFrom yX1_pushFrom, Cond.code yX1_pushFrom cX1_pushFrom 3 none, Cond.fieldLink RX1 68 "CrashDesk$Car" "after" "LCrashDesk$Speed;", Cond.methodLink RX1 71 yX1_meet, Cond.instanceMethod yX1_meet, Cond.selects RX1 yX1_meet yX1_meet, Cond.code yX1_meet cX1_meet 13 none, Cond.methodLink RX1 75 Lib.Math.max.name, Cond.static Lib.Math.max.name]
def wsL_span_r8 : List Cond := [Cond.code Lib.Math.max.name Lib.Math.max.code 2 (some .int), Cond.methodLink RX1 80 Lib.Math.min.name, Cond.methodLink RX1 97 yX3_see, Cond.instanceMethod yX3_see, Cond.selects RX3 yX3_see yX3_see, Cond.code yX3_see cX3_see 2 none, Cond.methodLink RX1 100 yX0_firstCount, Cond.instanceMethod yX0_firstCount, Cond.selects RX0 yX0_firstCount yX0_firstCount, Cond.code yX0_firstCount cX0_firstCount 2 (some .int), Cond.methodLink RX1 104 yX3_priceOf, Cond.methodLink RX1 65 yX0_seeFirsts, Cond.instanceMethod yX0_seeFirsts, Cond.selects RX0 yX0_seeFirsts yX0_seeFirsts, Cond.code yX0_seeFirsts cX0_seeFirsts 3 none, Cond.fieldLink RX0 80 "CrashDesk$Speed" "bottom" "I", Cond.fieldLink RX0 83 "CrashDesk$Speed" "top" "I", Cond.methodLink RX0 92 yX3_isSeen, Cond.instanceMethod yX3_isSeen, Cond.selects RX3 yX3_isSeen yX3_isSeen, Cond.code yX3_isSeen cX3_isSeen 2 (some .boolean), Cond.methodLink RX0 103 yX3_see, Cond.methodLink RX5 129 yX5_testWay, Cond.instanceMethod yX5_testWay]
def wsL_span_r9 : List Cond := [Cond.selects RX5 yX5_testWay yX5_testWay, Cond.code yX5_testWay cX5_testWay 1 none, Cond.classLink RX5 149 "java/util/NoSuchElementException", Cond.initialized "java/util/NoSuchElementException", Cond.fieldLink RX5 121 "CrashDesk$Meeting" "wayCount" "J", Cond.methodLink RX5 132 yX3_greatestSeen, Cond.instanceMethod yX3_greatestSeen, Cond.selects RX3 yX3_greatestSeen yX3_greatestSeen, Cond.code yX3_greatestSeen cX3_greatestSeen 2 (some .int), Cond.methodLink RX3 54 yX3_isSeen, Cond.methodLink RX5 135 yX3_leastSeen, Cond.instanceMethod yX3_leastSeen, Cond.selects RX3 yX3_leastSeen yX3_leastSeen, Cond.code yX3_leastSeen cX3_leastSeen 2 (some .int)]
def wsL_span : List Cond := .codeWith yL_span cL_span 7 (some .int) [(0, 14, 17, 13), (0, 14, 21, 39)] :: ((wsL_span_r1 ++ (wsL_span_r2 ++ (wsL_span_r3 ++ (wsL_span_r4 ++ (wsL_span_r5 ++ (wsL_span_r6 ++ (wsL_span_r7 ++ (wsL_span_r8 ++ wsL_span_r9)))))))) ++ wsX50 ++ wsX10 ++ wsX00 ++ wsX40 ++ wsX20 ++ wsX30 ++ (vx_atS RX5 168 "java/lang/IndexOutOfBoundsException" ["java/lang/RuntimeException", "java/lang/Exception"]).filter goodWord ++ (vx_atS RX5 153 "java/util/NoSuchElementException" ["java/lang/RuntimeException", "java/lang/Exception"]).filter goodWord)
def wsL_avoided_r1 : List Cond := [Cond.classLink RL 13 "java/lang/IndexOutOfBoundsException", Cond.classLink RL 15 "java/lang/IllegalArgumentException", Cond.classLink RL 39 "java/util/NoSuchElementException", Cond.methodLink RL 41 yX5_avoided, Cond.instanceMethod yX5_avoided, Cond.selects RX5 yX5_avoided yX5_avoided, Cond.initialized RX5, Cond.code yX5_avoided cX5_avoided 9 (some .int), Cond.fieldLink RX5 141 "CrashDesk$Car" "first" "LCrashDesk$Speed;", Cond.methodLink RX5 47 yX5_carOf, Cond.instanceMethod yX5_carOf, Cond.selects RX5 yX5_carOf yX5_carOf, Cond.code yX5_carOf cX5_carOf 2 (some (.object "CrashDesk$Car")), Cond.fieldLink RX5 31 "CrashDesk" "meeting" "LCrashDesk$Meeting;", Cond.methodLink RX5 60 yX5_testCar, Cond.static yX5_testCar, Cond.code yX5_testCar cX5_testCar 1 none, Cond.classLink RX5 164 "java/lang/IndexOutOfBoundsException", Cond.initialized "java/lang/IndexOutOfBoundsException", Cond.methodLink RX5 180 yX1_pick, Cond.instanceMethod yX1_pick, Cond.selects RX1 yX1_pick yX1_pick, Cond.initialized RX1, Cond.code yX1_pick cX1_pick 2 (some (.object "CrashDesk$Car"))]
def wsL_avoided_r2 : List Cond := [Cond.fieldLink RX1 12 "CrashDesk$Meeting" "zero" "LCrashDesk$Car;", Cond.fieldLink RX1 18 "CrashDesk$Meeting" "one" "LCrashDesk$Car;", Cond.methodLink RX5 51 yX5_testNumber, Cond.static yX5_testNumber, Cond.code yX5_testNumber cX5_testNumber 3 none, Cond.classLink RX5 171 "java/lang/IllegalArgumentException", Cond.initialized "java/lang/IllegalArgumentException", Cond.methodLink RX5 118 yX5_reckon, Cond.instanceMethod yX5_reckon, Cond.selects RX5 yX5_reckon yX5_reckon, Cond.code yX5_reckon cX5_reckon 7 none, Cond.fieldLink RX5 35 "CrashDesk" "reckoned" "Z", Cond.fieldLink RX5 39 "CrashDesk" "reckonedTales" "I", Cond.fieldLink RX5 42 "CrashDesk" "reckonedWithout" "I", Cond.fieldLink RX5 157 "CrashDesk$Meeting" "zero" "LCrashDesk$Car;", Cond.fieldLink RX5 161 "CrashDesk$Meeting" "one" "LCrashDesk$Car;", Cond.fieldLink RX5 25 "CrashDesk" "taleCount" "I", Cond.fieldLink RX5 17 "CrashDesk" "tales" "[LCrashDesk$Tale;", Cond.fieldLink RX5 112 "CrashDesk$Tale" "car" "I", Cond.fieldLink RX5 113 "CrashDesk$Tale" "speed" "I", Cond.fieldLink RX5 21 "CrashDesk" "skidCount" "I", Cond.fieldLink RX5 11 "CrashDesk" "skids" "[LCrashDesk$Skid;", Cond.fieldLink RX5 87 "CrashDesk$Skid" "counts" "Z", Cond.fieldLink RX5 75 "CrashDesk$Skid" "car" "I"]
def wsL_avoided_r3 : List Cond := [Cond.methodLink RX5 188 yX0_clear, Cond.instanceMethod yX0_clear, Cond.selects RX0 yX0_clear yX0_clear, Cond.initialized RX0, Cond.code yX0_clear cX0_clear 1 none, Cond.fieldLink RX0 18 "CrashDesk$Car" "first" "LCrashDesk$Speed;", Cond.fieldLink RX0 22 "CrashDesk$Car" "at" "LCrashDesk$Speed;", Cond.fieldLink RX0 25 "CrashDesk$Car" "after" "LCrashDesk$Speed;", Cond.fieldLink RX0 32 "CrashDesk$Car" "aheadLeast" "I", Cond.fieldLink RX0 35 "CrashDesk$Car" "aheadGreatest" "I", Cond.fieldLink RX0 38 "CrashDesk$Car" "behindLeast" "I", Cond.fieldLink RX0 41 "CrashDesk$Car" "behindGreatest" "I", Cond.fieldLink RX0 44 "CrashDesk$Car" "skidsBehind" "Z", Cond.methodLink RX0 48 yX3_clear, Cond.instanceMethod yX3_clear, Cond.selects RX3 yX3_clear yX3_clear, Cond.initialized RX3, Cond.code yX3_clear cX3_clear 2 none, Cond.fieldLink RX3 9 "CrashDesk$Speed" "low" "I", Cond.fieldLink RX3 15 "CrashDesk$Speed" "high" "I", Cond.fieldLink RX3 28 "CrashDesk$Speed" "seen" "[Z", Cond.methodLink RX3 32 yX3_setPrice, Cond.instanceMethod yX3_setPrice, Cond.selects RX3 yX3_setPrice yX3_setPrice]
def wsL_avoided_r4 : List Cond := [Cond.code yX3_setPrice cX3_setPrice 3 none, Cond.fieldLink RX3 24 "CrashDesk$Speed" "prices" "[I", Cond.methodLink RX5 183 yX0_pick, Cond.instanceMethod yX0_pick, Cond.selects RX0 yX0_pick yX0_pick, Cond.code yX0_pick cX0_pick 2 (some (.object "CrashDesk$Speed")), Cond.methodLink RX5 191 yX3_hear, Cond.instanceMethod yX3_hear, Cond.selects RX3 yX3_hear yX3_hear, Cond.code yX3_hear cX3_hear 5 none, Cond.fieldLink RX3 36 "CrashDesk$Tale" "low" "I", Cond.fieldLink RX3 39 "CrashDesk$Tale" "high" "I", Cond.methodLink RX3 40 yX3_isOpen, Cond.instanceMethod yX3_isOpen, Cond.selects RX3 yX3_isOpen yX3_isOpen, Cond.code yX3_isOpen cX3_isOpen 2 (some .boolean), Cond.methodLink RX3 44 yX3_priceOf, Cond.instanceMethod yX3_priceOf, Cond.selects RX3 yX3_priceOf yX3_priceOf, Cond.code yX3_priceOf cX3_priceOf 2 (some .int), Cond.methodLink RX5 195 yX0_add, Cond.instanceMethod yX0_add, Cond.selects RX0 yX0_add yX0_add, Cond.code yX0_add cX0_add 2 none]
def wsL_avoided_r5 : List Cond := [Cond.fieldLink RX0 51 "CrashDesk$Skid" "behind" "Z", Cond.fieldLink RX0 56 "CrashDesk$Skid" "least" "I", Cond.fieldLink RX0 59 "CrashDesk$Skid" "greatest" "I", Cond.methodLink RX5 199 yX1_reckon, Cond.instanceMethod yX1_reckon, Cond.selects RX1 yX1_reckon yX1_reckon, Cond.code yX1_reckon cX1_reckon 2 none, Cond.fieldLink RX1 21 "CrashDesk$Meeting" "wayCount" "J", Cond.fieldLink RX1 25 "CrashDesk$Meeting" "cheapest" "I", Cond.fieldLink RX1 35 "CrashDesk$Car" "mass" "I", Cond.fieldLink RX1 29 "CrashDesk$Meeting" "loss" "I", Cond.fieldLink RX1 32 "CrashDesk$Meeting" "gain" "I", Cond.fieldLink RX1 45 "CrashDesk$Car" "at" "LCrashDesk$Speed;", Cond.fieldLink RX1 49 "CrashDesk$Speed" "bottom" "I", Cond.fieldLink RX1 54 "CrashDesk$Speed" "top" "I", Cond.methodLink RX1 38 yX1_lowestShare, Cond.static yX1_lowestShare, Cond.code yX1_lowestShare cX1_lowestShare 3 (some .int), Cond.methodLink RX1 42 yX0_settle, Cond.instanceMethod yX0_settle, Cond.selects RX0 yX0_settle yX0_settle, Cond.code yX0_settle cX0_settle 2 none, Cond.methodLink RX0 62 yX0_isTakenBehind, Cond.instanceMethod yX0_isTakenBehind]
def wsL_avoided_r6 : List Cond := [Cond.selects RX0 yX0_isTakenBehind yX0_isTakenBehind, Cond.code yX0_isTakenBehind cX0_isTakenBehind 3 (some .boolean), Cond.methodLink RX0 66 yX3_setPrice, Cond.methodLink RX0 70 yX3_isOpen, Cond.methodLink RX0 73 yX0_joinFirsts, Cond.instanceMethod yX0_joinFirsts, Cond.selects RX0 yX0_joinFirsts yX0_joinFirsts, Cond.code yX0_joinFirsts cX0_joinFirsts 6 none, Cond.methodLink RX0 86 Lib.Math.abs.name, Cond.static Lib.Math.abs.name, Cond.initialized "java/lang/Math", Cond.code Lib.Math.abs.name Lib.Math.abs.code 1 (some .int), Cond.fieldLink RX0 28 "CrashDesk$Car" "firstCounts" "[I", Cond.methodLink RX0 95 yX0_isTakenAhead, Cond.instanceMethod yX0_isTakenAhead, Cond.selects RX0 yX0_isTakenAhead yX0_isTakenAhead, Cond.code yX0_isTakenAhead cX0_isTakenAhead 4 (some .boolean), Cond.methodLink RX0 99 yX0_firstFor, Cond.static yX0_firstFor, Cond.code yX0_firstFor cX0_firstFor 2 (some .int), Cond.methodLink RX0 106 yX3_priceOf, Cond.static yX5_cheaper, Cond.code yX5_cheaper cX5_cheaper 2 (some .int), Cond.methodLink RX0 77 yX3_bound]
def wsL_avoided_r7 : List Cond := [Cond.instanceMethod yX3_bound, Cond.selects RX3 yX3_bound yX3_bound, Cond.code yX3_bound cX3_bound 2 none, Cond.fieldLink RX3 18 "CrashDesk$Speed" "bottom" "I", Cond.fieldLink RX3 21 "CrashDesk$Speed" "top" "I", Cond.methodLink RX3 48 Lib.Math.min.name, Cond.static Lib.Math.min.name, Cond.code Lib.Math.min.name Lib.Math.min.code 2 (some .int), Cond.methodLink RX1 57 yX3_isOpen, Cond.methodLink RX1 61 yX1_pushFrom, Cond.instanceMethod yX1_pushFrom, Cond.selects RX1 yX1_pushFrom yX1_pushFrom, Cond.code yX1_pushFrom cX1_pushFrom 3 none, Cond.fieldLink RX1 68 "CrashDesk$Car" "after" "LCrashDesk$Speed;", Cond.methodLink RX1 71 yX1_meet, Cond.instanceMethod yX1_meet, Cond.selects RX1 yX1_meet yX1_meet, Cond.code yX1_meet cX1_meet 13 none, Cond.methodLink RX1 75 Lib.Math.max.name, Cond.static Lib.Math.max.name, Cond.code Lib.Math.max.name Lib.Math.max.code 2 (some .int), Cond.methodLink RX1 80 Lib.Math.min.name, Cond.methodLink RX1 97 yX3_see, Cond.instanceMethod yX3_see]
def wsL_avoided_r8 : List Cond := [Cond.selects RX3 yX3_see yX3_see, Cond.code yX3_see cX3_see 2 none, Cond.methodLink RX1 100 yX0_firstCount, Cond.instanceMethod yX0_firstCount, Cond.selects RX0 yX0_firstCount yX0_firstCount, Cond.code yX0_firstCount cX0_firstCount 2 (some .int), Cond.methodLink RX1 104 yX3_priceOf, Cond.methodLink RX1 65 yX0_seeFirsts, Cond.instanceMethod yX0_seeFirsts, Cond.selects RX0 yX0_seeFirsts yX0_seeFirsts, Cond.code yX0_seeFirsts cX0_seeFirsts 3 none, Cond.fieldLink RX0 80 "CrashDesk$Speed" "bottom" "I", Cond.fieldLink RX0 83 "CrashDesk$Speed" "top" "I", Cond.methodLink RX0 92 yX3_isSeen, Cond.instanceMethod yX3_isSeen, Cond.selects RX3 yX3_isSeen yX3_isSeen, Cond.code yX3_isSeen cX3_isSeen 2 (some .boolean), Cond.methodLink RX0 103 yX3_see, Cond.methodLink RX5 129 yX5_testWay, Cond.instanceMethod yX5_testWay, Cond.selects RX5 yX5_testWay yX5_testWay, Cond.code yX5_testWay cX5_testWay 1 none, Cond.classLink RX5 149 "java/util/NoSuchElementException", Cond.initialized "java/util/NoSuchElementException"]
def wsL_avoided_r9 : List Cond := [Cond.fieldLink RX5 121 "CrashDesk$Meeting" "wayCount" "J", Cond.methodLink RX5 145 yX3_isSeen]
def wsL_avoided : List Cond := .codeWith yL_avoided cL_avoided 6 (some .int) [(0, 12, 15, 13), (0, 12, 19, 15), (0, 12, 23, 39)] :: ((wsL_avoided_r1 ++ (wsL_avoided_r2 ++ (wsL_avoided_r3 ++ (wsL_avoided_r4 ++ (wsL_avoided_r5 ++ (wsL_avoided_r6 ++ (wsL_avoided_r7 ++ (wsL_avoided_r8 ++ wsL_avoided_r9)))))))) ++ wsX00 ++ wsX50 ++ wsX10 ++ wsX40 ++ wsX20 ++ wsX30 ++ (vx_atS RX5 168 "java/lang/IndexOutOfBoundsException" ["java/lang/RuntimeException", "java/lang/Exception"]).filter goodWord ++ (vx_atS RX5 175 "java/lang/IllegalArgumentException" ["java/lang/RuntimeException", "java/lang/Exception"]).filter goodWord ++ (vx_atS RX5 153 "java/util/NoSuchElementException" ["java/lang/RuntimeException", "java/lang/Exception"]).filter goodWord)
def wsL_look : List Cond := .codeWith yL_look cL_look 5 (some .int) [(0, 10, 13, 13), (0, 10, 17, 39)] :: ([.classLink RL 13 "java/lang/IndexOutOfBoundsException", .classLink RL 39 "java/util/NoSuchElementException", .methodLink RL 45 yX5_look, .instanceMethod yX5_look, .selects RX5 yX5_look yX5_look, .initialized RX5, .code yX5_look cX5_look 4 (some .int), .classLink RX5 149 "java/util/NoSuchElementException", .initialized "java/util/NoSuchElementException", .fieldLink RX5 75 "CrashDesk$Skid" "car" "I", .fieldLink RX5 78 "CrashDesk$Skid" "behind" "Z", .fieldLink RX5 81 "CrashDesk$Skid" "least" "I", .fieldLink RX5 84 "CrashDesk$Skid" "greatest" "I", .fieldLink RX5 87 "CrashDesk$Skid" "counts" "Z", .methodLink RX5 90 yX5_skidOf, .instanceMethod yX5_skidOf, .selects RX5 yX5_skidOf yX5_skidOf, .code yX5_skidOf cX5_skidOf 2 (some (.object "CrashDesk$Skid")), .classLink RX5 164 "java/lang/IndexOutOfBoundsException", .initialized "java/lang/IndexOutOfBoundsException", .fieldLink RX5 21 "CrashDesk" "skidCount" "I", .fieldLink RX5 11 "CrashDesk" "skids" "[LCrashDesk$Skid;"] ++ wsX20 ++ wsX50 ++ (vx_atS RX5 153 "java/util/NoSuchElementException" ["java/lang/RuntimeException", "java/lang/Exception"]).filter goodWord ++ (vx_atS RX5 168 "java/lang/IndexOutOfBoundsException" ["java/lang/RuntimeException", "java/lang/Exception"]).filter goodWord)
def wsL_can_r1 : List Cond := [Cond.classLink RL 13 "java/lang/IndexOutOfBoundsException", Cond.methodLink RL 49 yX5_can, Cond.instanceMethod yX5_can, Cond.selects RX5 yX5_can yX5_can, Cond.initialized RX5, Cond.code yX5_can cX5_can 5 (some .boolean), Cond.methodLink RX5 94 yX5_speedOf, Cond.instanceMethod yX5_speedOf, Cond.selects RX5 yX5_speedOf yX5_speedOf, Cond.code yX5_speedOf cX5_speedOf 3 (some (.object "CrashDesk$Speed")), Cond.methodLink RX5 106 yX5_testSpeed, Cond.static yX5_testSpeed, Cond.code yX5_testSpeed cX5_testSpeed 2 none, Cond.classLink RX5 164 "java/lang/IndexOutOfBoundsException", Cond.initialized "java/lang/IndexOutOfBoundsException", Cond.methodLink RX5 60 yX5_testCar, Cond.static yX5_testCar, Cond.code yX5_testCar cX5_testCar 1 none, Cond.methodLink RX5 47 yX5_carOf, Cond.instanceMethod yX5_carOf, Cond.selects RX5 yX5_carOf yX5_carOf, Cond.code yX5_carOf cX5_carOf 2 (some (.object "CrashDesk$Car")), Cond.fieldLink RX5 31 "CrashDesk" "meeting" "LCrashDesk$Meeting;", Cond.methodLink RX5 180 yX1_pick]
def wsL_can_r2 : List Cond := [Cond.instanceMethod yX1_pick, Cond.selects RX1 yX1_pick yX1_pick, Cond.initialized RX1, Cond.code yX1_pick cX1_pick 2 (some (.object "CrashDesk$Car")), Cond.fieldLink RX1 12 "CrashDesk$Meeting" "zero" "LCrashDesk$Car;", Cond.fieldLink RX1 18 "CrashDesk$Meeting" "one" "LCrashDesk$Car;", Cond.methodLink RX5 183 yX0_pick, Cond.instanceMethod yX0_pick, Cond.selects RX0 yX0_pick yX0_pick, Cond.initialized RX0, Cond.code yX0_pick cX0_pick 2 (some (.object "CrashDesk$Speed")), Cond.fieldLink RX0 18 "CrashDesk$Car" "first" "LCrashDesk$Speed;", Cond.fieldLink RX0 22 "CrashDesk$Car" "at" "LCrashDesk$Speed;", Cond.fieldLink RX0 25 "CrashDesk$Car" "after" "LCrashDesk$Speed;", Cond.methodLink RX5 118 yX5_reckon, Cond.instanceMethod yX5_reckon, Cond.selects RX5 yX5_reckon yX5_reckon, Cond.code yX5_reckon cX5_reckon 7 none, Cond.fieldLink RX5 35 "CrashDesk" "reckoned" "Z", Cond.fieldLink RX5 39 "CrashDesk" "reckonedTales" "I", Cond.fieldLink RX5 42 "CrashDesk" "reckonedWithout" "I", Cond.fieldLink RX5 157 "CrashDesk$Meeting" "zero" "LCrashDesk$Car;", Cond.fieldLink RX5 161 "CrashDesk$Meeting" "one" "LCrashDesk$Car;", Cond.fieldLink RX5 25 "CrashDesk" "taleCount" "I"]
def wsL_can_r3 : List Cond := [Cond.fieldLink RX5 17 "CrashDesk" "tales" "[LCrashDesk$Tale;", Cond.fieldLink RX5 112 "CrashDesk$Tale" "car" "I", Cond.fieldLink RX5 113 "CrashDesk$Tale" "speed" "I", Cond.fieldLink RX5 21 "CrashDesk" "skidCount" "I", Cond.fieldLink RX5 11 "CrashDesk" "skids" "[LCrashDesk$Skid;", Cond.fieldLink RX5 87 "CrashDesk$Skid" "counts" "Z", Cond.fieldLink RX5 75 "CrashDesk$Skid" "car" "I", Cond.methodLink RX5 188 yX0_clear, Cond.instanceMethod yX0_clear, Cond.selects RX0 yX0_clear yX0_clear, Cond.code yX0_clear cX0_clear 1 none, Cond.fieldLink RX0 32 "CrashDesk$Car" "aheadLeast" "I", Cond.fieldLink RX0 35 "CrashDesk$Car" "aheadGreatest" "I", Cond.fieldLink RX0 38 "CrashDesk$Car" "behindLeast" "I", Cond.fieldLink RX0 41 "CrashDesk$Car" "behindGreatest" "I", Cond.fieldLink RX0 44 "CrashDesk$Car" "skidsBehind" "Z", Cond.methodLink RX0 48 yX3_clear, Cond.instanceMethod yX3_clear, Cond.selects RX3 yX3_clear yX3_clear, Cond.initialized RX3, Cond.code yX3_clear cX3_clear 2 none, Cond.fieldLink RX3 9 "CrashDesk$Speed" "low" "I", Cond.fieldLink RX3 15 "CrashDesk$Speed" "high" "I", Cond.fieldLink RX3 28 "CrashDesk$Speed" "seen" "[Z"]
def wsL_can_r4 : List Cond := [Cond.methodLink RX3 32 yX3_setPrice, Cond.instanceMethod yX3_setPrice, Cond.selects RX3 yX3_setPrice yX3_setPrice, Cond.code yX3_setPrice cX3_setPrice 3 none, Cond.fieldLink RX3 24 "CrashDesk$Speed" "prices" "[I", Cond.methodLink RX5 191 yX3_hear, Cond.instanceMethod yX3_hear, Cond.selects RX3 yX3_hear yX3_hear, Cond.code yX3_hear cX3_hear 5 none, Cond.fieldLink RX3 36 "CrashDesk$Tale" "low" "I", Cond.fieldLink RX3 39 "CrashDesk$Tale" "high" "I", Cond.methodLink RX3 40 yX3_isOpen, Cond.instanceMethod yX3_isOpen, Cond.selects RX3 yX3_isOpen yX3_isOpen, Cond.code yX3_isOpen cX3_isOpen 2 (some .boolean), Cond.methodLink RX3 44 yX3_priceOf, Cond.instanceMethod yX3_priceOf, Cond.selects RX3 yX3_priceOf yX3_priceOf, Cond.code yX3_priceOf cX3_priceOf 2 (some .int), Cond.methodLink RX5 195 yX0_add, Cond.instanceMethod yX0_add, Cond.selects RX0 yX0_add yX0_add, Cond.code yX0_add cX0_add 2 none, Cond.fieldLink RX0 51 "CrashDesk$Skid" "behind" "Z"]
def wsL_can_r5 : List Cond := [Cond.fieldLink RX0 56 "CrashDesk$Skid" "least" "I", Cond.fieldLink RX0 59 "CrashDesk$Skid" "greatest" "I", Cond.methodLink RX5 199 yX1_reckon, Cond.instanceMethod yX1_reckon, Cond.selects RX1 yX1_reckon yX1_reckon, Cond.code yX1_reckon cX1_reckon 2 none, Cond.fieldLink RX1 21 "CrashDesk$Meeting" "wayCount" "J", Cond.fieldLink RX1 25 "CrashDesk$Meeting" "cheapest" "I", Cond.fieldLink RX1 35 "CrashDesk$Car" "mass" "I", Cond.fieldLink RX1 29 "CrashDesk$Meeting" "loss" "I", Cond.fieldLink RX1 32 "CrashDesk$Meeting" "gain" "I", Cond.fieldLink RX1 45 "CrashDesk$Car" "at" "LCrashDesk$Speed;", Cond.fieldLink RX1 49 "CrashDesk$Speed" "bottom" "I", Cond.fieldLink RX1 54 "CrashDesk$Speed" "top" "I", Cond.methodLink RX1 38 yX1_lowestShare, Cond.static yX1_lowestShare, Cond.code yX1_lowestShare cX1_lowestShare 3 (some .int), Cond.methodLink RX1 42 yX0_settle, Cond.instanceMethod yX0_settle, Cond.selects RX0 yX0_settle yX0_settle, Cond.code yX0_settle cX0_settle 2 none, Cond.methodLink RX0 62 yX0_isTakenBehind, Cond.instanceMethod yX0_isTakenBehind, Cond.selects RX0 yX0_isTakenBehind yX0_isTakenBehind]
def wsL_can_r6 : List Cond := [Cond.code yX0_isTakenBehind cX0_isTakenBehind 3 (some .boolean), Cond.methodLink RX0 66 yX3_setPrice, Cond.methodLink RX0 70 yX3_isOpen, Cond.methodLink RX0 73 yX0_joinFirsts, Cond.instanceMethod yX0_joinFirsts, Cond.selects RX0 yX0_joinFirsts yX0_joinFirsts, Cond.code yX0_joinFirsts cX0_joinFirsts 6 none, Cond.methodLink RX0 86 Lib.Math.abs.name, Cond.static Lib.Math.abs.name, Cond.initialized "java/lang/Math", Cond.code Lib.Math.abs.name Lib.Math.abs.code 1 (some .int), Cond.fieldLink RX0 28 "CrashDesk$Car" "firstCounts" "[I", Cond.methodLink RX0 95 yX0_isTakenAhead, Cond.instanceMethod yX0_isTakenAhead, Cond.selects RX0 yX0_isTakenAhead yX0_isTakenAhead, Cond.code yX0_isTakenAhead cX0_isTakenAhead 4 (some .boolean), Cond.methodLink RX0 99 yX0_firstFor, Cond.static yX0_firstFor, Cond.code yX0_firstFor cX0_firstFor 2 (some .int), Cond.methodLink RX0 106 yX3_priceOf, Cond.static yX5_cheaper, Cond.code yX5_cheaper cX5_cheaper 2 (some .int), Cond.methodLink RX0 77 yX3_bound, Cond.instanceMethod yX3_bound]
def wsL_can_r7 : List Cond := [Cond.selects RX3 yX3_bound yX3_bound, Cond.code yX3_bound cX3_bound 2 none, Cond.fieldLink RX3 18 "CrashDesk$Speed" "bottom" "I", Cond.fieldLink RX3 21 "CrashDesk$Speed" "top" "I", Cond.methodLink RX3 48 Lib.Math.min.name, Cond.static Lib.Math.min.name, Cond.code Lib.Math.min.name Lib.Math.min.code 2 (some .int), Cond.methodLink RX1 57 yX3_isOpen, Cond.methodLink RX1 61 yX1_pushFrom, Cond.instanceMethod yX1_pushFrom, Cond.selects RX1 yX1_pushFrom yX1_pushFrom, Cond.code yX1_pushFrom cX1_pushFrom 3 none, Cond.fieldLink RX1 68 "CrashDesk$Car" "after" "LCrashDesk$Speed;", Cond.methodLink RX1 71 yX1_meet, Cond.instanceMethod yX1_meet, Cond.selects RX1 yX1_meet yX1_meet, Cond.code yX1_meet cX1_meet 13 none, Cond.methodLink RX1 75 Lib.Math.max.name, Cond.static Lib.Math.max.name, Cond.code Lib.Math.max.name Lib.Math.max.code 2 (some .int), Cond.methodLink RX1 80 Lib.Math.min.name, Cond.methodLink RX1 97 yX3_see, Cond.instanceMethod yX3_see, Cond.selects RX3 yX3_see yX3_see]
def wsL_can_r8 : List Cond := [Cond.code yX3_see cX3_see 2 none, Cond.methodLink RX1 100 yX0_firstCount, Cond.instanceMethod yX0_firstCount, Cond.selects RX0 yX0_firstCount yX0_firstCount, Cond.code yX0_firstCount cX0_firstCount 2 (some .int), Cond.methodLink RX1 104 yX3_priceOf, Cond.methodLink RX1 65 yX0_seeFirsts, Cond.instanceMethod yX0_seeFirsts, Cond.selects RX0 yX0_seeFirsts yX0_seeFirsts, Cond.code yX0_seeFirsts cX0_seeFirsts 3 none, Cond.fieldLink RX0 80 "CrashDesk$Speed" "bottom" "I", Cond.fieldLink RX0 83 "CrashDesk$Speed" "top" "I", Cond.methodLink RX0 92 yX3_isSeen, Cond.instanceMethod yX3_isSeen, Cond.selects RX3 yX3_isSeen yX3_isSeen, Cond.code yX3_isSeen cX3_isSeen 2 (some .boolean), Cond.methodLink RX0 103 yX3_see, Cond.methodLink RX5 145 yX3_isSeen]
def wsL_can : List Cond := .codeWith yL_can cL_can 6 (some .int) [(0, 19, 22, 13)] :: ((wsL_can_r1 ++ (wsL_can_r2 ++ (wsL_can_r3 ++ (wsL_can_r4 ++ (wsL_can_r5 ++ (wsL_can_r6 ++ (wsL_can_r7 ++ wsL_can_r8))))))) ++ wsX50 ++ wsX10 ++ wsX00 ++ wsX40 ++ wsX20 ++ wsX30 ++ (vx_atS RX5 168 "java/lang/IndexOutOfBoundsException" ["java/lang/RuntimeException", "java/lang/Exception"]).filter goodWord)
def wsL_law0_r1 : List Cond := [Cond.classLink RL 8 RX5, Cond.instantiable RX5 8, Cond.initialized RX5, Cond.classLink RL 54 RX6, Cond.instantiable RX6 23, Cond.initialized RX6, Cond.arrayClass .long, Cond.methodLink RL 53 yX5_init, Cond.instanceMethod yX5_init, Cond.code yX5_init cX5_init 2 none, Cond.methodLink RX5 3 objectInit, Cond.instanceMethod objectInit, Cond.code objectInit ⟨#[0xb1]⟩ 1 none, Cond.classLink RX5 9 RX2, Cond.fieldLink RX5 11 "CrashDesk" "skids" "[LCrashDesk$Skid;", Cond.classLink RX5 15 RX4, Cond.fieldLink RX5 17 "CrashDesk" "tales" "[LCrashDesk$Tale;", Cond.fieldLink RX5 21 "CrashDesk" "skidCount" "I", Cond.fieldLink RX5 25 "CrashDesk" "taleCount" "I", Cond.classLink RX5 28 RX1, Cond.instantiable RX1 6, Cond.initialized RX1, Cond.fieldLink RX5 31 "CrashDesk" "meeting" "LCrashDesk$Meeting;", Cond.fieldLink RX5 35 "CrashDesk" "reckoned" "Z"]
def wsL_law0_r2 : List Cond := [Cond.fieldLink RX5 39 "CrashDesk" "reckonedTales" "I", Cond.fieldLink RX5 42 "CrashDesk" "reckonedWithout" "I", Cond.instantiable RX2 5, Cond.initialized RX2, Cond.instantiable RX4 4, Cond.initialized RX4, Cond.instanceMethod yX1_init, Cond.code yX1_init cX1_init 1 none, Cond.methodLink RX1 3 objectInit, Cond.classLink RX1 9 RX0, Cond.instantiable RX0 10, Cond.initialized RX0, Cond.fieldLink RX1 12 "CrashDesk$Meeting" "zero" "LCrashDesk$Car;", Cond.fieldLink RX1 18 "CrashDesk$Meeting" "one" "LCrashDesk$Car;", Cond.fieldLink RX1 21 "CrashDesk$Meeting" "wayCount" "J", Cond.fieldLink RX1 25 "CrashDesk$Meeting" "cheapest" "I", Cond.fieldLink RX1 29 "CrashDesk$Meeting" "loss" "I", Cond.fieldLink RX1 32 "CrashDesk$Meeting" "gain" "I", Cond.instanceMethod yX0_init, Cond.code yX0_init cX0_init 1 none, Cond.methodLink RX0 3 objectInit, Cond.fieldLink RX0 9 "CrashDesk$Car" "mass" "I", Cond.classLink RX0 15 RX3, Cond.instantiable RX3 6]
def wsL_law0_r3 : List Cond := [Cond.initialized RX3, Cond.fieldLink RX0 18 "CrashDesk$Car" "first" "LCrashDesk$Speed;", Cond.fieldLink RX0 22 "CrashDesk$Car" "at" "LCrashDesk$Speed;", Cond.fieldLink RX0 25 "CrashDesk$Car" "after" "LCrashDesk$Speed;", Cond.arrayClass .int, Cond.fieldLink RX0 28 "CrashDesk$Car" "firstCounts" "[I", Cond.fieldLink RX0 32 "CrashDesk$Car" "aheadLeast" "I", Cond.fieldLink RX0 35 "CrashDesk$Car" "aheadGreatest" "I", Cond.fieldLink RX0 38 "CrashDesk$Car" "behindLeast" "I", Cond.fieldLink RX0 41 "CrashDesk$Car" "behindGreatest" "I", Cond.fieldLink RX0 44 "CrashDesk$Car" "skidsBehind" "Z", Cond.instanceMethod yX3_init, Cond.code yX3_init cX3_init 1 none, Cond.methodLink RX3 3 objectInit, Cond.fieldLink RX3 9 "CrashDesk$Speed" "low" "I", Cond.fieldLink RX3 15 "CrashDesk$Speed" "high" "I", Cond.fieldLink RX3 18 "CrashDesk$Speed" "bottom" "I", Cond.fieldLink RX3 21 "CrashDesk$Speed" "top" "I", Cond.fieldLink RX3 24 "CrashDesk$Speed" "prices" "[I", Cond.arrayClass .boolean, Cond.fieldLink RX3 28 "CrashDesk$Speed" "seen" "[Z", Cond.instanceMethod yX2_init, Cond.code yX2_init cX2_init 1 none, Cond.methodLink RX2 1 objectInit]
def wsL_law0_r4 : List Cond := [Cond.fieldLink RX2 7 "CrashDesk$Skid" "car" "I", Cond.fieldLink RX2 13 "CrashDesk$Skid" "behind" "Z", Cond.fieldLink RX2 17 "CrashDesk$Skid" "least" "I", Cond.fieldLink RX2 20 "CrashDesk$Skid" "greatest" "I", Cond.fieldLink RX2 23 "CrashDesk$Skid" "counts" "Z", Cond.instanceMethod yX4_init, Cond.code yX4_init cX4_init 1 none, Cond.methodLink RX4 1 objectInit, Cond.fieldLink RX4 7 "CrashDesk$Tale" "car" "I", Cond.fieldLink RX4 13 "CrashDesk$Tale" "speed" "I", Cond.fieldLink RX4 16 "CrashDesk$Tale" "low" "I", Cond.fieldLink RX4 19 "CrashDesk$Tale" "high" "I", Cond.methodLink RL 56 yX6_init, Cond.instanceMethod yX6_init, Cond.code yX6_init cX6_init 1 none, Cond.methodLink RX6 1 objectInit, Cond.fieldLink RX6 7 "CrashDeskModel" "mass" "[I", Cond.fieldLink RX6 13 "CrashDeskModel" "sCar" "[I", Cond.fieldLink RX6 16 "CrashDeskModel" "sBehind" "[Z", Cond.fieldLink RX6 20 "CrashDeskModel" "sLeast" "[I", Cond.fieldLink RX6 23 "CrashDeskModel" "sMost" "[I", Cond.fieldLink RX6 26 "CrashDeskModel" "isDropped" "[Z", Cond.fieldLink RX6 29 "CrashDeskModel" "low" "[I", Cond.fieldLink RX6 32 "CrashDeskModel" "high" "[I"]
def wsL_law0_r5 : List Cond := [Cond.fieldLink RX6 35 "CrashDeskModel" "tRow" "[I", Cond.fieldLink RX6 38 "CrashDeskModel" "tLow" "[I", Cond.fieldLink RX6 41 "CrashDeskModel" "tHigh" "[I", Cond.fieldLink RX6 44 "CrashDeskModel" "isLet" "[Z", Cond.fieldLink RX6 47 "CrashDeskModel" "isThere" "[Z", Cond.fieldLink RX6 50 "CrashDeskModel" "firsts" "[I", Cond.fieldLink RX6 53 "CrashDeskModel" "isMask" "[Z", Cond.constant RX6 56 (206848), Cond.fieldLink RX6 57 "CrashDeskModel" "isMade" "[Z", Cond.fieldLink RX6 60 "CrashDeskModel" "made" "[I", Cond.fieldLink RX6 63 "CrashDeskModel" "mades" "[I", Cond.methodLink RL 57 yL_mass, Cond.static yL_mass, Cond.initialized RL, Cond.codeWith yL_mass cL_mass 4 (some .int) [(0, 6, 9, 13), (0, 6, 12, 15)], Cond.classLink RL 13 "java/lang/IndexOutOfBoundsException", Cond.classLink RL 15 "java/lang/IllegalArgumentException", Cond.methodLink RL 7 yX5_mass, Cond.instanceMethod yX5_mass, Cond.selects RX5 yX5_mass yX5_mass, Cond.code yX5_mass cX5_mass 4 none, Cond.fieldLink RX5 55 "CrashDesk$Car" "mass" "I", Cond.methodLink RX5 47 yX5_carOf, Cond.instanceMethod yX5_carOf]
def wsL_law0_r6 : List Cond := [Cond.selects RX5 yX5_carOf yX5_carOf, Cond.code yX5_carOf cX5_carOf 2 (some (.object "CrashDesk$Car")), Cond.methodLink RX5 60 yX5_testCar, Cond.static yX5_testCar, Cond.code yX5_testCar cX5_testCar 1 none, Cond.classLink RX5 164 "java/lang/IndexOutOfBoundsException", Cond.initialized "java/lang/IndexOutOfBoundsException", Cond.methodLink RX5 180 yX1_pick, Cond.instanceMethod yX1_pick, Cond.selects RX1 yX1_pick yX1_pick, Cond.code yX1_pick cX1_pick 2 (some (.object "CrashDesk$Car")), Cond.methodLink RX5 51 yX5_testNumber, Cond.static yX5_testNumber, Cond.code yX5_testNumber cX5_testNumber 3 none, Cond.classLink RX5 171 "java/lang/IllegalArgumentException", Cond.initialized "java/lang/IllegalArgumentException", Cond.methodLink RL 62 yX6_mass, Cond.instanceMethod yX6_mass, Cond.selects RX6 yX6_mass yX6_mass, Cond.code yX6_mass cX6_mass 3 none, Cond.fieldLink RX6 66 "CrashDeskModel" "thrown" "I", Cond.methodLink RX6 74 yX6_noCar, Cond.static yX6_noCar, Cond.code yX6_noCar cX6_noCar 1 (some .boolean)]
def wsL_law0_r7 : List Cond := [Cond.methodLink RX6 70 yX6_in, Cond.static yX6_in, Cond.code yX6_in cX6_in 3 (some .boolean), Cond.methodLink RX6 78 yX6_throwsIf, Cond.instanceMethod yX6_throwsIf, Cond.selects RX6 yX6_throwsIf yX6_throwsIf, Cond.code yX6_throwsIf cX6_throwsIf 3 (some .boolean), Cond.methodLink RL 63 yX6_thrown, Cond.instanceMethod yX6_thrown, Cond.selects RX6 yX6_thrown yX6_thrown, Cond.code yX6_thrown cX6_thrown 1 (some .int), Cond.methodLink RL 67 yL_skid, Cond.static yL_skid, Cond.codeWith yL_skid cL_skid 9 (some .int) [(0, 18, 21, 13), (0, 18, 25, 15), (0, 18, 29, 21)], Cond.classLink RL 21 "java/lang/UnsupportedOperationException", Cond.methodLink RL 17 yX5_skid, Cond.instanceMethod yX5_skid, Cond.selects RX5 yX5_skid yX5_skid, Cond.code yX5_skid cX5_skid 8 (some .int), Cond.classLink RX5 68 "java/lang/UnsupportedOperationException", Cond.initialized "java/lang/UnsupportedOperationException", Cond.fieldLink RX5 75 "CrashDesk$Skid" "car" "I", Cond.fieldLink RX5 78 "CrashDesk$Skid" "behind" "Z", Cond.fieldLink RX5 81 "CrashDesk$Skid" "least" "I"]
def wsL_law0_r8 : List Cond := [Cond.fieldLink RX5 84 "CrashDesk$Skid" "greatest" "I", Cond.fieldLink RX5 87 "CrashDesk$Skid" "counts" "Z", Cond.methodLink RX5 64 yX5_testSpan, Cond.static yX5_testSpan, Cond.code yX5_testSpan cX5_testSpan 4 none, Cond.methodLink RL 70 yX6_skid, Cond.instanceMethod yX6_skid, Cond.selects RX6 yX6_skid yX6_skid, Cond.code yX6_skid cX6_skid 7 (some .int), Cond.fieldLink RX6 82 "CrashDeskModel" "skids" "I", Cond.methodLink RL 71 yL_drop, Cond.static yL_drop, Cond.codeWith yL_drop cL_drop 5 (some .int) [(0, 17, 20, 13)], Cond.methodLink RL 23 yX5_drop, Cond.instanceMethod yX5_drop, Cond.selects RX5 yX5_drop yX5_drop, Cond.code yX5_drop cX5_drop 4 (some .boolean), Cond.methodLink RX5 90 yX5_skidOf, Cond.instanceMethod yX5_skidOf, Cond.selects RX5 yX5_skidOf yX5_skidOf, Cond.code yX5_skidOf cX5_skidOf 2 (some (.object "CrashDesk$Skid")), Cond.methodLink RL 74 yX6_drop, Cond.instanceMethod yX6_drop, Cond.selects RX6 yX6_drop yX6_drop]
def wsL_law0_r9 : List Cond := [Cond.code yX6_drop cX6_drop 4 (some .boolean), Cond.methodLink RL 75 yL_sure, Cond.static yL_sure, Cond.codeWith yL_sure cL_sure 6 (some .int) [(0, 9, 12, 13), (0, 9, 16, 15)], Cond.methodLink RL 27 yX5_sure, Cond.instanceMethod yX5_sure, Cond.selects RX5 yX5_sure yX5_sure, Cond.code yX5_sure cX5_sure 6 none, Cond.fieldLink RX5 98 "CrashDesk$Speed" "low" "I", Cond.fieldLink RX5 103 "CrashDesk$Speed" "high" "I", Cond.methodLink RX5 94 yX5_speedOf, Cond.instanceMethod yX5_speedOf, Cond.selects RX5 yX5_speedOf yX5_speedOf, Cond.code yX5_speedOf cX5_speedOf 3 (some (.object "CrashDesk$Speed")), Cond.methodLink RX5 106 yX5_testSpeed, Cond.static yX5_testSpeed, Cond.code yX5_testSpeed cX5_testSpeed 2 none, Cond.methodLink RX5 183 yX0_pick, Cond.instanceMethod yX0_pick, Cond.selects RX0 yX0_pick yX0_pick, Cond.code yX0_pick cX0_pick 2 (some (.object "CrashDesk$Speed")), Cond.methodLink RL 78 yX6_sure, Cond.instanceMethod yX6_sure, Cond.selects RX6 yX6_sure yX6_sure]
def wsL_law0_r10 : List Cond := [Cond.code yX6_sure cX6_sure 5 none, Cond.methodLink RX6 85 yX6_noSpeed, Cond.static yX6_noSpeed, Cond.code yX6_noSpeed cX6_noSpeed 2 (some .boolean), Cond.methodLink RX6 89 yX6_noSpan, Cond.static yX6_noSpan, Cond.code yX6_noSpan cX6_noSpan 2 (some .boolean), Cond.methodLink RL 79 yL_tale, Cond.static yL_tale, Cond.codeWith yL_tale cL_tale 7 (some .int) [(0, 14, 17, 13), (0, 14, 21, 15), (0, 14, 25, 21)], Cond.methodLink RL 31 yX5_tale, Cond.instanceMethod yX5_tale, Cond.selects RX5 yX5_tale yX5_tale, Cond.code yX5_tale cX5_tale 6 (some .int), Cond.fieldLink RX5 112 "CrashDesk$Tale" "car" "I", Cond.fieldLink RX5 113 "CrashDesk$Tale" "speed" "I", Cond.fieldLink RX5 116 "CrashDesk$Tale" "low" "I", Cond.fieldLink RX5 117 "CrashDesk$Tale" "high" "I", Cond.methodLink RL 82 yX6_tale, Cond.instanceMethod yX6_tale, Cond.selects RX6 yX6_tale yX6_tale, Cond.code yX6_tale cX6_tale 5 (some .int), Cond.fieldLink RX6 92 "CrashDeskModel" "tales" "I", Cond.methodLink RL 83 yX5_hush]
def wsL_law0_r11 : List Cond := [Cond.instanceMethod yX5_hush, Cond.selects RX5 yX5_hush yX5_hush, Cond.code yX5_hush cX5_hush 2 (some .int), Cond.methodLink RL 86 yX6_hush, Cond.instanceMethod yX6_hush, Cond.selects RX6 yX6_hush yX6_hush, Cond.code yX6_hush cX6_hush 2 (some .int), Cond.methodLink RL 87 yX5_ways, Cond.instanceMethod yX5_ways, Cond.selects RX5 yX5_ways yX5_ways, Cond.code yX5_ways cX5_ways 1 (some .long), Cond.fieldLink RX5 121 "CrashDesk$Meeting" "wayCount" "J", Cond.methodLink RX5 118 yX5_reckon, Cond.instanceMethod yX5_reckon, Cond.selects RX5 yX5_reckon yX5_reckon, Cond.code yX5_reckon cX5_reckon 7 none, Cond.fieldLink RX5 157 "CrashDesk$Meeting" "zero" "LCrashDesk$Car;", Cond.fieldLink RX5 161 "CrashDesk$Meeting" "one" "LCrashDesk$Car;", Cond.methodLink RX5 188 yX0_clear, Cond.instanceMethod yX0_clear, Cond.selects RX0 yX0_clear yX0_clear, Cond.code yX0_clear cX0_clear 1 none, Cond.methodLink RX0 48 yX3_clear, Cond.instanceMethod yX3_clear]
def wsL_law0_r12 : List Cond := [Cond.selects RX3 yX3_clear yX3_clear, Cond.code yX3_clear cX3_clear 2 none, Cond.methodLink RX3 32 yX3_setPrice, Cond.instanceMethod yX3_setPrice, Cond.selects RX3 yX3_setPrice yX3_setPrice, Cond.code yX3_setPrice cX3_setPrice 3 none, Cond.methodLink RX5 191 yX3_hear, Cond.instanceMethod yX3_hear, Cond.selects RX3 yX3_hear yX3_hear, Cond.code yX3_hear cX3_hear 5 none, Cond.fieldLink RX3 36 "CrashDesk$Tale" "low" "I", Cond.fieldLink RX3 39 "CrashDesk$Tale" "high" "I", Cond.methodLink RX3 40 yX3_isOpen, Cond.instanceMethod yX3_isOpen, Cond.selects RX3 yX3_isOpen yX3_isOpen, Cond.code yX3_isOpen cX3_isOpen 2 (some .boolean), Cond.methodLink RX3 44 yX3_priceOf, Cond.instanceMethod yX3_priceOf, Cond.selects RX3 yX3_priceOf yX3_priceOf, Cond.code yX3_priceOf cX3_priceOf 2 (some .int), Cond.methodLink RX5 195 yX0_add, Cond.instanceMethod yX0_add, Cond.selects RX0 yX0_add yX0_add, Cond.code yX0_add cX0_add 2 none]
def wsL_law0_r13 : List Cond := [Cond.fieldLink RX0 51 "CrashDesk$Skid" "behind" "Z", Cond.fieldLink RX0 56 "CrashDesk$Skid" "least" "I", Cond.fieldLink RX0 59 "CrashDesk$Skid" "greatest" "I", Cond.methodLink RX5 199 yX1_reckon, Cond.instanceMethod yX1_reckon, Cond.selects RX1 yX1_reckon yX1_reckon, Cond.code yX1_reckon cX1_reckon 2 none, Cond.fieldLink RX1 35 "CrashDesk$Car" "mass" "I", Cond.fieldLink RX1 45 "CrashDesk$Car" "at" "LCrashDesk$Speed;", Cond.fieldLink RX1 49 "CrashDesk$Speed" "bottom" "I", Cond.fieldLink RX1 54 "CrashDesk$Speed" "top" "I", Cond.methodLink RX1 38 yX1_lowestShare, Cond.static yX1_lowestShare, Cond.code yX1_lowestShare cX1_lowestShare 3 (some .int), Cond.methodLink RX1 42 yX0_settle, Cond.instanceMethod yX0_settle, Cond.selects RX0 yX0_settle yX0_settle, Cond.code yX0_settle cX0_settle 2 none, Cond.methodLink RX0 62 yX0_isTakenBehind, Cond.instanceMethod yX0_isTakenBehind, Cond.selects RX0 yX0_isTakenBehind yX0_isTakenBehind, Cond.code yX0_isTakenBehind cX0_isTakenBehind 3 (some .boolean), Cond.methodLink RX0 66 yX3_setPrice, Cond.methodLink RX0 70 yX3_isOpen]
def wsL_law0_r14 : List Cond := [Cond.methodLink RX0 73 yX0_joinFirsts, Cond.instanceMethod yX0_joinFirsts, Cond.selects RX0 yX0_joinFirsts yX0_joinFirsts, Cond.code yX0_joinFirsts cX0_joinFirsts 6 none, Cond.methodLink RX0 86 Lib.Math.abs.name, Cond.static Lib.Math.abs.name, Cond.initialized "java/lang/Math", Cond.code Lib.Math.abs.name Lib.Math.abs.code 1 (some .int), Cond.methodLink RX0 95 yX0_isTakenAhead, Cond.instanceMethod yX0_isTakenAhead, Cond.selects RX0 yX0_isTakenAhead yX0_isTakenAhead, Cond.code yX0_isTakenAhead cX0_isTakenAhead 4 (some .boolean), Cond.methodLink RX0 99 yX0_firstFor, Cond.static yX0_firstFor, Cond.code yX0_firstFor cX0_firstFor 2 (some .int), Cond.methodLink RX0 106 yX3_priceOf, Cond.static yX5_cheaper, Cond.code yX5_cheaper cX5_cheaper 2 (some .int), Cond.methodLink RX0 77 yX3_bound, Cond.instanceMethod yX3_bound, Cond.selects RX3 yX3_bound yX3_bound, Cond.code yX3_bound cX3_bound 2 none, Cond.methodLink RX3 48 Lib.Math.min.name, Cond.static Lib.Math.min.name]
def wsL_law0_r15 : List Cond := [Cond.code Lib.Math.min.name Lib.Math.min.code 2 (some .int), Cond.methodLink RX1 57 yX3_isOpen, Cond.methodLink RX1 61 yX1_pushFrom, Cond.instanceMethod yX1_pushFrom, Cond.selects RX1 yX1_pushFrom yX1_pushFrom, Cond.code yX1_pushFrom cX1_pushFrom 3 none, Cond.fieldLink RX1 68 "CrashDesk$Car" "after" "LCrashDesk$Speed;", Cond.methodLink RX1 71 yX1_meet, Cond.instanceMethod yX1_meet, Cond.selects RX1 yX1_meet yX1_meet, Cond.code yX1_meet cX1_meet 13 none, Cond.methodLink RX1 75 Lib.Math.max.name, Cond.static Lib.Math.max.name, Cond.code Lib.Math.max.name Lib.Math.max.code 2 (some .int), Cond.methodLink RX1 80 Lib.Math.min.name, Cond.methodLink RX1 97 yX3_see, Cond.instanceMethod yX3_see, Cond.selects RX3 yX3_see yX3_see, Cond.code yX3_see cX3_see 2 none, Cond.methodLink RX1 100 yX0_firstCount, Cond.instanceMethod yX0_firstCount, Cond.selects RX0 yX0_firstCount yX0_firstCount, Cond.code yX0_firstCount cX0_firstCount 2 (some .int), Cond.methodLink RX1 104 yX3_priceOf]
def wsL_law0_r16 : List Cond := [Cond.methodLink RX1 65 yX0_seeFirsts, Cond.instanceMethod yX0_seeFirsts, Cond.selects RX0 yX0_seeFirsts yX0_seeFirsts, Cond.code yX0_seeFirsts cX0_seeFirsts 3 none, Cond.fieldLink RX0 80 "CrashDesk$Speed" "bottom" "I", Cond.fieldLink RX0 83 "CrashDesk$Speed" "top" "I", Cond.methodLink RX0 92 yX3_isSeen, Cond.instanceMethod yX3_isSeen, Cond.selects RX3 yX3_isSeen yX3_isSeen, Cond.code yX3_isSeen cX3_isSeen 2 (some .boolean), Cond.methodLink RX0 103 yX3_see, Cond.methodLink RL 91 yX6_ways, Cond.instanceMethod yX6_ways, Cond.selects RX6 yX6_ways yX6_ways, Cond.code yX6_ways cX6_ways 2 (some .long), Cond.fieldLink RX6 117 "CrashDeskModel" "many" "J", Cond.methodLink RX6 132 yX6_goes, Cond.instanceMethod yX6_goes, Cond.selects RX6 yX6_goes yX6_goes, Cond.code yX6_goes cX6_goes 10 (some .boolean), Cond.fieldLink RX6 121 "CrashDeskModel" "wanted" "Z", Cond.methodLink RX6 110 yX6_lets, Cond.instanceMethod yX6_lets, Cond.selects RX6 yX6_lets yX6_lets]
def wsL_law0_r17 : List Cond := [Cond.code yX6_lets cX6_lets 4 none, Cond.methodLink RX6 95 yX6_cell, Cond.static yX6_cell, Cond.code yX6_cell cX6_cell 2 (some .int), Cond.methodLink RX6 99 yX6_falses, Cond.instanceMethod yX6_falses, Cond.selects RX6 yX6_falses yX6_falses, Cond.code yX6_falses cX6_falses 5 (some .int), Cond.methodLink RX6 114 yX6_counts, Cond.instanceMethod yX6_counts, Cond.selects RX6 yX6_counts yX6_counts, Cond.code yX6_counts cX6_counts 6 none, Cond.methodLink RX6 106 yX6_isFirst, Cond.instanceMethod yX6_isFirst, Cond.selects RX6 yX6_isFirst yX6_isFirst, Cond.code yX6_isFirst cX6_isFirst 6 (some .boolean), Cond.methodLink RX6 102 yX6_takes, Cond.instanceMethod yX6_takes, Cond.selects RX6 yX6_takes yX6_takes, Cond.code yX6_takes cX6_takes 9 (some .boolean), Cond.methodLink RX6 125 yX6_masks, Cond.instanceMethod yX6_masks, Cond.selects RX6 yX6_masks yX6_masks, Cond.code yX6_masks cX6_masks 8 none]
def wsL_law0_r18 : List Cond := [Cond.methodLink RL 92 yL_span, Cond.static yL_span, Cond.codeWith yL_span cL_span 7 (some .int) [(0, 14, 17, 13), (0, 14, 21, 39)], Cond.classLink RL 39 "java/util/NoSuchElementException", Cond.methodLink RL 35 yX5_span, Cond.instanceMethod yX5_span, Cond.selects RX5 yX5_span yX5_span, Cond.code yX5_span cX5_span 6 (some .int), Cond.methodLink RX5 125 yX5_allTales, Cond.instanceMethod yX5_allTales, Cond.selects RX5 yX5_allTales yX5_allTales, Cond.code yX5_allTales cX5_allTales 1 (some .int), Cond.methodLink RX5 129 yX5_testWay, Cond.instanceMethod yX5_testWay, Cond.selects RX5 yX5_testWay yX5_testWay, Cond.code yX5_testWay cX5_testWay 1 none, Cond.classLink RX5 149 "java/util/NoSuchElementException", Cond.initialized "java/util/NoSuchElementException", Cond.methodLink RX5 132 yX3_greatestSeen, Cond.instanceMethod yX3_greatestSeen, Cond.selects RX3 yX3_greatestSeen yX3_greatestSeen, Cond.code yX3_greatestSeen cX3_greatestSeen 2 (some .int), Cond.methodLink RX3 54 yX3_isSeen, Cond.methodLink RX5 135 yX3_leastSeen]
def wsL_law0_r19 : List Cond := [Cond.instanceMethod yX3_leastSeen, Cond.selects RX3 yX3_leastSeen yX3_leastSeen, Cond.code yX3_leastSeen cX3_leastSeen 2 (some .int), Cond.methodLink RL 95 yX6_span, Cond.instanceMethod yX6_span, Cond.selects RX6 yX6_span yX6_span, Cond.code yX6_span cX6_span 6 (some .int), Cond.methodLink RX6 141 yX6_all, Cond.instanceMethod yX6_all, Cond.selects RX6 yX6_all yX6_all, Cond.code yX6_all cX6_all 1 (some .int), Cond.methodLink RL 96 yX5_fit, Cond.instanceMethod yX5_fit, Cond.selects RX5 yX5_fit yX5_fit, Cond.code yX5_fit cX5_fit 2 (some .boolean), Cond.methodLink RL 100 yX6_fit, Cond.instanceMethod yX6_fit, Cond.selects RX6 yX6_fit yX6_fit, Cond.code yX6_fit cX6_fit 2 (some .boolean), Cond.methodLink RL 101 yX5_wrong, Cond.instanceMethod yX5_wrong, Cond.selects RX5 yX5_wrong yX5_wrong, Cond.code yX5_wrong cX5_wrong 1 (some .int), Cond.fieldLink RX5 138 "CrashDesk$Meeting" "cheapest" "I"]
def wsL_law0_r20 : List Cond := [Cond.methodLink RL 104 yX6_wrong, Cond.instanceMethod yX6_wrong, Cond.selects RX6 yX6_wrong yX6_wrong, Cond.code yX6_wrong cX6_wrong 2 (some .int), Cond.methodLink RX6 145 yX6_fewest, Cond.instanceMethod yX6_fewest, Cond.selects RX6 yX6_fewest yX6_fewest, Cond.code yX6_fewest cX6_fewest 4 (some .int), Cond.methodLink RX6 129 yX6_makes, Cond.instanceMethod yX6_makes, Cond.selects RX6 yX6_makes yX6_makes, Cond.code yX6_makes cX6_makes 6 none, Cond.methodLink RX6 135 yJ6_bitCount_0f7a4, Cond.static yJ6_bitCount_0f7a4, Cond.initialized RJ6, Cond.code yJ6_bitCount_0f7a4 cJ6_bitCount_0f7a4 1 (some .int), Cond.constant RJ6 265 (1431655765), Cond.constant RJ6 266 (858993459), Cond.constant RJ6 267 (252645135), Cond.methodLink RL 105 yX5_which, Cond.instanceMethod yX5_which, Cond.selects RX5 yX5_which yX5_which, Cond.code yX5_which cX5_which 1 (some .int), Cond.methodLink RL 108 yX6_which]
def wsL_law0_r21 : List Cond := [Cond.instanceMethod yX6_which, Cond.selects RX6 yX6_which yX6_which, Cond.code yX6_which cX6_which 1 (some .int), Cond.methodLink RL 109 yX5_odds, Cond.instanceMethod yX5_odds, Cond.selects RX5 yX5_odds yX5_odds, Cond.code yX5_odds cX5_odds 3 (some .int), Cond.methodLink RL 112 yX6_odds, Cond.instanceMethod yX6_odds, Cond.selects RX6 yX6_odds yX6_odds, Cond.code yX6_odds cX6_odds 3 (some .int), Cond.methodLink RL 113 yL_avoided, Cond.static yL_avoided, Cond.codeWith yL_avoided cL_avoided 6 (some .int) [(0, 12, 15, 13), (0, 12, 19, 15), (0, 12, 23, 39)], Cond.methodLink RL 41 yX5_avoided, Cond.instanceMethod yX5_avoided, Cond.selects RX5 yX5_avoided yX5_avoided, Cond.code yX5_avoided cX5_avoided 9 (some .int), Cond.fieldLink RX5 141 "CrashDesk$Car" "first" "LCrashDesk$Speed;", Cond.methodLink RX5 145 yX3_isSeen, Cond.methodLink RL 116 yX6_avoided, Cond.instanceMethod yX6_avoided, Cond.selects RX6 yX6_avoided yX6_avoided, Cond.code yX6_avoided cX6_avoided 8 (some .int)]
def wsL_law0_r22 : List Cond := [Cond.methodLink RL 117 yL_look, Cond.static yL_look, Cond.codeWith yL_look cL_look 5 (some .int) [(0, 10, 13, 13), (0, 10, 17, 39)], Cond.methodLink RL 45 yX5_look, Cond.instanceMethod yX5_look, Cond.selects RX5 yX5_look yX5_look, Cond.code yX5_look cX5_look 4 (some .int), Cond.methodLink RL 120 yX6_look, Cond.instanceMethod yX6_look, Cond.selects RX6 yX6_look yX6_look, Cond.code yX6_look cX6_look 3 (some .int), Cond.methodLink RL 121 yL_can, Cond.static yL_can, Cond.codeWith yL_can cL_can 6 (some .int) [(0, 19, 22, 13)], Cond.methodLink RL 49 yX5_can, Cond.instanceMethod yX5_can, Cond.selects RX5 yX5_can yX5_can, Cond.code yX5_can cX5_can 5 (some .boolean), Cond.methodLink RL 123 yX6_can, Cond.instanceMethod yX6_can, Cond.selects RX6 yX6_can yX6_can, Cond.code yX6_can cX6_can 4 (some .boolean), Cond.methodLink RL 124 yX5_count, Cond.instanceMethod yX5_count]
def wsL_law0_r23 : List Cond := [Cond.selects RX5 yX5_count yX5_count, Cond.code yX5_count cX5_count 2 (some .int), Cond.methodLink RX5 154 yX5_countingSkids, Cond.instanceMethod yX5_countingSkids, Cond.selects RX5 yX5_countingSkids yX5_countingSkids, Cond.code yX5_countingSkids cX5_countingSkids 3 (some .int), Cond.methodLink RL 128 yX6_count, Cond.instanceMethod yX6_count, Cond.selects RX6 yX6_count yX6_count, Cond.code yX6_count cX6_count 4 (some .int)]
def wsL_law0 : List Cond := (wsL_law0_r1 ++ (wsL_law0_r2 ++ (wsL_law0_r3 ++ (wsL_law0_r4 ++ (wsL_law0_r5 ++ (wsL_law0_r6 ++ (wsL_law0_r7 ++ (wsL_law0_r8 ++ (wsL_law0_r9 ++ (wsL_law0_r10 ++ (wsL_law0_r11 ++ (wsL_law0_r12 ++ (wsL_law0_r13 ++ (wsL_law0_r14 ++ (wsL_law0_r15 ++ (wsL_law0_r16 ++ (wsL_law0_r17 ++ (wsL_law0_r18 ++ (wsL_law0_r19 ++ (wsL_law0_r20 ++ (wsL_law0_r21 ++ (wsL_law0_r22 ++ wsL_law0_r23)))))))))))))))))))))) ++ wsX50 ++ wsX60 ++ wsX10 ++ wsX20 ++ wsX40 ++ wsX00 ++ wsX30 ++ ([] : List Cond)
def wsL_law : List Cond := wsL_law0 ++ (vx_atS RX5 168 "java/lang/IndexOutOfBoundsException" ["java/lang/RuntimeException", "java/lang/Exception"]).filter goodWord ++ (vx_atS RX5 175 "java/lang/IllegalArgumentException" ["java/lang/RuntimeException", "java/lang/Exception"]).filter goodWord ++ (vx_atS RX5 72 "java/lang/UnsupportedOperationException" ["java/lang/RuntimeException", "java/lang/Exception"]).filter goodWord ++ (vx_atS RX5 153 "java/util/NoSuchElementException" ["java/lang/RuntimeException", "java/lang/Exception"]).filter goodWord
abbrev vwCl : List vw_C := [(RX0, TX0, 10), (RX1, TX1, 6), (RX2, TX2, 5), (RX3, TX3, 6), (RX4, TX4, 4), (RX5, TX5, 8), (RX6, TX6, 23)]
end
section
/-! THE PICTURE: 68 places (the desk, its rows, skids, tales, the meeting, two cars with three speeds each, the model and its rows, the law's own row); a state is what the places hold in ints, and in longs. What refers to what never changes. -/
abbrev QS : Type := (Nat → Nat → Int32) × (Nat → Int64)
def qkds : List Nat := [5, 9, 2, 2, 2, 2, 2, 2, 2, 2, 2, 2, 2, 2, 10, 4, 4, 4, 4, 4, 4, 4, 4, 4, 4, 1, 0, 3, 7, 8, 3, 7, 8, 3, 7, 8, 7, 0, 3, 7, 8, 3, 7, 8, 3, 7, 8, 7, 6, 7, 7, 8, 7, 7, 8, 7, 7, 7, 7, 7, 8, 8, 7, 8, 8, 7, 7, 11]
def qns : List Nat := [0, 12, 0, 0, 0, 0, 0, 0, 0, 0, 0, 0, 0, 0, 10, 0, 0, 0, 0, 0, 0, 0, 0, 0, 0, 0, 0, 0, 101, 101, 0, 101, 101, 0, 101, 101, 101, 0, 0, 101, 101, 0, 101, 101, 0, 101, 101, 101, 0, 2, 12, 12, 12, 12, 12, 6, 6, 10, 10, 10, 606, 606, 202, 1024, 206848, 20402, 202, 1]
def qk (k : Nat) : Nat := qkds.getD k 12
def qn (k : Nat) : Nat := qns.getD k 0
theorem qk_lt {k c : Nat} (h : qk k = c) (hc : c < 12) : k < 68 := by
  rcases Nat.lt_or_ge k 68 with q | q
  · exact q
  · have e : qk k = 12 := by
      unfold qk
      rw [List.getD_eq_getElem?_getD, List.getElem?_eq_none (show qkds.length ≤ k from q)]
      rfl
    omega
theorem q_sp {k : Nat} (h : qk k = 3) : qk (k + 1) = 7 ∧ qn (k + 1) = 101 ∧ qk (k + 2) = 8 ∧ qn (k + 2) = 101 := (show ∀ k, k < 68 → qk k = 3 → qk (k + 1) = 7 ∧ qn (k + 1) = 101 ∧ qk (k + 2) = 8 ∧ qn (k + 2) = 101 by decide +kernel) k (qk_lt h (by decide)) h
theorem q_car {k : Nat} (h : qk k = 0) : qk (k + 1) = 3 ∧ qk (k + 4) = 3 ∧ qk (k + 7) = 3 ∧ qk (k + 10) = 7 ∧ qn (k + 10) = 101 := (show ∀ k, k < 68 → qk k = 0 → qk (k + 1) = 3 ∧ qk (k + 4) = 3 ∧ qk (k + 7) = 3 ∧ qk (k + 10) = 7 ∧ qn (k + 10) = 101 by decide +kernel) k (qk_lt h (by decide)) h
theorem q_skid {j : Nat} (h : j < 12) : qk (2 + j) = 2 := (show ∀ j, j < 12 → qk (2 + j) = 2 by decide +kernel) j h
theorem q_tale {j : Nat} (h : j < 10) : qk (15 + j) = 4 := (show ∀ j, j < 10 → qk (15 + j) = 4 by decide +kernel) j h
/-- what stands at a place -/
def cel (ca : Nat → ClassId) (ad : Nat → Nat) (k : Nat) (r : Nat → Int32) (M : Nat → Int64) : va_E :=
  if qk k = 0 then .inr (0, [.int (r 0), .ref (ad (k + 1)), .ref (ad (k + 4)), .ref (ad (k + 7)), .ref (ad (k + 10)), .int (r 5), .int (r 6), .int (r 7), .int (r 8), .int (r 9)])
  else if qk k = 1 then .inr (1, [.ref (ad 26), .ref (ad 37), .long (M k), .int (r 3), .int (r 4), .int (r 5)])
  else if qk k = 2 then .inr (2, [.int (r 0), .int (r 1), .int (r 2), .int (r 3), .int (r 4)])
  else if qk k = 3 then .inr (3, [.int (r 0), .int (r 1), .int (r 2), .int (r 3), .ref (ad (k + 1)), .ref (ad (k + 2))])
  else if qk k = 4 then .inr (4, [.int (r 0), .int (r 1), .int (r 2), .int (r 3)])
  else if qk k = 5 then .inr (5, [.ref (ad 1), .ref (ad 14), .int (r 2), .int (r 3), .ref (ad 25), .int (r 5), .int (r 6), .int (r 7)])
  else if qk k = 6 then .inr (6, [.int (r 0), .ref (ad 49), .ref (ad 50), .ref (ad 51), .ref (ad 52), .ref (ad 53), .ref (ad 54), .int (r 7), .ref (ad 55), .ref (ad 56), .ref (ad 57), .ref (ad 58), .ref (ad 59), .int (r 13), .ref (ad 60), .ref (ad 61), .ref (ad 62), .long (M k), .int (r 18), .ref (ad 63), .ref (ad 64), .ref (ad 65), .ref (ad 66)])
  else if qk k = 7 then .inl (ca 0, qn k, .inl r)
  else if qk k = 8 then .inl (ca 1, qn k, .inl r)
  else if qk k = 9 then .inl (ca 2, qn k, .inr (.inr (.inr (.inr (fun j => some (ad (2 + j)))))))
  else if qk k = 10 then .inl (ca 3, qn k, .inr (.inr (.inr (.inr (fun j => some (ad (15 + j)))))))
  else .inl (ca 4, qn k, .inr (.inl (fun j => M (k + j))))
section
variable {ca : Nat → ClassId} {ad : Nat → Nat} {k : Nat} {r : Nat → Int32} {M : Nat → Int64}
theorem cel_0 (h : qk k = 0) : cel ca ad k r M = .inr (0, [.int (r 0), .ref (ad (k + 1)), .ref (ad (k + 4)), .ref (ad (k + 7)), .ref (ad (k + 10)), .int (r 5), .int (r 6), .int (r 7), .int (r 8), .int (r 9)]) := by simp [cel, h]
theorem cel_1 (h : qk k = 1) : cel ca ad k r M = .inr (1, [.ref (ad 26), .ref (ad 37), .long (M k), .int (r 3), .int (r 4), .int (r 5)]) := by simp [cel, h]
theorem cel_2 (h : qk k = 2) : cel ca ad k r M = .inr (2, [.int (r 0), .int (r 1), .int (r 2), .int (r 3), .int (r 4)]) := by simp [cel, h]
theorem cel_3 (h : qk k = 3) : cel ca ad k r M = .inr (3, [.int (r 0), .int (r 1), .int (r 2), .int (r 3), .ref (ad (k + 1)), .ref (ad (k + 2))]) := by simp [cel, h]
theorem cel_4 (h : qk k = 4) : cel ca ad k r M = .inr (4, [.int (r 0), .int (r 1), .int (r 2), .int (r 3)]) := by simp [cel, h]
theorem cel_5 (h : qk k = 5) : cel ca ad k r M = .inr (5, [.ref (ad 1), .ref (ad 14), .int (r 2), .int (r 3), .ref (ad 25), .int (r 5), .int (r 6), .int (r 7)]) := by simp [cel, h]
theorem cel_6 (h : qk k = 6) : cel ca ad k r M = .inr (6, [.int (r 0), .ref (ad 49), .ref (ad 50), .ref (ad 51), .ref (ad 52), .ref (ad 53), .ref (ad 54), .int (r 7), .ref (ad 55), .ref (ad 56), .ref (ad 57), .ref (ad 58), .ref (ad 59), .int (r 13), .ref (ad 60), .ref (ad 61), .ref (ad 62), .long (M k), .int (r 18), .ref (ad 63), .ref (ad 64), .ref (ad 65), .ref (ad 66)]) := by simp [cel, h]
theorem cel_7 (h : qk k = 7) : cel ca ad k r M = .inl (ca 0, qn k, .inl r) := by simp [cel, h]
theorem cel_8 (h : qk k = 8) : cel ca ad k r M = .inl (ca 1, qn k, .inl r) := by simp [cel, h]
theorem cel_9 (h : qk k = 9) : cel ca ad k r M = .inl (ca 2, qn k, .inr (.inr (.inr (.inr (fun j => some (ad (2 + j))))))) := by simp [cel, h]
theorem cel_10 (h : qk k = 10) : cel ca ad k r M = .inl (ca 3, qn k, .inr (.inr (.inr (.inr (fun j => some (ad (15 + j))))))) := by simp [cel, h]
theorem cel_11 (h : qk k = 11) : cel ca ad k r M = .inl (ca 4, qn k, .inr (.inl (fun j => M (k + j)))) := by simp [cel, h]
theorem cel_ob (h : qk k < 7) : ∃ fs, cel ca ad k r M = .inr (qk k, fs) := by
  rcases (show qk k = 0 ∨ qk k = 1 ∨ qk k = 2 ∨ qk k = 3 ∨ qk k = 4 ∨ qk k = 5 ∨ qk k = 6 by omega) with q | q | q | q | q | q | q
  · exact ⟨_, by rw [cel_0 q, q]⟩
  · exact ⟨_, by rw [cel_1 q, q]⟩
  · exact ⟨_, by rw [cel_2 q, q]⟩
  · exact ⟨_, by rw [cel_3 q, q]⟩
  · exact ⟨_, by rw [cel_4 q, q]⟩
  · exact ⟨_, by rw [cel_5 q, q]⟩
  · exact ⟨_, by rw [cel_6 q, q]⟩
end
def wd (ca : Nat → ClassId) (ad : Nat → Nat) (S : QS) : va_W := (List.range 68).map (fun k => (ad k, cel ca ad k (S.1 k) S.2))
theorem wd_at {ca : Nat → ClassId} {ad : Nat → Nat} {S : QS} {k : Nat} (h : k < 68) : (wd ca ad S)[k]? = some (ad k, cel ca ad k (S.1 k) S.2) := by simp [wd, h]
theorem wd_len {ca : Nat → ClassId} {ad : Nat → Nat} {S : QS} : (wd ca ad S).length = 68 := by simp [wd]
theorem wd_inv {ca : Nat → ClassId} {ad : Nat → Nat} {S : QS} {k : Nat} {q : Nat × va_E} (h : (wd ca ad S)[k]? = some q) : k < 68 ∧ q = (ad k, cel ca ad k (S.1 k) S.2) := by
  have hk : k < 68 := by
    have := (List.getElem?_eq_some_iff.mp h).1
    rw [wd_len] at this
    exact this
  exact ⟨hk, (Option.some.inj ((wd_at hk).symm.trans h)).symm⟩
def Inj (ad : Nat → Nat) : Prop := ∀ i j, i < 68 → j < 68 → ad i = ad j → i = j
def Aq (ad : Nat → Nat) (sz : Nat) : Nat → Prop := fun q => (∃ k, k < 68 ∧ q = ad k) ∨ sz ≤ q
theorem Aq_in {ad : Nat → Nat} {sz k : Nat} (h : k < 68) : Aq ad sz (ad k) := Or.inl ⟨k, h, rfl⟩
theorem Aq_up {ad : Nat → Nat} {sz q : Nat} (h : sz ≤ q) : Aq ad sz q := Or.inr h
theorem Aq_mono {ad : Nat → Nat} {sz sz2 : Nat} (h : sz ≤ sz2) : ∀ q, Aq ad sz2 q → Aq ad sz q := fun q hq => hq.elim Or.inl (fun z => Or.inr (Nat.le_trans h z))
theorem wd_D {ca : Nat → ClassId} {ad : Nat → Nat} {S : QS} {sz : Nat} (hj : Inj ad) : va_D (Aq ad sz) (wd ca ad S) := by
  refine ⟨fun i j p q hi hj2 e => ?_, fun k q hk => ?_⟩
  · obtain ⟨h1, rfl⟩ := wd_inv hi
    obtain ⟨h2, rfl⟩ := wd_inv hj2
    exact hj i j h1 h2 e
  · obtain ⟨h1, rfl⟩ := wd_inv hk
    exact Aq_in h1
theorem wd_setV {ca : Nat → ClassId} {ad : Nat → Nat} {S : QS} {k : Nat} {r : Nat → Int32} {e : va_E} (hk : k < 68) (he : cel ca ad k r S.2 = e) : (wd ca ad S).set k (ad k, e) = wd ca ad (va_up S.1 k r, S.2) := by
  apply List.ext_getElem?
  intro i
  subst he
  by_cases h : i = k
  · subst h
    rw [List.getElem?_set_self (by rw [wd_len]; exact hk), wd_at hk]
    show _ = some (ad i, cel ca ad i (va_up S.1 i r i) S.2)
    rw [va_up_self]
  · rw [List.getElem?_set_ne (Ne.symm h)]
    rcases Nat.lt_or_ge i 68 with q | q
    · rw [wd_at q, wd_at q]
      show _ = some (ad i, cel ca ad i (va_up S.1 k r i) S.2)
      rw [va_up_ne _ _ h]
    · rw [List.getElem?_eq_none (by rw [wd_len]; exact q), List.getElem?_eq_none (by rw [wd_len]; exact q)]
theorem qk_one {i : Nat} (h : i < 68) : (qk i = 1 → i = 25) ∧ (qk i = 6 → i = 48) ∧ (qk i = 11 → i = 67) := (show ∀ i, i < 68 → (qk i = 1 → i = 25) ∧ (qk i = 6 → i = 48) ∧ (qk i = 11 → i = 67) by decide +kernel) i h
theorem cel_M {ca : Nat → ClassId} {ad : Nat → Nat} {i k : Nat} {r : Nat → Int32} {M : Nat → Int64} {x : Int64} (hi : i < 68) (hk : k < 68) (h : i ≠ k) : cel ca ad i r (va_up M k x) = cel ca ad i r M := by
  have h2 : ∀ j, 68 ≤ j → va_up M k x j = M j := fun j hj => va_up_ne _ _ (by omega)
  have h3 : va_up M k x i = M i := va_up_ne _ _ h
  by_cases h11 : qk i = 11
  · rw [cel_11 h11, cel_11 h11]
    have e : (fun j => va_up M k x (i + j)) = fun j => M (i + j) := by
      funext j
      have := (qk_one hi).2.2 h11
      by_cases hj : j = 0
      · subst hj; exact h3
      · exact h2 _ (by omega)
    rw [e]
  · have hh : qk i < 12 := (show ∀ i, i < 68 → qk i < 12 by decide +kernel) i hi
    rcases (show qk i = 0 ∨ qk i = 1 ∨ qk i = 2 ∨ qk i = 3 ∨ qk i = 4 ∨ qk i = 5 ∨ qk i = 6 ∨ qk i = 7 ∨ qk i = 8 ∨ qk i = 9 ∨ qk i = 10 by omega) with q | q | q | q | q | q | q | q | q | q | q
    · rw [cel_0 q, cel_0 q]
    · rw [cel_1 q, cel_1 q, h3]
    · rw [cel_2 q, cel_2 q]
    · rw [cel_3 q, cel_3 q]
    · rw [cel_4 q, cel_4 q]
    · rw [cel_5 q, cel_5 q]
    · rw [cel_6 q, cel_6 q, h3]
    · rw [cel_7 q, cel_7 q]
    · rw [cel_8 q, cel_8 q]
    · rw [cel_9 q, cel_9 q]
    · rw [cel_10 q, cel_10 q]
theorem wd_setM {ca : Nat → ClassId} {ad : Nat → Nat} {S : QS} {k : Nat} {x : Int64} {e : va_E} (hk : k < 68) (he : cel ca ad k (S.1 k) (va_up S.2 k x) = e) : (wd ca ad S).set k (ad k, e) = wd ca ad (S.1, va_up S.2 k x) := by
  apply List.ext_getElem?
  intro i
  subst he
  by_cases h : i = k
  · subst h
    rw [List.getElem?_set_self (by rw [wd_len]; exact hk), wd_at hk]
  · rw [List.getElem?_set_ne (Ne.symm h)]
    rcases Nat.lt_or_ge i 68 with q | q
    · rw [wd_at q, wd_at q, cel_M q hk h]
    · rw [List.getElem?_eq_none (by rw [wd_len]; exact q), List.getElem?_eq_none (by rw [wd_len]; exact q)]
/-! the pure steps -/
def rdA (k n : Nat) (i : Int32) (S : QS) : Option Int32 := if ¬ (i < 0 ∨ n ≤ i.toNatClampNeg) then some (S.1 k i.toNatClampNeg) else none
def setF (k j : Nat) (x : Int32) (S : QS) : QS := (va_up S.1 k (upd (S.1 k) j x), S.2)
def setL (k : Nat) (x : Int64) (S : QS) : QS := (S.1, va_up S.2 k x)
def wrA (k n : Nat) (i x : Int32) (S : QS) : Option QS := if ¬ (i < 0 ∨ n ≤ i.toNatClampNeg) then some (setF k i.toNatClampNeg x S) else none
def zb (x : Int32) : Option Int32 := if x = 0 ∨ x = 1 then some x else none
def wrZ (k n : Nat) (i x : Int32) (S : QS) : Option QS := if ¬ (i < 0 ∨ n ≤ i.toNatClampNeg) ∧ (x = 0 ∨ x = 1) then some (setF k i.toNatClampNeg x S) else none
def stF (k j : Nat) (x : Int32) (S : QS) : Option QS := some (setF k j x S)
def stZ (k j : Nat) (x : Int32) (S : QS) : Option QS := if x = 0 ∨ x = 1 then some (setF k j x S) else none
def stL (k : Nat) (x : Int64) (S : QS) : Option QS := some (setL k x S)
def rdQ (b n : Nat) (i : Int32) : Option Nat := if ¬ (i < 0 ∨ n ≤ i.toNatClampNeg) then some (b + i.toNatClampNeg) else none
def dvI (x y : Int32) : Option Int32 := if ¬ y = 0 then some (x / y) else none
def rmI (x y : Int32) : Option Int32 := if ¬ y = 0 then some (x - x / y * y) else none
/-- a call that may throw: what it throws goes on -/
def bx {α β : Type} (o : Option ((String × QS) ⊕ α)) (f : α → Option ((String × QS) ⊕ β)) : Option ((String × QS) ⊕ β) := match o with
  | none => none
  | some (.inl e) => some (.inl e)
  | some (.inr a) => f a
/-- a call that may throw, and what its handlers do -/
def bh {α β : Type} (o : Option ((String × QS) ⊕ α)) (h : String → QS → Option β) (f : α → Option β) : Option β := match o with
  | none => none
  | some (.inl e) => h e.1 e.2
  | some (.inr a) => f a
theorem bd_e {α β : Type} {o : Option α} {f : α → Option β} {y : β} (h : o.bind f = some y) : ∃ x, o = some x ∧ f x = some y := by
  cases o with
  | none => simp at h
  | some x => exact ⟨x, rfl, h⟩
theorem bx_e {α β : Type} {o : Option ((String × QS) ⊕ α)} {f : α → Option ((String × QS) ⊕ β)} {y : (String × QS) ⊕ β} (h : bx o f = some y) : ∃ x, o = some x := by
  cases o with
  | none => simp [bx] at h
  | some x => exact ⟨x, rfl⟩
theorem bx_l {α β : Type} {o : Option ((String × QS) ⊕ α)} {f : α → Option ((String × QS) ⊕ β)} {y : (String × QS) ⊕ β} {x : (String × QS) ⊕ α} {e : String × QS} (h : bx o f = some y) (hx : o = some x) (he : x = .inl e) : .inl e = y := by
  subst hx; subst he
  exact Option.some.inj h
theorem bx_r {α β : Type} {o : Option ((String × QS) ⊕ α)} {f : α → Option ((String × QS) ⊕ β)} {y : (String × QS) ⊕ β} {x : (String × QS) ⊕ α} {a : α} (h : bx o f = some y) (hx : o = some x) (he : x = .inr a) : f a = some y := by
  subst hx; subst he
  exact h
theorem bh_e {α β : Type} {o : Option ((String × QS) ⊕ α)} {g : String → QS → Option β} {f : α → Option β} {y : β} (h : bh o g f = some y) : ∃ x, o = some x := by
  cases o with
  | none => simp [bh] at h
  | some x => exact ⟨x, rfl⟩
theorem bh_l {α β : Type} {o : Option ((String × QS) ⊕ α)} {g : String → QS → Option β} {f : α → Option β} {y : β} {x : (String × QS) ⊕ α} {e : String × QS} (h : bh o g f = some y) (hx : o = some x) (he : x = .inl e) : g e.1 e.2 = some y := by
  subst hx; subst he
  exact h
theorem bh_r {α β : Type} {o : Option ((String × QS) ⊕ α)} {g : String → QS → Option β} {f : α → Option β} {y : β} {x : (String × QS) ⊕ α} {a : α} (h : bh o g f = some y) (hx : o = some x) (he : x = .inr a) : f a = some y := by
  subst hx; subst he
  exact h
theorem if_t {α : Sort _} {c : Prop} [Decidable c] {a b x : α} (h : c) (e : (if c then a else b) = x) : a = x := by rw [if_pos h] at e; exact e
theorem if_f {α : Sort _} {c : Prop} [Decidable c] {a b x : α} (h : ¬ c) (e : (if c then a else b) = x) : b = x := by rw [if_neg h] at e; exact e
theorem q_in {x : Int32} {k n : Nat} {i : Int32} {S : QS} (h : rdA k n i S = some x) : vp_in i n ∧ x = S.1 k i.toNatClampNeg := by
  unfold rdA at h
  by_cases c : ¬ (i < 0 ∨ n ≤ i.toNatClampNeg)
  · rw [if_pos c] at h
    exact ⟨c, (Option.some.inj h).symm⟩
  · rw [if_neg c] at h
    cases h
theorem q_inQ {b n x : Nat} {i : Int32} (h : rdQ b n i = some x) : vp_in i n ∧ i.toNatClampNeg < n ∧ x = b + i.toNatClampNeg := by
  unfold rdQ at h
  by_cases c : ¬ (i < 0 ∨ n ≤ i.toNatClampNeg)
  · rw [if_pos c] at h
    exact ⟨c, Nat.not_le.mp (fun z => c (Or.inr z)), (Option.some.inj h).symm⟩
  · rw [if_neg c] at h
    cases h
theorem q_wr {k n : Nat} {i x : Int32} {S S1 : QS} (h : wrA k n i x S = some S1) : vp_in i n ∧ S1 = setF k i.toNatClampNeg x S := by
  unfold wrA at h
  by_cases c : ¬ (i < 0 ∨ n ≤ i.toNatClampNeg)
  · rw [if_pos c] at h
    exact ⟨c, (Option.some.inj h).symm⟩
  · rw [if_neg c] at h
    cases h
theorem q_wrZ {k n : Nat} {i x : Int32} {S S1 : QS} (h : wrZ k n i x S = some S1) : vp_in i n ∧ vp_nar .boolean x = x ∧ S1 = setF k i.toNatClampNeg x S := by
  unfold wrZ at h
  by_cases c : ¬ (i < 0 ∨ n ≤ i.toNatClampNeg) ∧ (x = 0 ∨ x = 1)
  · rw [if_pos c] at h
    exact ⟨c.1, by rcases c.2 with e | e <;> subst e <;> decide, (Option.some.inj h).symm⟩
  · rw [if_neg c] at h
    cases h
theorem q_zb {x y : Int32} (h : zb x = some y) : (x = 0 ∨ x = 1) ∧ y = x := by
  unfold zb at h
  by_cases c : x = 0 ∨ x = 1
  · rw [if_pos c] at h
    exact ⟨c, (Option.some.inj h).symm⟩
  · rw [if_neg c] at h
    cases h
theorem q_stZ {k j : Nat} {x : Int32} {S S1 : QS} (h : stZ k j x S = some S1) : (x = 0 ∨ x = 1) ∧ S1 = setF k j x S := by
  unfold stZ at h
  by_cases c : x = 0 ∨ x = 1
  · rw [if_pos c] at h
    exact ⟨c, (Option.some.inj h).symm⟩
  · rw [if_neg c] at h
    cases h
theorem q_dv {x y z : Int32} (h : dvI x y = some z) : ¬ y = 0 ∧ z = x / y := by
  unfold dvI at h
  by_cases c : ¬ y = 0
  · rw [if_pos c] at h
    exact ⟨c, (Option.some.inj h).symm⟩
  · rw [if_neg c] at h
    cases h
theorem q_rm {x y z : Int32} (h : rmI x y = some z) : ¬ y = 0 ∧ z = x - x / y * y := by
  unfold rmI at h
  by_cases c : ¬ y = 0
  · rw [if_pos c] at h
    exact ⟨c, (Option.some.inj h).symm⟩
  · rw [if_neg c] at h
    cases h
theorem q_nz {x : Int32} (h : x = 0 ∨ x = 1) : narrow .boolean (.int x) = .int x := by
  rcases h with e | e <;> subst e <;> rfl
theorem q_fz {x : Int32} (h : x = 0 ∨ x = 1) : fits .boolean (.int x) = true := by
  rcases h with e | e <;> subst e <;> rfl
end
section
/-! ROWS over the picture: fields, rows of ints and bits, calls, ends -/
abbrev tys (ca : Nat → ClassId) : List (ClassId × FieldType) := [(ca 0, .int), (ca 1, .boolean), (ca 2, .object "CrashDesk$Skid"), (ca 3, .object "CrashDesk$Tale"), (ca 4, .long)]
def qnest : List Cond := [.fieldLinkNest RX1 83 "CrashDesk$Speed" "prices" "[I" "CrashDesk", .fieldLinkNest RX1 93 "CrashDesk$Speed" "seen" "[Z" "CrashDesk", .fieldLinkNest RX1 87 "CrashDesk$Car" "firstCounts" "[I" "CrashDesk", .methodLinkNest RX0 109 yX5_cheaper "CrashDesk", .methodLinkNest RX1 90 yX5_cheaper "CrashDesk", .methodLinkNest RX5 30 yX1_init "CrashDesk", .methodLinkNest RX1 11 yX0_init "CrashDesk", .methodLinkNest RX0 17 yX3_init "CrashDesk", .methodLinkNest RX5 45 yX2_init "CrashDesk", .methodLinkNest RX5 46 yX4_init "CrashDesk"]
def NN (U : State) : Prop := ∀ w ∈ qnest, va_Nw w U
theorem NN.warm {s U : State} (hW : s.WarmedH U.vm) (h : NN s) : NN U := by
  intro w hw
  have h1 := h w hw
  simp only [qnest, List.mem_cons, List.not_mem_nil, or_false] at hw
  rcases hw with rfl | rfl | rfl | rfl | rfl | rfl | rfl | rfl | rfl | rfl
  · exact va_Nw.warmF hW h1
  · exact va_Nw.warmF hW h1
  · exact va_Nw.warmF hW h1
  · exact va_Nw.warmM hW h1
  · exact va_Nw.warmM hW h1
  · exact va_Nw.warmM hW h1
  · exact va_Nw.warmM hW h1
  · exact va_Nw.warmM hW h1
  · exact va_Nw.warmM hW h1
  · exact va_Nw.warmM hW h1
theorem NN.same {s U : State} (hv : s.vm = U.vm) (h : NN s) : NN U := by
  intro w hw
  have h1 := h w hw
  simp only [qnest, List.mem_cons, List.not_mem_nil, or_false] at hw
  rcases hw with rfl | rfl | rfl | rfl | rfl | rfl | rfl | rfl | rfl | rfl
  all_goals exact va_Nw.same rfl hv h1
def KK (D : va_G) (ca : Nat → ClassId) (U : State) : Prop := va_K D vwCl (tys ca) U ∧ NN U
theorem KK.warm {D : va_G} {ca : Nat → ClassId} {s U : State} (hW : s.WarmedH U.vm) (h : KK D ca s) : KK D ca U := ⟨va_K.moved hW.alike h.1, h.2.warm hW⟩
theorem KK.call {D : va_G} {ca : Nat → ClassId} {U : State} {g : JFrame} {mk : MethodId} {a : Array Value} (h : KK D ca U) : KK D ca (U.calling g mk a) := ⟨va_K.moved (u := U) (U := U.calling g mk a) (Vm.Alike.refl U.vm) h.1, NN.same (s := U) (U := U.calling g mk a) rfl h.2⟩
/-- a method's start -/
def Pre (D : va_G) (ca : Nat → ClassId) (ad : Nat → Nat) (S : QS) (sz : Nat) (U : State) : Prop := U.heap.size = sz ∧ va_P D vwCl (wd ca ad S) U.heap ∧ KK D ca U
def Bt (D : va_G) (ca : Nat → ClassId) (ad : Nat → Nat) (S : QS) (t : State) : Prop := va_P D vwCl (wd ca ad S) t.heap
theorem Pre.blind {D : va_G} {ca : Nat → ClassId} {ad : Nat → Nat} {S : QS} {sz : Nat} {As : List Value} : FrameBlind (va_Pc As (Pre D ca ad S sz)) := fun _ _ _ _ q => ⟨q.1, q.2.1, q.2.2.1, q.2.2.2.call⟩
/-- contracts: what a method answers, and the state behind it -/
abbrev Cv (l : Launch) (D : va_G) (ca : Nat → ClassId) (ad : Nat → Nat) (y : MethodName) (ws : List Cond) (rm : Room) (As : List Value) (S S1 : QS) : Prop := ∀ sz, Met l y ws rm (va_Pc As (Pre D ca ad S sz)) (va_Qv (fun u : QS => u = S1) (Bt D ca ad) (Aq ad sz)) 0 0 (Aq ad sz)
abbrev Ci (l : Launch) (D : va_G) (ca : Nat → ClassId) (ad : Nat → Nat) (y : MethodName) (ws : List Cond) (rm : Room) (As : List Value) (S : QS) (x : Int32) (S1 : QS) : Prop := ∀ sz, Met l y ws rm (va_Pc As (Pre D ca ad S sz)) (va_Qi (fun (r : Int32) (u : QS) => r = x ∧ u = S1) (Bt D ca ad) (Aq ad sz)) 0 0 (Aq ad sz)
abbrev Cl (l : Launch) (D : va_G) (ca : Nat → ClassId) (ad : Nat → Nat) (y : MethodName) (ws : List Cond) (rm : Room) (As : List Value) (S : QS) (x : Int64) (S1 : QS) : Prop := ∀ sz, Met l y ws rm (va_Pc As (Pre D ca ad S sz)) (va_Ql (fun (r : Int64) (u : QS) => r = x ∧ u = S1) (Bt D ca ad) (Aq ad sz)) 0 0 (Aq ad sz)
abbrev Cr (l : Launch) (D : va_G) (ca : Nat → ClassId) (ad : Nat → Nat) (y : MethodName) (ws : List Cond) (rm : Room) (As : List Value) (S : QS) (x : Nat) (S1 : QS) : Prop := ∀ sz, Met l y ws rm (va_Pc As (Pre D ca ad S sz)) (va_Qr (fun u : QS => u = S1) (fun u a t => a = ad x ∧ Bt D ca ad u t) (Aq ad sz)) 0 0 (Aq ad sz)
section
variable {p : Program} {l : Launch} {e : Env} {R : Room} {s : State} {m : MethodId} {args : Array Value} {below : List Frame} {meth : Method} {c : Code} {H : Heap} {locs : List Loc} {cells slots : Nat} {Q : State → Prop} {cc : ByteArray} {pc : Nat} {ls : Array Slot} {rest : List Value} {D : va_G} {ca : Nat → ClassId} {ad : Nat → Nat} {S S1 : QS} {own : String} {index : Nat}
theorem hFree {q : Nat} (hS : va_S (Aq ad s.heap.size) s.heap H locs) : Aq ad H.size q → Aq ad s.heap.size q := Aq_mono hS.1 q
theorem r_recv (hKK : KK D ca s) (hP : va_P D vwCl (wd ca ad S) H) {b ci : Nat} {q : vw_C} (hk : qk b = ci) (hc : vwCl[ci]? = some q) : ∃ cell : Cell, H[ad b]? = some cell ∧ cell.vm.isStatics = false ∧ s.vm.findClass q.1 = some cell.cls := by
  have h7 : ci < 7 := (List.getElem?_eq_some_iff.mp hc).1
  obtain ⟨fs, hf⟩ := cel_ob (ca := ca) (ad := ad) (k := b) (r := S.1 b) (M := S.2) (by omega)
  rw [hk] at hf
  exact va_recv hKK.1 hP (ci := ci) (q0 := b) hc ((wd_at (qk_lt hk (by omega))).trans (by rw [hf]))
theorem r_iald (hx : p.tables.exec = Jvm.exec) (hb : c.code = cc) (hKK : KK D ca s) (hP : va_P D vwCl (wd ca ad S) H) {k n : Nat} {i x : Int32} (hk : qk k = 7) (hn : qn k = n) (h : rdA k n i S = some x) (hdg : decode cc pc = .ok (.iaload, 1)) (kk : W p l e R s m args below meth c H locs cells slots Q (F0 m (pc + 1) ls (.int x :: rest))) : W p l e R s m args below meth c H locs cells slots Q (F0 m pc ls (.int i :: .ref (ad k) :: rest)) := by
  obtain ⟨h1, rfl⟩ := q_in h
  subst hn
  exact va_iald (D := D) hx hb hKK.1 hP k 0 ((wd_at (qk_lt hk (by decide))).trans (by rw [cel_7 hk])) rfl h1 hdg kk
theorem r_zald (hx : p.tables.exec = Jvm.exec) (hb : c.code = cc) (hKK : KK D ca s) (hP : va_P D vwCl (wd ca ad S) H) {k n : Nat} {i x : Int32} (hk : qk k = 8) (hn : qn k = n) (h : rdA k n i S = some x) (hdg : decode cc pc = .ok (.baload, 1)) (kk : W p l e R s m args below meth c H locs cells slots Q (F0 m (pc + 1) ls (.int x :: rest))) : W p l e R s m args below meth c H locs cells slots Q (F0 m pc ls (.int i :: .ref (ad k) :: rest)) := by
  obtain ⟨h1, rfl⟩ := q_in h
  subst hn
  exact va_zald (D := D) hx hb hKK.1 hP k 1 ((wd_at (qk_lt hk (by decide))).trans (by rw [cel_8 hk])) rfl h1 hdg kk
theorem r_sald (hx : p.tables.exec = Jvm.exec) (hb : c.code = cc) (hKK : KK D ca s) (hP : va_P D vwCl (wd ca ad S) H) {i : Int32} {x : Nat} (h : rdQ 2 12 i = some x) (hdg : decode cc pc = .ok (.aaload, 1)) (kk : qk x = 2 → W p l e R s m args below meth c H locs cells slots Q (F0 m (pc + 1) ls (.ref (ad x) :: rest))) : W p l e R s m args below meth c H locs cells slots Q (F0 m pc ls (.int i :: .ref (ad 1) :: rest)) := by
  obtain ⟨h1, h2, rfl⟩ := q_inQ h
  exact va_aldq (D := D) (n := 12) (f := fun j => some (ad (2 + j))) hx hb hKK.1 hP 1 2 ((wd_at (by decide)).trans (by rw [cel_9 (by decide)]; rfl)) rfl h1 hdg (kk (q_skid h2))
theorem r_tald (hx : p.tables.exec = Jvm.exec) (hb : c.code = cc) (hKK : KK D ca s) (hP : va_P D vwCl (wd ca ad S) H) {i : Int32} {x : Nat} (h : rdQ 15 10 i = some x) (hdg : decode cc pc = .ok (.aaload, 1)) (kk : qk x = 4 → W p l e R s m args below meth c H locs cells slots Q (F0 m (pc + 1) ls (.ref (ad x) :: rest))) : W p l e R s m args below meth c H locs cells slots Q (F0 m pc ls (.int i :: .ref (ad 14) :: rest)) := by
  obtain ⟨h1, h2, rfl⟩ := q_inQ h
  exact va_aldq (D := D) (n := 10) (f := fun j => some (ad (15 + j))) hx hb hKK.1 hP 14 3 ((wd_at (by decide)).trans (by rw [cel_10 (by decide)]; rfl)) rfl h1 hdg (kk (q_tale h2))
theorem r_iast (hx : p.tables.exec = Jvm.exec) (hb : c.code = cc) (hj : Inj ad) (hKK : KK D ca s) (hP : va_P D vwCl (wd ca ad S) H) (hS : va_S (Aq ad s.heap.size) s.heap H locs) {k n : Nat} {i x : Int32} (hk : qk k = 7) (hn : qn k = n) (h : wrA k n i x S = some S1) (hdg : decode cc pc = .ok (.iastore, 1)) (kk : ∀ (H1 : Heap) (locs1 : List Loc), va_P D vwCl (wd ca ad S1) H1 → va_S (Aq ad s.heap.size) s.heap H1 locs1 → W p l e R s m args below meth c H1 locs1 cells slots Q (F0 m (pc + 1) ls rest)) : W p l e R s m args below meth c H locs cells slots Q (F0 m pc ls (.int x :: .int i :: .ref (ad k) :: rest)) := by
  obtain ⟨h1, rfl⟩ := q_wr h
  subst hn
  have h68 : k < 68 := qk_lt hk (by decide)
  refine va_iast (D := D) hx hb hKK.1 hP (wd_D hj) hS k 0 ((wd_at h68).trans (by rw [cel_7 hk])) rfl h1 hdg (fun H1 locs1 hP1 _ hS1 => kk H1 locs1 ?_ hS1)
  have e := wd_setV (ca := ca) (ad := ad) (S := S) (k := k) (r := upd (S.1 k) i.toNatClampNeg x) h68 (cel_7 hk)
  show va_P D vwCl (wd ca ad (va_up S.1 k (upd (S.1 k) i.toNatClampNeg x), S.2)) H1
  rw [← e]
  exact hP1
theorem r_zast (hx : p.tables.exec = Jvm.exec) (hb : c.code = cc) (hj : Inj ad) (hKK : KK D ca s) (hP : va_P D vwCl (wd ca ad S) H) (hS : va_S (Aq ad s.heap.size) s.heap H locs) {k n : Nat} {i x : Int32} (hk : qk k = 8) (hn : qn k = n) (h : wrZ k n i x S = some S1) (hdg : decode cc pc = .ok (.bastore, 1)) (kk : ∀ (H1 : Heap) (locs1 : List Loc), va_P D vwCl (wd ca ad S1) H1 → va_S (Aq ad s.heap.size) s.heap H1 locs1 → W p l e R s m args below meth c H1 locs1 cells slots Q (F0 m (pc + 1) ls rest)) : W p l e R s m args below meth c H locs cells slots Q (F0 m pc ls (.int x :: .int i :: .ref (ad k) :: rest)) := by
  obtain ⟨h1, hv, rfl⟩ := q_wrZ h
  subst hn
  have h68 : k < 68 := qk_lt hk (by decide)
  refine va_zast (D := D) hx hb hKK.1 hP (wd_D hj) hS k 1 ((wd_at h68).trans (by rw [cel_8 hk])) rfl h1 hdg (fun H1 locs1 hP1 _ hS1 => kk H1 locs1 ?_ hS1)
  have e := wd_setV (ca := ca) (ad := ad) (S := S) (k := k) (r := upd (S.1 k) i.toNatClampNeg x) h68 (cel_8 hk)
  show va_P D vwCl (wd ca ad (va_up S.1 k (upd (S.1 k) i.toNatClampNeg x), S.2)) H1
  rw [← e]
  rw [hv] at hP1
  exact hP1
theorem r_lald (hx : p.tables.exec = Jvm.exec) (hb : c.code = cc) (hKK : KK D ca s) (hP : va_P D vwCl (wd ca ad S) H) (hdg : decode cc pc = .ok (.laload, 1)) (kk : W p l e R s m args below meth c H locs cells slots Q (F0 m (pc + 1) ls (.long (S.2 67) :: rest))) : W p l e R s m args below meth c H locs cells slots Q (F0 m pc ls (.int 0 :: .ref (ad 67) :: rest)) :=
  va_lald (D := D) (f := fun j => S.2 (67 + j)) hx hb hKK.1 hP 67 4 ((wd_at (by decide)).trans (by rw [cel_11 (by decide)])) rfl (show vp_in 0 (qn 67) by unfold vp_in; decide) hdg kk
theorem r_last (hx : p.tables.exec = Jvm.exec) (hb : c.code = cc) (hj : Inj ad) (hKK : KK D ca s) (hP : va_P D vwCl (wd ca ad S) H) (hS : va_S (Aq ad s.heap.size) s.heap H locs) {x : Int64} (hdg : decode cc pc = .ok (.lastore, 1)) (kk : ∀ (H1 : Heap) (locs1 : List Loc), va_P D vwCl (wd ca ad (setL 67 x S)) H1 → va_S (Aq ad s.heap.size) s.heap H1 locs1 → W p l e R s m args below meth c H1 locs1 cells slots Q (F0 m (pc + 1) ls rest)) : W p l e R s m args below meth c H locs cells slots Q (F0 m pc ls (.long x :: .int 0 :: .ref (ad 67) :: rest)) := by
  refine va_last (D := D) (f := fun j => S.2 (67 + j)) hx hb hKK.1 hP (wd_D hj) hS 67 4 ((wd_at (by decide)).trans (by rw [cel_11 (by decide)])) rfl (show vp_in 0 (qn 67) by unfold vp_in; decide) hdg (fun H1 locs1 hP1 _ hS1 => kk H1 locs1 ?_ hS1)
  have e := wd_setM (ca := ca) (ad := ad) (S := S) (k := 67) (x := x) (by decide) (cel_11 (by decide))
  show va_P D vwCl (wd ca ad (S.1, va_up S.2 67 x)) H1
  rw [← e]
  have e2 : (fun j => va_up S.2 67 x (67 + j)) = vp_updL (fun j => S.2 (67 + j)) (0 : Int32).toNatClampNeg x := by
    funext j
    simp only [va_up, vp_updL, show (0 : Int32).toNatClampNeg = 0 from rfl]
    by_cases h : j = 0
    · subst h; simp
    · rw [if_neg (by omega), if_neg h]
  rw [e2]
  exact hP1
/-! ends -/
theorem r_vret (hx : p.tables.exec = Jvm.exec) (hb : c.code = cc) (hr : meth.sig.returnType = none) (hP : va_P D vwCl (wd ca ad S) H) (hS : va_S (Aq ad s.heap.size) s.heap H locs) (hdg : decode cc pc = .ok (.return_, 1)) (hlocks : meth.locks = false) : W p l e R s m args below meth c H locs cells slots (MQ below (va_Qv (fun u : QS => u = S) (Bt D ca ad) (Aq ad s.heap.size)) args s cells slots (Aq ad s.heap.size)) (F0 m pc ls []) :=
  W.vret hx hb hr (fun t ht hW => ⟨⟨S, rfl, rfl, by unfold Bt; rw [ht]; exact hP⟩, hS.F ht⟩) hS.2.2 hdg hlocks
theorem r_iret (hx : p.tables.exec = Jvm.exec) (hb : c.code = cc) (hr : meth.sig.returnType = some .int) (hP : va_P D vwCl (wd ca ad S) H) (hS : va_S (Aq ad s.heap.size) s.heap H locs) {x : Int32} (hdg : decode cc pc = .ok (.ireturn, 1)) (hlocks : meth.locks = false) : W p l e R s m args below meth c H locs cells slots (MQ below (va_Qi (fun (r : Int32) (u : QS) => r = x ∧ u = S) (Bt D ca ad) (Aq ad s.heap.size)) args s cells slots (Aq ad s.heap.size)) (F0 m pc ls [.int x]) :=
  W.iret hx hb hr (fun t ht hW => ⟨⟨x, S, rfl, ⟨rfl, rfl⟩, by unfold Bt; rw [ht]; exact hP⟩, hS.F ht⟩) hS.2.2 hdg hlocks
theorem r_zret (hx : p.tables.exec = Jvm.exec) (hb : c.code = cc) (hr : meth.sig.returnType = some .boolean) (hP : va_P D vwCl (wd ca ad S) H) (hS : va_S (Aq ad s.heap.size) s.heap H locs) {x : Int32} (hz : x = 0 ∨ x = 1) (hdg : decode cc pc = .ok (.ireturn, 1)) (hlocks : meth.locks = false) : W p l e R s m args below meth c H locs cells slots (MQ below (va_Qi (fun (r : Int32) (u : QS) => r = x ∧ u = S) (Bt D ca ad) (Aq ad s.heap.size)) args s cells slots (Aq ad s.heap.size)) (F0 m pc ls [.int x]) :=
  W.zret hx hb hr (q_nz hz) (fun t ht hW => ⟨⟨x, S, rfl, ⟨rfl, rfl⟩, by unfold Bt; rw [ht]; exact hP⟩, hS.F ht⟩) hS.2.2 hdg hlocks
theorem r_lret (hx : p.tables.exec = Jvm.exec) (hb : c.code = cc) (hr : meth.sig.returnType = some .long) (hP : va_P D vwCl (wd ca ad S) H) (hS : va_S (Aq ad s.heap.size) s.heap H locs) {x : Int64} (hdg : decode cc pc = .ok (.lreturn, 1)) (hlocks : meth.locks = false) : W p l e R s m args below meth c H locs cells slots (MQ below (va_Ql (fun (r : Int64) (u : QS) => r = x ∧ u = S) (Bt D ca ad) (Aq ad s.heap.size)) args s cells slots (Aq ad s.heap.size)) (F0 m pc ls [.long x]) :=
  W.lret hx hb hr (fun t ht hW => ⟨⟨x, S, rfl, ⟨rfl, rfl⟩, by unfold Bt; rw [ht]; exact hP⟩, hS.F ht⟩) hS.2.2 hdg hlocks
theorem r_aret (hx : p.tables.exec = Jvm.exec) (hb : c.code = cc) {C : String} (hr : meth.sig.returnType = some (.object C)) (hP : va_P D vwCl (wd ca ad S) H) (hS : va_S (Aq ad s.heap.size) s.heap H locs) {x : Nat} (hdg : decode cc pc = .ok (.areturn, 1)) (hlocks : meth.locks = false) : W p l e R s m args below meth c H locs cells slots (MQ below (va_Qr (fun u : QS => u = S) (fun u a t => a = ad x ∧ Bt D ca ad u t) (Aq ad s.heap.size)) args s cells slots (Aq ad s.heap.size)) (F0 m pc ls [.ref (ad x)]) :=
  W.aret hx hb hr (Or.inl ⟨C, rfl⟩) (Or.inr ⟨_, rfl⟩) (fun t ht hW => ⟨⟨S, ad x, rfl, rfl, rfl, by unfold Bt; rw [ht]; exact hP⟩, hS.F ht⟩) hS.2.2 hdg hlocks
/-! calls, by what runs them -/
theorem r_pre (hKK : KK D ca s) (hP : va_P D vwCl (wd ca ad S) H) {As : List Value} : PreS s H (va_Pc As (Pre D ca ad S H.size)) As := ⟨Pre.blind, fun U hU hW => ⟨rfl, by rw [hU], by rw [hU]; exact hP, hKK.warm hW⟩⟩
theorem r_preV (hKK : KK D ca s) (hP : va_P D vwCl (wd ca ad S) H) {As : List Value} {b ci : Nat} {q : vw_C} (hk : qk b = ci) (hc : vwCl[ci]? = some q) : PreV s H q.1 (ad b) (va_Pc (.ref (ad b) :: As) (Pre D ca ad S H.size)) As := ⟨Pre.blind, r_recv hKK hP hk hc, fun U hU hW => ⟨rfl, by rw [hU], by rw [hU]; exact hP, hKK.warm hW⟩⟩
variable {a : Array Value} {st0 : List Value}
theorem r_cv (hS : va_S (Aq ad s.heap.size) s.heap H locs) (hr : va_Run p l e R s m args below meth c H locs cells slots 0 0 (F0 m pc ls st0) rest (va_Qv (fun u : QS => u = S1) (Bt D ca ad) (Aq ad H.size) a) (Aq ad H.size)) (kk : ∀ (H1 : Heap) (locs1 : List Loc), va_P D vwCl (wd ca ad S1) H1 → va_S (Aq ad s.heap.size) s.heap H1 locs1 → W p l e R s m args below meth c H1 locs1 cells slots Q (F0 m (pc + 3) ls rest)) : W p l e R s m args below meth c H locs cells slots Q (F0 m pc ls st0) := by
  refine va_callv hr hS (fun q _ h => hFree hS h) (fun q h => hFree hS h) (fun u t H1 locs1 ht _ hu hB _ _ hS1 => ?_)
  subst hu
  subst ht
  exact kk _ _ hB hS1
theorem r_ci (hS : va_S (Aq ad s.heap.size) s.heap H locs) {x : Int32} (hr : va_Run p l e R s m args below meth c H locs cells slots 0 0 (F0 m pc ls st0) rest (va_Qi (fun (r : Int32) (u : QS) => r = x ∧ u = S1) (Bt D ca ad) (Aq ad H.size) a) (Aq ad H.size)) (kk : ∀ (H1 : Heap) (locs1 : List Loc), va_P D vwCl (wd ca ad S1) H1 → va_S (Aq ad s.heap.size) s.heap H1 locs1 → W p l e R s m args below meth c H1 locs1 cells slots Q (F0 m (pc + 3) ls (.int x :: rest))) : W p l e R s m args below meth c H locs cells slots Q (F0 m pc ls st0) := by
  refine va_calli hr hS (fun q _ h => hFree hS h) (fun q h => hFree hS h) (fun r u t H1 locs1 ht _ hu hB _ _ hS1 => ?_)
  obtain ⟨rfl, rfl⟩ := hu
  subst ht
  exact kk _ _ hB hS1
theorem r_cl (hS : va_S (Aq ad s.heap.size) s.heap H locs) {x : Int64} (hr : va_Run p l e R s m args below meth c H locs cells slots 0 0 (F0 m pc ls st0) rest (va_Ql (fun (r : Int64) (u : QS) => r = x ∧ u = S1) (Bt D ca ad) (Aq ad H.size) a) (Aq ad H.size)) (kk : ∀ (H1 : Heap) (locs1 : List Loc), va_P D vwCl (wd ca ad S1) H1 → va_S (Aq ad s.heap.size) s.heap H1 locs1 → W p l e R s m args below meth c H1 locs1 cells slots Q (F0 m (pc + 3) ls (.long x :: rest))) : W p l e R s m args below meth c H locs cells slots Q (F0 m pc ls st0) := by
  refine va_calll hr hS (fun q _ h => hFree hS h) (fun q h => hFree hS h) (fun r u t H1 locs1 ht _ hu hB _ _ hS1 => ?_)
  obtain ⟨rfl, rfl⟩ := hu
  subst ht
  exact kk _ _ hB hS1
theorem r_cr (hS : va_S (Aq ad s.heap.size) s.heap H locs) {x : Nat} (hr : va_Run p l e R s m args below meth c H locs cells slots 0 0 (F0 m pc ls st0) rest (va_Qr (fun u : QS => u = S1) (fun u a t => a = ad x ∧ Bt D ca ad u t) (Aq ad H.size) a) (Aq ad H.size)) (kk : ∀ (H1 : Heap) (locs1 : List Loc), va_P D vwCl (wd ca ad S1) H1 → va_S (Aq ad s.heap.size) s.heap H1 locs1 → W p l e R s m args below meth c H1 locs1 cells slots Q (F0 m (pc + 3) ls (.ref (ad x) :: rest))) : W p l e R s m args below meth c H locs cells slots Q (F0 m pc ls st0) := by
  refine va_callr hr hS (fun q _ h => hFree hS h) (fun q h => hFree hS h) (fun u ra t H1 locs1 ht _ hu hB _ _ hS1 => ?_)
  obtain ⟨h1, h2⟩ := hB
  subst hu
  subst h1
  subst ht
  exact kk _ _ h2 hS1
theorem g_X0_mass (hx : p.tables.exec = Jvm.exec) (hb : c.code = cc) (hX : ∀ w ∈ wsX00, w.before args s = true) (hown : s.vm.findClass own = some m.cls) (hKK : KK D ca s) (hP : va_P D vwCl (wd ca ad S) H) {k : Nat} (hk : qk k = 0) (hl : (Cond.fieldLink own index "CrashDesk$Car" "mass" "I").before args s = true) (hdg : decode cc pc = .ok (.getfield index, 3)) (kk : W p l e R s m args below meth c H locs cells slots Q (F0 m (pc + 3) ls (.int (S.1 k 0) :: rest))) : W p l e R s m args below meth c H locs cells slots Q (F0 m pc ls (.ref (ad k) :: rest)) :=
  va_get (D := D) (ci := 0) (C := RX0) (T := TX0) (N := 10) hx hb hX (fun _ h => h) hown hKK.1 hP k ((wd_at (qk_lt hk (by decide))).trans (by rw [cel_0 hk])) rfl 0 (by decide) hl (fun _ h => h) rfl hdg kk
theorem p_X0_mass (hx : p.tables.exec = Jvm.exec) (hb : c.code = cc) (hX : ∀ w ∈ wsX00, w.before args s = true) (hown : s.vm.findClass own = some m.cls) (hj : Inj ad) (hKK : KK D ca s) (hP : va_P D vwCl (wd ca ad S) H) (hS : va_S (Aq ad s.heap.size) s.heap H locs) {k : Nat} {x : Int32} (hk : qk k = 0) (hl : (Cond.fieldLink own index "CrashDesk$Car" "mass" "I").before args s = true) (hdg : decode cc pc = .ok (.putfield index, 3)) (kk : ∀ (H1 : Heap) (locs1 : List Loc), va_P D vwCl (wd ca ad (setF k 0 x S)) H1 → va_S (Aq ad s.heap.size) s.heap H1 locs1 → W p l e R s m args below meth c H1 locs1 cells slots Q (F0 m (pc + 3) ls rest)) : W p l e R s m args below meth c H locs cells slots Q (F0 m pc ls (.int x :: .ref (ad k) :: rest)) := by
  have h68 : k < 68 := qk_lt hk (by decide)
  refine va_put (D := D) (ci := 0) (C := RX0) (T := TX0) (N := 10) (ty := .int) hx hb hX (fun _ h => h) tyX0 tyX0_ok nmX0 hown hKK.1 hP (wd_D hj) hS k ((wd_at h68).trans (by rw [cel_0 hk])) rfl 0 (by decide) hl (fun _ h => h) rfl (by decide +kernel) rfl rfl (Nat.le_of_ble_eq_true rfl) hdg (fun H1 locs1 hP1 _ hS1 => kk H1 locs1 ?_ hS1)
  have e := wd_setV (ca := ca) (ad := ad) (S := S) (k := k) (r := upd (S.1 k) 0 x) h68 (cel_0 hk)
  show va_P D vwCl (wd ca ad (va_up S.1 k (upd (S.1 k) 0 x), S.2)) H1
  rw [← e]
  exact hP1
theorem g_X0_first (hx : p.tables.exec = Jvm.exec) (hb : c.code = cc) (hX : ∀ w ∈ wsX00, w.before args s = true) (hown : s.vm.findClass own = some m.cls) (hKK : KK D ca s) (hP : va_P D vwCl (wd ca ad S) H) {k : Nat} (hk : qk k = 0) (hl : (Cond.fieldLink own index "CrashDesk$Car" "first" "LCrashDesk$Speed;").before args s = true) (hdg : decode cc pc = .ok (.getfield index, 3)) (kk : W p l e R s m args below meth c H locs cells slots Q (F0 m (pc + 3) ls (.ref (ad (k + 1)) :: rest))) : W p l e R s m args below meth c H locs cells slots Q (F0 m pc ls (.ref (ad k) :: rest)) :=
  va_get (D := D) (ci := 0) (C := RX0) (T := TX0) (N := 10) hx hb hX (fun _ h => h) hown hKK.1 hP k ((wd_at (qk_lt hk (by decide))).trans (by rw [cel_0 hk])) rfl 1 (by decide) hl (fun _ h => h) rfl hdg kk
theorem g_X0_at (hx : p.tables.exec = Jvm.exec) (hb : c.code = cc) (hX : ∀ w ∈ wsX00, w.before args s = true) (hown : s.vm.findClass own = some m.cls) (hKK : KK D ca s) (hP : va_P D vwCl (wd ca ad S) H) {k : Nat} (hk : qk k = 0) (hl : (Cond.fieldLink own index "CrashDesk$Car" "at" "LCrashDesk$Speed;").before args s = true) (hdg : decode cc pc = .ok (.getfield index, 3)) (kk : W p l e R s m args below meth c H locs cells slots Q (F0 m (pc + 3) ls (.ref (ad (k + 4)) :: rest))) : W p l e R s m args below meth c H locs cells slots Q (F0 m pc ls (.ref (ad k) :: rest)) :=
  va_get (D := D) (ci := 0) (C := RX0) (T := TX0) (N := 10) hx hb hX (fun _ h => h) hown hKK.1 hP k ((wd_at (qk_lt hk (by decide))).trans (by rw [cel_0 hk])) rfl 2 (by decide) hl (fun _ h => h) rfl hdg kk
theorem g_X0_after (hx : p.tables.exec = Jvm.exec) (hb : c.code = cc) (hX : ∀ w ∈ wsX00, w.before args s = true) (hown : s.vm.findClass own = some m.cls) (hKK : KK D ca s) (hP : va_P D vwCl (wd ca ad S) H) {k : Nat} (hk : qk k = 0) (hl : (Cond.fieldLink own index "CrashDesk$Car" "after" "LCrashDesk$Speed;").before args s = true) (hdg : decode cc pc = .ok (.getfield index, 3)) (kk : W p l e R s m args below meth c H locs cells slots Q (F0 m (pc + 3) ls (.ref (ad (k + 7)) :: rest))) : W p l e R s m args below meth c H locs cells slots Q (F0 m pc ls (.ref (ad k) :: rest)) :=
  va_get (D := D) (ci := 0) (C := RX0) (T := TX0) (N := 10) hx hb hX (fun _ h => h) hown hKK.1 hP k ((wd_at (qk_lt hk (by decide))).trans (by rw [cel_0 hk])) rfl 3 (by decide) hl (fun _ h => h) rfl hdg kk
theorem g_X0_firstCounts (hx : p.tables.exec = Jvm.exec) (hb : c.code = cc) (hX : ∀ w ∈ wsX00, w.before args s = true) (hown : s.vm.findClass own = some m.cls) (hKK : KK D ca s) (hP : va_P D vwCl (wd ca ad S) H) {k : Nat} (hk : qk k = 0) (hl : (Cond.fieldLink own index "CrashDesk$Car" "firstCounts" "[I").before args s = true) (hdg : decode cc pc = .ok (.getfield index, 3)) (kk : W p l e R s m args below meth c H locs cells slots Q (F0 m (pc + 3) ls (.ref (ad (k + 10)) :: rest))) : W p l e R s m args below meth c H locs cells slots Q (F0 m pc ls (.ref (ad k) :: rest)) :=
  va_get (D := D) (ci := 0) (C := RX0) (T := TX0) (N := 10) hx hb hX (fun _ h => h) hown hKK.1 hP k ((wd_at (qk_lt hk (by decide))).trans (by rw [cel_0 hk])) rfl 4 (by decide) hl (fun _ h => h) rfl hdg kk
theorem gN_X0_firstCounts (hx : p.tables.exec = Jvm.exec) (hb : c.code = cc) (hX : ∀ w ∈ wsX00, w.before args s = true) (hown : s.vm.findClass own = some m.cls) (hKK : KK D ca s) (hP : va_P D vwCl (wd ca ad S) H) {k : Nat} (hk : qk k = 0) (hl : va_Nw (.fieldLinkNest own index "CrashDesk$Car" "firstCounts" "[I" "CrashDesk") s) (hdg : decode cc pc = .ok (.getfield index, 3)) (kk : W p l e R s m args below meth c H locs cells slots Q (F0 m (pc + 3) ls (.ref (ad (k + 10)) :: rest))) : W p l e R s m args below meth c H locs cells slots Q (F0 m pc ls (.ref (ad k) :: rest)) :=
  va_getN (D := D) (ci := 0) (C := RX0) (T := TX0) (N := 10) hx hb hX (fun _ h => h) hown hKK.1 hP k ((wd_at (qk_lt hk (by decide))).trans (by rw [cel_0 hk])) rfl 4 (by decide) (va_Nw.use rfl hl) (fun _ h => h) rfl hdg kk
theorem g_X0_aheadLeast (hx : p.tables.exec = Jvm.exec) (hb : c.code = cc) (hX : ∀ w ∈ wsX00, w.before args s = true) (hown : s.vm.findClass own = some m.cls) (hKK : KK D ca s) (hP : va_P D vwCl (wd ca ad S) H) {k : Nat} (hk : qk k = 0) (hl : (Cond.fieldLink own index "CrashDesk$Car" "aheadLeast" "I").before args s = true) (hdg : decode cc pc = .ok (.getfield index, 3)) (kk : W p l e R s m args below meth c H locs cells slots Q (F0 m (pc + 3) ls (.int (S.1 k 5) :: rest))) : W p l e R s m args below meth c H locs cells slots Q (F0 m pc ls (.ref (ad k) :: rest)) :=
  va_get (D := D) (ci := 0) (C := RX0) (T := TX0) (N := 10) hx hb hX (fun _ h => h) hown hKK.1 hP k ((wd_at (qk_lt hk (by decide))).trans (by rw [cel_0 hk])) rfl 5 (by decide) hl (fun _ h => h) rfl hdg kk
theorem p_X0_aheadLeast (hx : p.tables.exec = Jvm.exec) (hb : c.code = cc) (hX : ∀ w ∈ wsX00, w.before args s = true) (hown : s.vm.findClass own = some m.cls) (hj : Inj ad) (hKK : KK D ca s) (hP : va_P D vwCl (wd ca ad S) H) (hS : va_S (Aq ad s.heap.size) s.heap H locs) {k : Nat} {x : Int32} (hk : qk k = 0) (hl : (Cond.fieldLink own index "CrashDesk$Car" "aheadLeast" "I").before args s = true) (hdg : decode cc pc = .ok (.putfield index, 3)) (kk : ∀ (H1 : Heap) (locs1 : List Loc), va_P D vwCl (wd ca ad (setF k 5 x S)) H1 → va_S (Aq ad s.heap.size) s.heap H1 locs1 → W p l e R s m args below meth c H1 locs1 cells slots Q (F0 m (pc + 3) ls rest)) : W p l e R s m args below meth c H locs cells slots Q (F0 m pc ls (.int x :: .ref (ad k) :: rest)) := by
  have h68 : k < 68 := qk_lt hk (by decide)
  refine va_put (D := D) (ci := 0) (C := RX0) (T := TX0) (N := 10) (ty := .int) hx hb hX (fun _ h => h) tyX0 tyX0_ok nmX0 hown hKK.1 hP (wd_D hj) hS k ((wd_at h68).trans (by rw [cel_0 hk])) rfl 5 (by decide) hl (fun _ h => h) rfl (by decide +kernel) rfl rfl (Nat.le_of_ble_eq_true rfl) hdg (fun H1 locs1 hP1 _ hS1 => kk H1 locs1 ?_ hS1)
  have e := wd_setV (ca := ca) (ad := ad) (S := S) (k := k) (r := upd (S.1 k) 5 x) h68 (cel_0 hk)
  show va_P D vwCl (wd ca ad (va_up S.1 k (upd (S.1 k) 5 x), S.2)) H1
  rw [← e]
  exact hP1
theorem g_X0_aheadGreatest (hx : p.tables.exec = Jvm.exec) (hb : c.code = cc) (hX : ∀ w ∈ wsX00, w.before args s = true) (hown : s.vm.findClass own = some m.cls) (hKK : KK D ca s) (hP : va_P D vwCl (wd ca ad S) H) {k : Nat} (hk : qk k = 0) (hl : (Cond.fieldLink own index "CrashDesk$Car" "aheadGreatest" "I").before args s = true) (hdg : decode cc pc = .ok (.getfield index, 3)) (kk : W p l e R s m args below meth c H locs cells slots Q (F0 m (pc + 3) ls (.int (S.1 k 6) :: rest))) : W p l e R s m args below meth c H locs cells slots Q (F0 m pc ls (.ref (ad k) :: rest)) :=
  va_get (D := D) (ci := 0) (C := RX0) (T := TX0) (N := 10) hx hb hX (fun _ h => h) hown hKK.1 hP k ((wd_at (qk_lt hk (by decide))).trans (by rw [cel_0 hk])) rfl 6 (by decide) hl (fun _ h => h) rfl hdg kk
theorem p_X0_aheadGreatest (hx : p.tables.exec = Jvm.exec) (hb : c.code = cc) (hX : ∀ w ∈ wsX00, w.before args s = true) (hown : s.vm.findClass own = some m.cls) (hj : Inj ad) (hKK : KK D ca s) (hP : va_P D vwCl (wd ca ad S) H) (hS : va_S (Aq ad s.heap.size) s.heap H locs) {k : Nat} {x : Int32} (hk : qk k = 0) (hl : (Cond.fieldLink own index "CrashDesk$Car" "aheadGreatest" "I").before args s = true) (hdg : decode cc pc = .ok (.putfield index, 3)) (kk : ∀ (H1 : Heap) (locs1 : List Loc), va_P D vwCl (wd ca ad (setF k 6 x S)) H1 → va_S (Aq ad s.heap.size) s.heap H1 locs1 → W p l e R s m args below meth c H1 locs1 cells slots Q (F0 m (pc + 3) ls rest)) : W p l e R s m args below meth c H locs cells slots Q (F0 m pc ls (.int x :: .ref (ad k) :: rest)) := by
  have h68 : k < 68 := qk_lt hk (by decide)
  refine va_put (D := D) (ci := 0) (C := RX0) (T := TX0) (N := 10) (ty := .int) hx hb hX (fun _ h => h) tyX0 tyX0_ok nmX0 hown hKK.1 hP (wd_D hj) hS k ((wd_at h68).trans (by rw [cel_0 hk])) rfl 6 (by decide) hl (fun _ h => h) rfl (by decide +kernel) rfl rfl (Nat.le_of_ble_eq_true rfl) hdg (fun H1 locs1 hP1 _ hS1 => kk H1 locs1 ?_ hS1)
  have e := wd_setV (ca := ca) (ad := ad) (S := S) (k := k) (r := upd (S.1 k) 6 x) h68 (cel_0 hk)
  show va_P D vwCl (wd ca ad (va_up S.1 k (upd (S.1 k) 6 x), S.2)) H1
  rw [← e]
  exact hP1
theorem g_X0_behindLeast (hx : p.tables.exec = Jvm.exec) (hb : c.code = cc) (hX : ∀ w ∈ wsX00, w.before args s = true) (hown : s.vm.findClass own = some m.cls) (hKK : KK D ca s) (hP : va_P D vwCl (wd ca ad S) H) {k : Nat} (hk : qk k = 0) (hl : (Cond.fieldLink own index "CrashDesk$Car" "behindLeast" "I").before args s = true) (hdg : decode cc pc = .ok (.getfield index, 3)) (kk : W p l e R s m args below meth c H locs cells slots Q (F0 m (pc + 3) ls (.int (S.1 k 7) :: rest))) : W p l e R s m args below meth c H locs cells slots Q (F0 m pc ls (.ref (ad k) :: rest)) :=
  va_get (D := D) (ci := 0) (C := RX0) (T := TX0) (N := 10) hx hb hX (fun _ h => h) hown hKK.1 hP k ((wd_at (qk_lt hk (by decide))).trans (by rw [cel_0 hk])) rfl 7 (by decide) hl (fun _ h => h) rfl hdg kk
theorem p_X0_behindLeast (hx : p.tables.exec = Jvm.exec) (hb : c.code = cc) (hX : ∀ w ∈ wsX00, w.before args s = true) (hown : s.vm.findClass own = some m.cls) (hj : Inj ad) (hKK : KK D ca s) (hP : va_P D vwCl (wd ca ad S) H) (hS : va_S (Aq ad s.heap.size) s.heap H locs) {k : Nat} {x : Int32} (hk : qk k = 0) (hl : (Cond.fieldLink own index "CrashDesk$Car" "behindLeast" "I").before args s = true) (hdg : decode cc pc = .ok (.putfield index, 3)) (kk : ∀ (H1 : Heap) (locs1 : List Loc), va_P D vwCl (wd ca ad (setF k 7 x S)) H1 → va_S (Aq ad s.heap.size) s.heap H1 locs1 → W p l e R s m args below meth c H1 locs1 cells slots Q (F0 m (pc + 3) ls rest)) : W p l e R s m args below meth c H locs cells slots Q (F0 m pc ls (.int x :: .ref (ad k) :: rest)) := by
  have h68 : k < 68 := qk_lt hk (by decide)
  refine va_put (D := D) (ci := 0) (C := RX0) (T := TX0) (N := 10) (ty := .int) hx hb hX (fun _ h => h) tyX0 tyX0_ok nmX0 hown hKK.1 hP (wd_D hj) hS k ((wd_at h68).trans (by rw [cel_0 hk])) rfl 7 (by decide) hl (fun _ h => h) rfl (by decide +kernel) rfl rfl (Nat.le_of_ble_eq_true rfl) hdg (fun H1 locs1 hP1 _ hS1 => kk H1 locs1 ?_ hS1)
  have e := wd_setV (ca := ca) (ad := ad) (S := S) (k := k) (r := upd (S.1 k) 7 x) h68 (cel_0 hk)
  show va_P D vwCl (wd ca ad (va_up S.1 k (upd (S.1 k) 7 x), S.2)) H1
  rw [← e]
  exact hP1
theorem g_X0_behindGreatest (hx : p.tables.exec = Jvm.exec) (hb : c.code = cc) (hX : ∀ w ∈ wsX00, w.before args s = true) (hown : s.vm.findClass own = some m.cls) (hKK : KK D ca s) (hP : va_P D vwCl (wd ca ad S) H) {k : Nat} (hk : qk k = 0) (hl : (Cond.fieldLink own index "CrashDesk$Car" "behindGreatest" "I").before args s = true) (hdg : decode cc pc = .ok (.getfield index, 3)) (kk : W p l e R s m args below meth c H locs cells slots Q (F0 m (pc + 3) ls (.int (S.1 k 8) :: rest))) : W p l e R s m args below meth c H locs cells slots Q (F0 m pc ls (.ref (ad k) :: rest)) :=
  va_get (D := D) (ci := 0) (C := RX0) (T := TX0) (N := 10) hx hb hX (fun _ h => h) hown hKK.1 hP k ((wd_at (qk_lt hk (by decide))).trans (by rw [cel_0 hk])) rfl 8 (by decide) hl (fun _ h => h) rfl hdg kk
theorem p_X0_behindGreatest (hx : p.tables.exec = Jvm.exec) (hb : c.code = cc) (hX : ∀ w ∈ wsX00, w.before args s = true) (hown : s.vm.findClass own = some m.cls) (hj : Inj ad) (hKK : KK D ca s) (hP : va_P D vwCl (wd ca ad S) H) (hS : va_S (Aq ad s.heap.size) s.heap H locs) {k : Nat} {x : Int32} (hk : qk k = 0) (hl : (Cond.fieldLink own index "CrashDesk$Car" "behindGreatest" "I").before args s = true) (hdg : decode cc pc = .ok (.putfield index, 3)) (kk : ∀ (H1 : Heap) (locs1 : List Loc), va_P D vwCl (wd ca ad (setF k 8 x S)) H1 → va_S (Aq ad s.heap.size) s.heap H1 locs1 → W p l e R s m args below meth c H1 locs1 cells slots Q (F0 m (pc + 3) ls rest)) : W p l e R s m args below meth c H locs cells slots Q (F0 m pc ls (.int x :: .ref (ad k) :: rest)) := by
  have h68 : k < 68 := qk_lt hk (by decide)
  refine va_put (D := D) (ci := 0) (C := RX0) (T := TX0) (N := 10) (ty := .int) hx hb hX (fun _ h => h) tyX0 tyX0_ok nmX0 hown hKK.1 hP (wd_D hj) hS k ((wd_at h68).trans (by rw [cel_0 hk])) rfl 8 (by decide) hl (fun _ h => h) rfl (by decide +kernel) rfl rfl (Nat.le_of_ble_eq_true rfl) hdg (fun H1 locs1 hP1 _ hS1 => kk H1 locs1 ?_ hS1)
  have e := wd_setV (ca := ca) (ad := ad) (S := S) (k := k) (r := upd (S.1 k) 8 x) h68 (cel_0 hk)
  show va_P D vwCl (wd ca ad (va_up S.1 k (upd (S.1 k) 8 x), S.2)) H1
  rw [← e]
  exact hP1
theorem g_X0_skidsBehind (hx : p.tables.exec = Jvm.exec) (hb : c.code = cc) (hX : ∀ w ∈ wsX00, w.before args s = true) (hown : s.vm.findClass own = some m.cls) (hKK : KK D ca s) (hP : va_P D vwCl (wd ca ad S) H) {k : Nat} (hk : qk k = 0) (hl : (Cond.fieldLink own index "CrashDesk$Car" "skidsBehind" "Z").before args s = true) (hdg : decode cc pc = .ok (.getfield index, 3)) (kk : W p l e R s m args below meth c H locs cells slots Q (F0 m (pc + 3) ls (.int (S.1 k 9) :: rest))) : W p l e R s m args below meth c H locs cells slots Q (F0 m pc ls (.ref (ad k) :: rest)) :=
  va_get (D := D) (ci := 0) (C := RX0) (T := TX0) (N := 10) hx hb hX (fun _ h => h) hown hKK.1 hP k ((wd_at (qk_lt hk (by decide))).trans (by rw [cel_0 hk])) rfl 9 (by decide) hl (fun _ h => h) rfl hdg kk
theorem p_X0_skidsBehind (hx : p.tables.exec = Jvm.exec) (hb : c.code = cc) (hX : ∀ w ∈ wsX00, w.before args s = true) (hown : s.vm.findClass own = some m.cls) (hj : Inj ad) (hKK : KK D ca s) (hP : va_P D vwCl (wd ca ad S) H) (hS : va_S (Aq ad s.heap.size) s.heap H locs) {k : Nat} {x : Int32} (hk : qk k = 0) (h : stZ k 9 x S = some S1) (hl : (Cond.fieldLink own index "CrashDesk$Car" "skidsBehind" "Z").before args s = true) (hdg : decode cc pc = .ok (.putfield index, 3)) (kk : ∀ (H1 : Heap) (locs1 : List Loc), va_P D vwCl (wd ca ad S1) H1 → va_S (Aq ad s.heap.size) s.heap H1 locs1 → W p l e R s m args below meth c H1 locs1 cells slots Q (F0 m (pc + 3) ls rest)) : W p l e R s m args below meth c H locs cells slots Q (F0 m pc ls (.int x :: .ref (ad k) :: rest)) := by
  obtain ⟨hz, rfl⟩ := q_stZ h
  have h68 : k < 68 := qk_lt hk (by decide)
  refine va_put (D := D) (ci := 0) (C := RX0) (T := TX0) (N := 10) (ty := .boolean) hx hb hX (fun _ h => h) tyX0 tyX0_ok nmX0 hown hKK.1 hP (wd_D hj) hS k ((wd_at h68).trans (by rw [cel_0 hk])) rfl 9 (by decide) hl (fun _ h => h) rfl (by decide +kernel) (q_nz hz) (q_fz hz) (Nat.le_of_ble_eq_true rfl) hdg (fun H1 locs1 hP1 _ hS1 => kk H1 locs1 ?_ hS1)
  have e := wd_setV (ca := ca) (ad := ad) (S := S) (k := k) (r := upd (S.1 k) 9 x) h68 (cel_0 hk)
  show va_P D vwCl (wd ca ad (va_up S.1 k (upd (S.1 k) 9 x), S.2)) H1
  rw [← e]
  exact hP1
theorem g_X1_zero (hx : p.tables.exec = Jvm.exec) (hb : c.code = cc) (hX : ∀ w ∈ wsX10, w.before args s = true) (hown : s.vm.findClass own = some m.cls) (hKK : KK D ca s) (hP : va_P D vwCl (wd ca ad S) H) {k : Nat} (hk : qk k = 1) (hl : (Cond.fieldLink own index "CrashDesk$Meeting" "zero" "LCrashDesk$Car;").before args s = true) (hdg : decode cc pc = .ok (.getfield index, 3)) (kk : W p l e R s m args below meth c H locs cells slots Q (F0 m (pc + 3) ls (.ref (ad 26) :: rest))) : W p l e R s m args below meth c H locs cells slots Q (F0 m pc ls (.ref (ad k) :: rest)) :=
  va_get (D := D) (ci := 1) (C := RX1) (T := TX1) (N := 6) hx hb hX (fun _ h => h) hown hKK.1 hP k ((wd_at (qk_lt hk (by decide))).trans (by rw [cel_1 hk])) rfl 0 (by decide) hl (fun _ h => h) rfl hdg kk
theorem g_X1_one (hx : p.tables.exec = Jvm.exec) (hb : c.code = cc) (hX : ∀ w ∈ wsX10, w.before args s = true) (hown : s.vm.findClass own = some m.cls) (hKK : KK D ca s) (hP : va_P D vwCl (wd ca ad S) H) {k : Nat} (hk : qk k = 1) (hl : (Cond.fieldLink own index "CrashDesk$Meeting" "one" "LCrashDesk$Car;").before args s = true) (hdg : decode cc pc = .ok (.getfield index, 3)) (kk : W p l e R s m args below meth c H locs cells slots Q (F0 m (pc + 3) ls (.ref (ad 37) :: rest))) : W p l e R s m args below meth c H locs cells slots Q (F0 m pc ls (.ref (ad k) :: rest)) :=
  va_get (D := D) (ci := 1) (C := RX1) (T := TX1) (N := 6) hx hb hX (fun _ h => h) hown hKK.1 hP k ((wd_at (qk_lt hk (by decide))).trans (by rw [cel_1 hk])) rfl 1 (by decide) hl (fun _ h => h) rfl hdg kk
theorem g_X1_wayCount (hx : p.tables.exec = Jvm.exec) (hb : c.code = cc) (hX : ∀ w ∈ wsX10, w.before args s = true) (hown : s.vm.findClass own = some m.cls) (hKK : KK D ca s) (hP : va_P D vwCl (wd ca ad S) H) {k : Nat} (hk : qk k = 1) (hl : (Cond.fieldLink own index "CrashDesk$Meeting" "wayCount" "J").before args s = true) (hdg : decode cc pc = .ok (.getfield index, 3)) (kk : W p l e R s m args below meth c H locs cells slots Q (F0 m (pc + 3) ls (.long (S.2 k) :: rest))) : W p l e R s m args below meth c H locs cells slots Q (F0 m pc ls (.ref (ad k) :: rest)) :=
  va_get (D := D) (ci := 1) (C := RX1) (T := TX1) (N := 6) hx hb hX (fun _ h => h) hown hKK.1 hP k ((wd_at (qk_lt hk (by decide))).trans (by rw [cel_1 hk])) rfl 2 (by decide) hl (fun _ h => h) rfl hdg kk
theorem p_X1_wayCount (hx : p.tables.exec = Jvm.exec) (hb : c.code = cc) (hX : ∀ w ∈ wsX10, w.before args s = true) (hown : s.vm.findClass own = some m.cls) (hj : Inj ad) (hKK : KK D ca s) (hP : va_P D vwCl (wd ca ad S) H) (hS : va_S (Aq ad s.heap.size) s.heap H locs) {k : Nat} {x : Int64} (hk : qk k = 1) (h : stL k x S = some S1) (hl : (Cond.fieldLink own index "CrashDesk$Meeting" "wayCount" "J").before args s = true) (hdg : decode cc pc = .ok (.putfield index, 3)) (kk : ∀ (H1 : Heap) (locs1 : List Loc), va_P D vwCl (wd ca ad S1) H1 → va_S (Aq ad s.heap.size) s.heap H1 locs1 → W p l e R s m args below meth c H1 locs1 cells slots Q (F0 m (pc + 3) ls rest)) : W p l e R s m args below meth c H locs cells slots Q (F0 m pc ls (.long x :: .ref (ad k) :: rest)) := by
  obtain rfl := Option.some.inj h
  have h68 : k < 68 := qk_lt hk (by decide)
  refine va_put (D := D) (ci := 1) (C := RX1) (T := TX1) (N := 6) (ty := .long) hx hb hX (fun _ h => h) tyX1 tyX1_ok nmX1 hown hKK.1 hP (wd_D hj) hS k ((wd_at h68).trans (by rw [cel_1 hk])) rfl 2 (by decide) hl (fun _ h => h) rfl (by decide +kernel) rfl rfl (Nat.le_of_ble_eq_true rfl) hdg (fun H1 locs1 hP1 _ hS1 => kk H1 locs1 ?_ hS1)
  have e := wd_setM (ca := ca) (ad := ad) (S := S) (k := k) (x := x) h68 (cel_1 hk)
  show va_P D vwCl (wd ca ad (S.1, va_up S.2 k x)) H1
  rw [← e]
  rw [va_up_self]
  exact hP1
theorem g_X1_cheapest (hx : p.tables.exec = Jvm.exec) (hb : c.code = cc) (hX : ∀ w ∈ wsX10, w.before args s = true) (hown : s.vm.findClass own = some m.cls) (hKK : KK D ca s) (hP : va_P D vwCl (wd ca ad S) H) {k : Nat} (hk : qk k = 1) (hl : (Cond.fieldLink own index "CrashDesk$Meeting" "cheapest" "I").before args s = true) (hdg : decode cc pc = .ok (.getfield index, 3)) (kk : W p l e R s m args below meth c H locs cells slots Q (F0 m (pc + 3) ls (.int (S.1 k 3) :: rest))) : W p l e R s m args below meth c H locs cells slots Q (F0 m pc ls (.ref (ad k) :: rest)) :=
  va_get (D := D) (ci := 1) (C := RX1) (T := TX1) (N := 6) hx hb hX (fun _ h => h) hown hKK.1 hP k ((wd_at (qk_lt hk (by decide))).trans (by rw [cel_1 hk])) rfl 3 (by decide) hl (fun _ h => h) rfl hdg kk
theorem p_X1_cheapest (hx : p.tables.exec = Jvm.exec) (hb : c.code = cc) (hX : ∀ w ∈ wsX10, w.before args s = true) (hown : s.vm.findClass own = some m.cls) (hj : Inj ad) (hKK : KK D ca s) (hP : va_P D vwCl (wd ca ad S) H) (hS : va_S (Aq ad s.heap.size) s.heap H locs) {k : Nat} {x : Int32} (hk : qk k = 1) (hl : (Cond.fieldLink own index "CrashDesk$Meeting" "cheapest" "I").before args s = true) (hdg : decode cc pc = .ok (.putfield index, 3)) (kk : ∀ (H1 : Heap) (locs1 : List Loc), va_P D vwCl (wd ca ad (setF k 3 x S)) H1 → va_S (Aq ad s.heap.size) s.heap H1 locs1 → W p l e R s m args below meth c H1 locs1 cells slots Q (F0 m (pc + 3) ls rest)) : W p l e R s m args below meth c H locs cells slots Q (F0 m pc ls (.int x :: .ref (ad k) :: rest)) := by
  have h68 : k < 68 := qk_lt hk (by decide)
  refine va_put (D := D) (ci := 1) (C := RX1) (T := TX1) (N := 6) (ty := .int) hx hb hX (fun _ h => h) tyX1 tyX1_ok nmX1 hown hKK.1 hP (wd_D hj) hS k ((wd_at h68).trans (by rw [cel_1 hk])) rfl 3 (by decide) hl (fun _ h => h) rfl (by decide +kernel) rfl rfl (Nat.le_of_ble_eq_true rfl) hdg (fun H1 locs1 hP1 _ hS1 => kk H1 locs1 ?_ hS1)
  have e := wd_setV (ca := ca) (ad := ad) (S := S) (k := k) (r := upd (S.1 k) 3 x) h68 (cel_1 hk)
  show va_P D vwCl (wd ca ad (va_up S.1 k (upd (S.1 k) 3 x), S.2)) H1
  rw [← e]
  exact hP1
theorem g_X1_loss (hx : p.tables.exec = Jvm.exec) (hb : c.code = cc) (hX : ∀ w ∈ wsX10, w.before args s = true) (hown : s.vm.findClass own = some m.cls) (hKK : KK D ca s) (hP : va_P D vwCl (wd ca ad S) H) {k : Nat} (hk : qk k = 1) (hl : (Cond.fieldLink own index "CrashDesk$Meeting" "loss" "I").before args s = true) (hdg : decode cc pc = .ok (.getfield index, 3)) (kk : W p l e R s m args below meth c H locs cells slots Q (F0 m (pc + 3) ls (.int (S.1 k 4) :: rest))) : W p l e R s m args below meth c H locs cells slots Q (F0 m pc ls (.ref (ad k) :: rest)) :=
  va_get (D := D) (ci := 1) (C := RX1) (T := TX1) (N := 6) hx hb hX (fun _ h => h) hown hKK.1 hP k ((wd_at (qk_lt hk (by decide))).trans (by rw [cel_1 hk])) rfl 4 (by decide) hl (fun _ h => h) rfl hdg kk
theorem p_X1_loss (hx : p.tables.exec = Jvm.exec) (hb : c.code = cc) (hX : ∀ w ∈ wsX10, w.before args s = true) (hown : s.vm.findClass own = some m.cls) (hj : Inj ad) (hKK : KK D ca s) (hP : va_P D vwCl (wd ca ad S) H) (hS : va_S (Aq ad s.heap.size) s.heap H locs) {k : Nat} {x : Int32} (hk : qk k = 1) (hl : (Cond.fieldLink own index "CrashDesk$Meeting" "loss" "I").before args s = true) (hdg : decode cc pc = .ok (.putfield index, 3)) (kk : ∀ (H1 : Heap) (locs1 : List Loc), va_P D vwCl (wd ca ad (setF k 4 x S)) H1 → va_S (Aq ad s.heap.size) s.heap H1 locs1 → W p l e R s m args below meth c H1 locs1 cells slots Q (F0 m (pc + 3) ls rest)) : W p l e R s m args below meth c H locs cells slots Q (F0 m pc ls (.int x :: .ref (ad k) :: rest)) := by
  have h68 : k < 68 := qk_lt hk (by decide)
  refine va_put (D := D) (ci := 1) (C := RX1) (T := TX1) (N := 6) (ty := .int) hx hb hX (fun _ h => h) tyX1 tyX1_ok nmX1 hown hKK.1 hP (wd_D hj) hS k ((wd_at h68).trans (by rw [cel_1 hk])) rfl 4 (by decide) hl (fun _ h => h) rfl (by decide +kernel) rfl rfl (Nat.le_of_ble_eq_true rfl) hdg (fun H1 locs1 hP1 _ hS1 => kk H1 locs1 ?_ hS1)
  have e := wd_setV (ca := ca) (ad := ad) (S := S) (k := k) (r := upd (S.1 k) 4 x) h68 (cel_1 hk)
  show va_P D vwCl (wd ca ad (va_up S.1 k (upd (S.1 k) 4 x), S.2)) H1
  rw [← e]
  exact hP1
theorem g_X1_gain (hx : p.tables.exec = Jvm.exec) (hb : c.code = cc) (hX : ∀ w ∈ wsX10, w.before args s = true) (hown : s.vm.findClass own = some m.cls) (hKK : KK D ca s) (hP : va_P D vwCl (wd ca ad S) H) {k : Nat} (hk : qk k = 1) (hl : (Cond.fieldLink own index "CrashDesk$Meeting" "gain" "I").before args s = true) (hdg : decode cc pc = .ok (.getfield index, 3)) (kk : W p l e R s m args below meth c H locs cells slots Q (F0 m (pc + 3) ls (.int (S.1 k 5) :: rest))) : W p l e R s m args below meth c H locs cells slots Q (F0 m pc ls (.ref (ad k) :: rest)) :=
  va_get (D := D) (ci := 1) (C := RX1) (T := TX1) (N := 6) hx hb hX (fun _ h => h) hown hKK.1 hP k ((wd_at (qk_lt hk (by decide))).trans (by rw [cel_1 hk])) rfl 5 (by decide) hl (fun _ h => h) rfl hdg kk
theorem p_X1_gain (hx : p.tables.exec = Jvm.exec) (hb : c.code = cc) (hX : ∀ w ∈ wsX10, w.before args s = true) (hown : s.vm.findClass own = some m.cls) (hj : Inj ad) (hKK : KK D ca s) (hP : va_P D vwCl (wd ca ad S) H) (hS : va_S (Aq ad s.heap.size) s.heap H locs) {k : Nat} {x : Int32} (hk : qk k = 1) (hl : (Cond.fieldLink own index "CrashDesk$Meeting" "gain" "I").before args s = true) (hdg : decode cc pc = .ok (.putfield index, 3)) (kk : ∀ (H1 : Heap) (locs1 : List Loc), va_P D vwCl (wd ca ad (setF k 5 x S)) H1 → va_S (Aq ad s.heap.size) s.heap H1 locs1 → W p l e R s m args below meth c H1 locs1 cells slots Q (F0 m (pc + 3) ls rest)) : W p l e R s m args below meth c H locs cells slots Q (F0 m pc ls (.int x :: .ref (ad k) :: rest)) := by
  have h68 : k < 68 := qk_lt hk (by decide)
  refine va_put (D := D) (ci := 1) (C := RX1) (T := TX1) (N := 6) (ty := .int) hx hb hX (fun _ h => h) tyX1 tyX1_ok nmX1 hown hKK.1 hP (wd_D hj) hS k ((wd_at h68).trans (by rw [cel_1 hk])) rfl 5 (by decide) hl (fun _ h => h) rfl (by decide +kernel) rfl rfl (Nat.le_of_ble_eq_true rfl) hdg (fun H1 locs1 hP1 _ hS1 => kk H1 locs1 ?_ hS1)
  have e := wd_setV (ca := ca) (ad := ad) (S := S) (k := k) (r := upd (S.1 k) 5 x) h68 (cel_1 hk)
  show va_P D vwCl (wd ca ad (va_up S.1 k (upd (S.1 k) 5 x), S.2)) H1
  rw [← e]
  exact hP1
theorem g_X2_car (hx : p.tables.exec = Jvm.exec) (hb : c.code = cc) (hX : ∀ w ∈ wsX20, w.before args s = true) (hown : s.vm.findClass own = some m.cls) (hKK : KK D ca s) (hP : va_P D vwCl (wd ca ad S) H) {k : Nat} (hk : qk k = 2) (hl : (Cond.fieldLink own index "CrashDesk$Skid" "car" "I").before args s = true) (hdg : decode cc pc = .ok (.getfield index, 3)) (kk : W p l e R s m args below meth c H locs cells slots Q (F0 m (pc + 3) ls (.int (S.1 k 0) :: rest))) : W p l e R s m args below meth c H locs cells slots Q (F0 m pc ls (.ref (ad k) :: rest)) :=
  va_get (D := D) (ci := 2) (C := RX2) (T := TX2) (N := 5) hx hb hX (fun _ h => h) hown hKK.1 hP k ((wd_at (qk_lt hk (by decide))).trans (by rw [cel_2 hk])) rfl 0 (by decide) hl (fun _ h => h) rfl hdg kk
theorem p_X2_car (hx : p.tables.exec = Jvm.exec) (hb : c.code = cc) (hX : ∀ w ∈ wsX20, w.before args s = true) (hown : s.vm.findClass own = some m.cls) (hj : Inj ad) (hKK : KK D ca s) (hP : va_P D vwCl (wd ca ad S) H) (hS : va_S (Aq ad s.heap.size) s.heap H locs) {k : Nat} {x : Int32} (hk : qk k = 2) (hl : (Cond.fieldLink own index "CrashDesk$Skid" "car" "I").before args s = true) (hdg : decode cc pc = .ok (.putfield index, 3)) (kk : ∀ (H1 : Heap) (locs1 : List Loc), va_P D vwCl (wd ca ad (setF k 0 x S)) H1 → va_S (Aq ad s.heap.size) s.heap H1 locs1 → W p l e R s m args below meth c H1 locs1 cells slots Q (F0 m (pc + 3) ls rest)) : W p l e R s m args below meth c H locs cells slots Q (F0 m pc ls (.int x :: .ref (ad k) :: rest)) := by
  have h68 : k < 68 := qk_lt hk (by decide)
  refine va_put (D := D) (ci := 2) (C := RX2) (T := TX2) (N := 5) (ty := .int) hx hb hX (fun _ h => h) tyX2 tyX2_ok nmX2 hown hKK.1 hP (wd_D hj) hS k ((wd_at h68).trans (by rw [cel_2 hk])) rfl 0 (by decide) hl (fun _ h => h) rfl (by decide +kernel) rfl rfl (Nat.le_of_ble_eq_true rfl) hdg (fun H1 locs1 hP1 _ hS1 => kk H1 locs1 ?_ hS1)
  have e := wd_setV (ca := ca) (ad := ad) (S := S) (k := k) (r := upd (S.1 k) 0 x) h68 (cel_2 hk)
  show va_P D vwCl (wd ca ad (va_up S.1 k (upd (S.1 k) 0 x), S.2)) H1
  rw [← e]
  exact hP1
theorem g_X2_behind (hx : p.tables.exec = Jvm.exec) (hb : c.code = cc) (hX : ∀ w ∈ wsX20, w.before args s = true) (hown : s.vm.findClass own = some m.cls) (hKK : KK D ca s) (hP : va_P D vwCl (wd ca ad S) H) {k : Nat} (hk : qk k = 2) (hl : (Cond.fieldLink own index "CrashDesk$Skid" "behind" "Z").before args s = true) (hdg : decode cc pc = .ok (.getfield index, 3)) (kk : W p l e R s m args below meth c H locs cells slots Q (F0 m (pc + 3) ls (.int (S.1 k 1) :: rest))) : W p l e R s m args below meth c H locs cells slots Q (F0 m pc ls (.ref (ad k) :: rest)) :=
  va_get (D := D) (ci := 2) (C := RX2) (T := TX2) (N := 5) hx hb hX (fun _ h => h) hown hKK.1 hP k ((wd_at (qk_lt hk (by decide))).trans (by rw [cel_2 hk])) rfl 1 (by decide) hl (fun _ h => h) rfl hdg kk
theorem p_X2_behind (hx : p.tables.exec = Jvm.exec) (hb : c.code = cc) (hX : ∀ w ∈ wsX20, w.before args s = true) (hown : s.vm.findClass own = some m.cls) (hj : Inj ad) (hKK : KK D ca s) (hP : va_P D vwCl (wd ca ad S) H) (hS : va_S (Aq ad s.heap.size) s.heap H locs) {k : Nat} {x : Int32} (hk : qk k = 2) (h : stZ k 1 x S = some S1) (hl : (Cond.fieldLink own index "CrashDesk$Skid" "behind" "Z").before args s = true) (hdg : decode cc pc = .ok (.putfield index, 3)) (kk : ∀ (H1 : Heap) (locs1 : List Loc), va_P D vwCl (wd ca ad S1) H1 → va_S (Aq ad s.heap.size) s.heap H1 locs1 → W p l e R s m args below meth c H1 locs1 cells slots Q (F0 m (pc + 3) ls rest)) : W p l e R s m args below meth c H locs cells slots Q (F0 m pc ls (.int x :: .ref (ad k) :: rest)) := by
  obtain ⟨hz, rfl⟩ := q_stZ h
  have h68 : k < 68 := qk_lt hk (by decide)
  refine va_put (D := D) (ci := 2) (C := RX2) (T := TX2) (N := 5) (ty := .boolean) hx hb hX (fun _ h => h) tyX2 tyX2_ok nmX2 hown hKK.1 hP (wd_D hj) hS k ((wd_at h68).trans (by rw [cel_2 hk])) rfl 1 (by decide) hl (fun _ h => h) rfl (by decide +kernel) (q_nz hz) (q_fz hz) (Nat.le_of_ble_eq_true rfl) hdg (fun H1 locs1 hP1 _ hS1 => kk H1 locs1 ?_ hS1)
  have e := wd_setV (ca := ca) (ad := ad) (S := S) (k := k) (r := upd (S.1 k) 1 x) h68 (cel_2 hk)
  show va_P D vwCl (wd ca ad (va_up S.1 k (upd (S.1 k) 1 x), S.2)) H1
  rw [← e]
  exact hP1
theorem g_X2_least (hx : p.tables.exec = Jvm.exec) (hb : c.code = cc) (hX : ∀ w ∈ wsX20, w.before args s = true) (hown : s.vm.findClass own = some m.cls) (hKK : KK D ca s) (hP : va_P D vwCl (wd ca ad S) H) {k : Nat} (hk : qk k = 2) (hl : (Cond.fieldLink own index "CrashDesk$Skid" "least" "I").before args s = true) (hdg : decode cc pc = .ok (.getfield index, 3)) (kk : W p l e R s m args below meth c H locs cells slots Q (F0 m (pc + 3) ls (.int (S.1 k 2) :: rest))) : W p l e R s m args below meth c H locs cells slots Q (F0 m pc ls (.ref (ad k) :: rest)) :=
  va_get (D := D) (ci := 2) (C := RX2) (T := TX2) (N := 5) hx hb hX (fun _ h => h) hown hKK.1 hP k ((wd_at (qk_lt hk (by decide))).trans (by rw [cel_2 hk])) rfl 2 (by decide) hl (fun _ h => h) rfl hdg kk
theorem p_X2_least (hx : p.tables.exec = Jvm.exec) (hb : c.code = cc) (hX : ∀ w ∈ wsX20, w.before args s = true) (hown : s.vm.findClass own = some m.cls) (hj : Inj ad) (hKK : KK D ca s) (hP : va_P D vwCl (wd ca ad S) H) (hS : va_S (Aq ad s.heap.size) s.heap H locs) {k : Nat} {x : Int32} (hk : qk k = 2) (hl : (Cond.fieldLink own index "CrashDesk$Skid" "least" "I").before args s = true) (hdg : decode cc pc = .ok (.putfield index, 3)) (kk : ∀ (H1 : Heap) (locs1 : List Loc), va_P D vwCl (wd ca ad (setF k 2 x S)) H1 → va_S (Aq ad s.heap.size) s.heap H1 locs1 → W p l e R s m args below meth c H1 locs1 cells slots Q (F0 m (pc + 3) ls rest)) : W p l e R s m args below meth c H locs cells slots Q (F0 m pc ls (.int x :: .ref (ad k) :: rest)) := by
  have h68 : k < 68 := qk_lt hk (by decide)
  refine va_put (D := D) (ci := 2) (C := RX2) (T := TX2) (N := 5) (ty := .int) hx hb hX (fun _ h => h) tyX2 tyX2_ok nmX2 hown hKK.1 hP (wd_D hj) hS k ((wd_at h68).trans (by rw [cel_2 hk])) rfl 2 (by decide) hl (fun _ h => h) rfl (by decide +kernel) rfl rfl (Nat.le_of_ble_eq_true rfl) hdg (fun H1 locs1 hP1 _ hS1 => kk H1 locs1 ?_ hS1)
  have e := wd_setV (ca := ca) (ad := ad) (S := S) (k := k) (r := upd (S.1 k) 2 x) h68 (cel_2 hk)
  show va_P D vwCl (wd ca ad (va_up S.1 k (upd (S.1 k) 2 x), S.2)) H1
  rw [← e]
  exact hP1
theorem g_X2_greatest (hx : p.tables.exec = Jvm.exec) (hb : c.code = cc) (hX : ∀ w ∈ wsX20, w.before args s = true) (hown : s.vm.findClass own = some m.cls) (hKK : KK D ca s) (hP : va_P D vwCl (wd ca ad S) H) {k : Nat} (hk : qk k = 2) (hl : (Cond.fieldLink own index "CrashDesk$Skid" "greatest" "I").before args s = true) (hdg : decode cc pc = .ok (.getfield index, 3)) (kk : W p l e R s m args below meth c H locs cells slots Q (F0 m (pc + 3) ls (.int (S.1 k 3) :: rest))) : W p l e R s m args below meth c H locs cells slots Q (F0 m pc ls (.ref (ad k) :: rest)) :=
  va_get (D := D) (ci := 2) (C := RX2) (T := TX2) (N := 5) hx hb hX (fun _ h => h) hown hKK.1 hP k ((wd_at (qk_lt hk (by decide))).trans (by rw [cel_2 hk])) rfl 3 (by decide) hl (fun _ h => h) rfl hdg kk
theorem p_X2_greatest (hx : p.tables.exec = Jvm.exec) (hb : c.code = cc) (hX : ∀ w ∈ wsX20, w.before args s = true) (hown : s.vm.findClass own = some m.cls) (hj : Inj ad) (hKK : KK D ca s) (hP : va_P D vwCl (wd ca ad S) H) (hS : va_S (Aq ad s.heap.size) s.heap H locs) {k : Nat} {x : Int32} (hk : qk k = 2) (hl : (Cond.fieldLink own index "CrashDesk$Skid" "greatest" "I").before args s = true) (hdg : decode cc pc = .ok (.putfield index, 3)) (kk : ∀ (H1 : Heap) (locs1 : List Loc), va_P D vwCl (wd ca ad (setF k 3 x S)) H1 → va_S (Aq ad s.heap.size) s.heap H1 locs1 → W p l e R s m args below meth c H1 locs1 cells slots Q (F0 m (pc + 3) ls rest)) : W p l e R s m args below meth c H locs cells slots Q (F0 m pc ls (.int x :: .ref (ad k) :: rest)) := by
  have h68 : k < 68 := qk_lt hk (by decide)
  refine va_put (D := D) (ci := 2) (C := RX2) (T := TX2) (N := 5) (ty := .int) hx hb hX (fun _ h => h) tyX2 tyX2_ok nmX2 hown hKK.1 hP (wd_D hj) hS k ((wd_at h68).trans (by rw [cel_2 hk])) rfl 3 (by decide) hl (fun _ h => h) rfl (by decide +kernel) rfl rfl (Nat.le_of_ble_eq_true rfl) hdg (fun H1 locs1 hP1 _ hS1 => kk H1 locs1 ?_ hS1)
  have e := wd_setV (ca := ca) (ad := ad) (S := S) (k := k) (r := upd (S.1 k) 3 x) h68 (cel_2 hk)
  show va_P D vwCl (wd ca ad (va_up S.1 k (upd (S.1 k) 3 x), S.2)) H1
  rw [← e]
  exact hP1
theorem g_X2_counts (hx : p.tables.exec = Jvm.exec) (hb : c.code = cc) (hX : ∀ w ∈ wsX20, w.before args s = true) (hown : s.vm.findClass own = some m.cls) (hKK : KK D ca s) (hP : va_P D vwCl (wd ca ad S) H) {k : Nat} (hk : qk k = 2) (hl : (Cond.fieldLink own index "CrashDesk$Skid" "counts" "Z").before args s = true) (hdg : decode cc pc = .ok (.getfield index, 3)) (kk : W p l e R s m args below meth c H locs cells slots Q (F0 m (pc + 3) ls (.int (S.1 k 4) :: rest))) : W p l e R s m args below meth c H locs cells slots Q (F0 m pc ls (.ref (ad k) :: rest)) :=
  va_get (D := D) (ci := 2) (C := RX2) (T := TX2) (N := 5) hx hb hX (fun _ h => h) hown hKK.1 hP k ((wd_at (qk_lt hk (by decide))).trans (by rw [cel_2 hk])) rfl 4 (by decide) hl (fun _ h => h) rfl hdg kk
theorem p_X2_counts (hx : p.tables.exec = Jvm.exec) (hb : c.code = cc) (hX : ∀ w ∈ wsX20, w.before args s = true) (hown : s.vm.findClass own = some m.cls) (hj : Inj ad) (hKK : KK D ca s) (hP : va_P D vwCl (wd ca ad S) H) (hS : va_S (Aq ad s.heap.size) s.heap H locs) {k : Nat} {x : Int32} (hk : qk k = 2) (h : stZ k 4 x S = some S1) (hl : (Cond.fieldLink own index "CrashDesk$Skid" "counts" "Z").before args s = true) (hdg : decode cc pc = .ok (.putfield index, 3)) (kk : ∀ (H1 : Heap) (locs1 : List Loc), va_P D vwCl (wd ca ad S1) H1 → va_S (Aq ad s.heap.size) s.heap H1 locs1 → W p l e R s m args below meth c H1 locs1 cells slots Q (F0 m (pc + 3) ls rest)) : W p l e R s m args below meth c H locs cells slots Q (F0 m pc ls (.int x :: .ref (ad k) :: rest)) := by
  obtain ⟨hz, rfl⟩ := q_stZ h
  have h68 : k < 68 := qk_lt hk (by decide)
  refine va_put (D := D) (ci := 2) (C := RX2) (T := TX2) (N := 5) (ty := .boolean) hx hb hX (fun _ h => h) tyX2 tyX2_ok nmX2 hown hKK.1 hP (wd_D hj) hS k ((wd_at h68).trans (by rw [cel_2 hk])) rfl 4 (by decide) hl (fun _ h => h) rfl (by decide +kernel) (q_nz hz) (q_fz hz) (Nat.le_of_ble_eq_true rfl) hdg (fun H1 locs1 hP1 _ hS1 => kk H1 locs1 ?_ hS1)
  have e := wd_setV (ca := ca) (ad := ad) (S := S) (k := k) (r := upd (S.1 k) 4 x) h68 (cel_2 hk)
  show va_P D vwCl (wd ca ad (va_up S.1 k (upd (S.1 k) 4 x), S.2)) H1
  rw [← e]
  exact hP1
theorem g_X3_low (hx : p.tables.exec = Jvm.exec) (hb : c.code = cc) (hX : ∀ w ∈ wsX30, w.before args s = true) (hown : s.vm.findClass own = some m.cls) (hKK : KK D ca s) (hP : va_P D vwCl (wd ca ad S) H) {k : Nat} (hk : qk k = 3) (hl : (Cond.fieldLink own index "CrashDesk$Speed" "low" "I").before args s = true) (hdg : decode cc pc = .ok (.getfield index, 3)) (kk : W p l e R s m args below meth c H locs cells slots Q (F0 m (pc + 3) ls (.int (S.1 k 0) :: rest))) : W p l e R s m args below meth c H locs cells slots Q (F0 m pc ls (.ref (ad k) :: rest)) :=
  va_get (D := D) (ci := 3) (C := RX3) (T := TX3) (N := 6) hx hb hX (fun _ h => h) hown hKK.1 hP k ((wd_at (qk_lt hk (by decide))).trans (by rw [cel_3 hk])) rfl 0 (by decide) hl (fun _ h => h) rfl hdg kk
theorem p_X3_low (hx : p.tables.exec = Jvm.exec) (hb : c.code = cc) (hX : ∀ w ∈ wsX30, w.before args s = true) (hown : s.vm.findClass own = some m.cls) (hj : Inj ad) (hKK : KK D ca s) (hP : va_P D vwCl (wd ca ad S) H) (hS : va_S (Aq ad s.heap.size) s.heap H locs) {k : Nat} {x : Int32} (hk : qk k = 3) (hl : (Cond.fieldLink own index "CrashDesk$Speed" "low" "I").before args s = true) (hdg : decode cc pc = .ok (.putfield index, 3)) (kk : ∀ (H1 : Heap) (locs1 : List Loc), va_P D vwCl (wd ca ad (setF k 0 x S)) H1 → va_S (Aq ad s.heap.size) s.heap H1 locs1 → W p l e R s m args below meth c H1 locs1 cells slots Q (F0 m (pc + 3) ls rest)) : W p l e R s m args below meth c H locs cells slots Q (F0 m pc ls (.int x :: .ref (ad k) :: rest)) := by
  have h68 : k < 68 := qk_lt hk (by decide)
  refine va_put (D := D) (ci := 3) (C := RX3) (T := TX3) (N := 6) (ty := .int) hx hb hX (fun _ h => h) tyX3 tyX3_ok nmX3 hown hKK.1 hP (wd_D hj) hS k ((wd_at h68).trans (by rw [cel_3 hk])) rfl 0 (by decide) hl (fun _ h => h) rfl (by decide +kernel) rfl rfl (Nat.le_of_ble_eq_true rfl) hdg (fun H1 locs1 hP1 _ hS1 => kk H1 locs1 ?_ hS1)
  have e := wd_setV (ca := ca) (ad := ad) (S := S) (k := k) (r := upd (S.1 k) 0 x) h68 (cel_3 hk)
  show va_P D vwCl (wd ca ad (va_up S.1 k (upd (S.1 k) 0 x), S.2)) H1
  rw [← e]
  exact hP1
theorem g_X3_high (hx : p.tables.exec = Jvm.exec) (hb : c.code = cc) (hX : ∀ w ∈ wsX30, w.before args s = true) (hown : s.vm.findClass own = some m.cls) (hKK : KK D ca s) (hP : va_P D vwCl (wd ca ad S) H) {k : Nat} (hk : qk k = 3) (hl : (Cond.fieldLink own index "CrashDesk$Speed" "high" "I").before args s = true) (hdg : decode cc pc = .ok (.getfield index, 3)) (kk : W p l e R s m args below meth c H locs cells slots Q (F0 m (pc + 3) ls (.int (S.1 k 1) :: rest))) : W p l e R s m args below meth c H locs cells slots Q (F0 m pc ls (.ref (ad k) :: rest)) :=
  va_get (D := D) (ci := 3) (C := RX3) (T := TX3) (N := 6) hx hb hX (fun _ h => h) hown hKK.1 hP k ((wd_at (qk_lt hk (by decide))).trans (by rw [cel_3 hk])) rfl 1 (by decide) hl (fun _ h => h) rfl hdg kk
theorem p_X3_high (hx : p.tables.exec = Jvm.exec) (hb : c.code = cc) (hX : ∀ w ∈ wsX30, w.before args s = true) (hown : s.vm.findClass own = some m.cls) (hj : Inj ad) (hKK : KK D ca s) (hP : va_P D vwCl (wd ca ad S) H) (hS : va_S (Aq ad s.heap.size) s.heap H locs) {k : Nat} {x : Int32} (hk : qk k = 3) (hl : (Cond.fieldLink own index "CrashDesk$Speed" "high" "I").before args s = true) (hdg : decode cc pc = .ok (.putfield index, 3)) (kk : ∀ (H1 : Heap) (locs1 : List Loc), va_P D vwCl (wd ca ad (setF k 1 x S)) H1 → va_S (Aq ad s.heap.size) s.heap H1 locs1 → W p l e R s m args below meth c H1 locs1 cells slots Q (F0 m (pc + 3) ls rest)) : W p l e R s m args below meth c H locs cells slots Q (F0 m pc ls (.int x :: .ref (ad k) :: rest)) := by
  have h68 : k < 68 := qk_lt hk (by decide)
  refine va_put (D := D) (ci := 3) (C := RX3) (T := TX3) (N := 6) (ty := .int) hx hb hX (fun _ h => h) tyX3 tyX3_ok nmX3 hown hKK.1 hP (wd_D hj) hS k ((wd_at h68).trans (by rw [cel_3 hk])) rfl 1 (by decide) hl (fun _ h => h) rfl (by decide +kernel) rfl rfl (Nat.le_of_ble_eq_true rfl) hdg (fun H1 locs1 hP1 _ hS1 => kk H1 locs1 ?_ hS1)
  have e := wd_setV (ca := ca) (ad := ad) (S := S) (k := k) (r := upd (S.1 k) 1 x) h68 (cel_3 hk)
  show va_P D vwCl (wd ca ad (va_up S.1 k (upd (S.1 k) 1 x), S.2)) H1
  rw [← e]
  exact hP1
theorem g_X3_bottom (hx : p.tables.exec = Jvm.exec) (hb : c.code = cc) (hX : ∀ w ∈ wsX30, w.before args s = true) (hown : s.vm.findClass own = some m.cls) (hKK : KK D ca s) (hP : va_P D vwCl (wd ca ad S) H) {k : Nat} (hk : qk k = 3) (hl : (Cond.fieldLink own index "CrashDesk$Speed" "bottom" "I").before args s = true) (hdg : decode cc pc = .ok (.getfield index, 3)) (kk : W p l e R s m args below meth c H locs cells slots Q (F0 m (pc + 3) ls (.int (S.1 k 2) :: rest))) : W p l e R s m args below meth c H locs cells slots Q (F0 m pc ls (.ref (ad k) :: rest)) :=
  va_get (D := D) (ci := 3) (C := RX3) (T := TX3) (N := 6) hx hb hX (fun _ h => h) hown hKK.1 hP k ((wd_at (qk_lt hk (by decide))).trans (by rw [cel_3 hk])) rfl 2 (by decide) hl (fun _ h => h) rfl hdg kk
theorem p_X3_bottom (hx : p.tables.exec = Jvm.exec) (hb : c.code = cc) (hX : ∀ w ∈ wsX30, w.before args s = true) (hown : s.vm.findClass own = some m.cls) (hj : Inj ad) (hKK : KK D ca s) (hP : va_P D vwCl (wd ca ad S) H) (hS : va_S (Aq ad s.heap.size) s.heap H locs) {k : Nat} {x : Int32} (hk : qk k = 3) (hl : (Cond.fieldLink own index "CrashDesk$Speed" "bottom" "I").before args s = true) (hdg : decode cc pc = .ok (.putfield index, 3)) (kk : ∀ (H1 : Heap) (locs1 : List Loc), va_P D vwCl (wd ca ad (setF k 2 x S)) H1 → va_S (Aq ad s.heap.size) s.heap H1 locs1 → W p l e R s m args below meth c H1 locs1 cells slots Q (F0 m (pc + 3) ls rest)) : W p l e R s m args below meth c H locs cells slots Q (F0 m pc ls (.int x :: .ref (ad k) :: rest)) := by
  have h68 : k < 68 := qk_lt hk (by decide)
  refine va_put (D := D) (ci := 3) (C := RX3) (T := TX3) (N := 6) (ty := .int) hx hb hX (fun _ h => h) tyX3 tyX3_ok nmX3 hown hKK.1 hP (wd_D hj) hS k ((wd_at h68).trans (by rw [cel_3 hk])) rfl 2 (by decide) hl (fun _ h => h) rfl (by decide +kernel) rfl rfl (Nat.le_of_ble_eq_true rfl) hdg (fun H1 locs1 hP1 _ hS1 => kk H1 locs1 ?_ hS1)
  have e := wd_setV (ca := ca) (ad := ad) (S := S) (k := k) (r := upd (S.1 k) 2 x) h68 (cel_3 hk)
  show va_P D vwCl (wd ca ad (va_up S.1 k (upd (S.1 k) 2 x), S.2)) H1
  rw [← e]
  exact hP1
theorem g_X3_top (hx : p.tables.exec = Jvm.exec) (hb : c.code = cc) (hX : ∀ w ∈ wsX30, w.before args s = true) (hown : s.vm.findClass own = some m.cls) (hKK : KK D ca s) (hP : va_P D vwCl (wd ca ad S) H) {k : Nat} (hk : qk k = 3) (hl : (Cond.fieldLink own index "CrashDesk$Speed" "top" "I").before args s = true) (hdg : decode cc pc = .ok (.getfield index, 3)) (kk : W p l e R s m args below meth c H locs cells slots Q (F0 m (pc + 3) ls (.int (S.1 k 3) :: rest))) : W p l e R s m args below meth c H locs cells slots Q (F0 m pc ls (.ref (ad k) :: rest)) :=
  va_get (D := D) (ci := 3) (C := RX3) (T := TX3) (N := 6) hx hb hX (fun _ h => h) hown hKK.1 hP k ((wd_at (qk_lt hk (by decide))).trans (by rw [cel_3 hk])) rfl 3 (by decide) hl (fun _ h => h) rfl hdg kk
theorem p_X3_top (hx : p.tables.exec = Jvm.exec) (hb : c.code = cc) (hX : ∀ w ∈ wsX30, w.before args s = true) (hown : s.vm.findClass own = some m.cls) (hj : Inj ad) (hKK : KK D ca s) (hP : va_P D vwCl (wd ca ad S) H) (hS : va_S (Aq ad s.heap.size) s.heap H locs) {k : Nat} {x : Int32} (hk : qk k = 3) (hl : (Cond.fieldLink own index "CrashDesk$Speed" "top" "I").before args s = true) (hdg : decode cc pc = .ok (.putfield index, 3)) (kk : ∀ (H1 : Heap) (locs1 : List Loc), va_P D vwCl (wd ca ad (setF k 3 x S)) H1 → va_S (Aq ad s.heap.size) s.heap H1 locs1 → W p l e R s m args below meth c H1 locs1 cells slots Q (F0 m (pc + 3) ls rest)) : W p l e R s m args below meth c H locs cells slots Q (F0 m pc ls (.int x :: .ref (ad k) :: rest)) := by
  have h68 : k < 68 := qk_lt hk (by decide)
  refine va_put (D := D) (ci := 3) (C := RX3) (T := TX3) (N := 6) (ty := .int) hx hb hX (fun _ h => h) tyX3 tyX3_ok nmX3 hown hKK.1 hP (wd_D hj) hS k ((wd_at h68).trans (by rw [cel_3 hk])) rfl 3 (by decide) hl (fun _ h => h) rfl (by decide +kernel) rfl rfl (Nat.le_of_ble_eq_true rfl) hdg (fun H1 locs1 hP1 _ hS1 => kk H1 locs1 ?_ hS1)
  have e := wd_setV (ca := ca) (ad := ad) (S := S) (k := k) (r := upd (S.1 k) 3 x) h68 (cel_3 hk)
  show va_P D vwCl (wd ca ad (va_up S.1 k (upd (S.1 k) 3 x), S.2)) H1
  rw [← e]
  exact hP1
theorem g_X3_prices (hx : p.tables.exec = Jvm.exec) (hb : c.code = cc) (hX : ∀ w ∈ wsX30, w.before args s = true) (hown : s.vm.findClass own = some m.cls) (hKK : KK D ca s) (hP : va_P D vwCl (wd ca ad S) H) {k : Nat} (hk : qk k = 3) (hl : (Cond.fieldLink own index "CrashDesk$Speed" "prices" "[I").before args s = true) (hdg : decode cc pc = .ok (.getfield index, 3)) (kk : W p l e R s m args below meth c H locs cells slots Q (F0 m (pc + 3) ls (.ref (ad (k + 1)) :: rest))) : W p l e R s m args below meth c H locs cells slots Q (F0 m pc ls (.ref (ad k) :: rest)) :=
  va_get (D := D) (ci := 3) (C := RX3) (T := TX3) (N := 6) hx hb hX (fun _ h => h) hown hKK.1 hP k ((wd_at (qk_lt hk (by decide))).trans (by rw [cel_3 hk])) rfl 4 (by decide) hl (fun _ h => h) rfl hdg kk
theorem gN_X3_prices (hx : p.tables.exec = Jvm.exec) (hb : c.code = cc) (hX : ∀ w ∈ wsX30, w.before args s = true) (hown : s.vm.findClass own = some m.cls) (hKK : KK D ca s) (hP : va_P D vwCl (wd ca ad S) H) {k : Nat} (hk : qk k = 3) (hl : va_Nw (.fieldLinkNest own index "CrashDesk$Speed" "prices" "[I" "CrashDesk") s) (hdg : decode cc pc = .ok (.getfield index, 3)) (kk : W p l e R s m args below meth c H locs cells slots Q (F0 m (pc + 3) ls (.ref (ad (k + 1)) :: rest))) : W p l e R s m args below meth c H locs cells slots Q (F0 m pc ls (.ref (ad k) :: rest)) :=
  va_getN (D := D) (ci := 3) (C := RX3) (T := TX3) (N := 6) hx hb hX (fun _ h => h) hown hKK.1 hP k ((wd_at (qk_lt hk (by decide))).trans (by rw [cel_3 hk])) rfl 4 (by decide) (va_Nw.use rfl hl) (fun _ h => h) rfl hdg kk
theorem g_X3_seen (hx : p.tables.exec = Jvm.exec) (hb : c.code = cc) (hX : ∀ w ∈ wsX30, w.before args s = true) (hown : s.vm.findClass own = some m.cls) (hKK : KK D ca s) (hP : va_P D vwCl (wd ca ad S) H) {k : Nat} (hk : qk k = 3) (hl : (Cond.fieldLink own index "CrashDesk$Speed" "seen" "[Z").before args s = true) (hdg : decode cc pc = .ok (.getfield index, 3)) (kk : W p l e R s m args below meth c H locs cells slots Q (F0 m (pc + 3) ls (.ref (ad (k + 2)) :: rest))) : W p l e R s m args below meth c H locs cells slots Q (F0 m pc ls (.ref (ad k) :: rest)) :=
  va_get (D := D) (ci := 3) (C := RX3) (T := TX3) (N := 6) hx hb hX (fun _ h => h) hown hKK.1 hP k ((wd_at (qk_lt hk (by decide))).trans (by rw [cel_3 hk])) rfl 5 (by decide) hl (fun _ h => h) rfl hdg kk
theorem gN_X3_seen (hx : p.tables.exec = Jvm.exec) (hb : c.code = cc) (hX : ∀ w ∈ wsX30, w.before args s = true) (hown : s.vm.findClass own = some m.cls) (hKK : KK D ca s) (hP : va_P D vwCl (wd ca ad S) H) {k : Nat} (hk : qk k = 3) (hl : va_Nw (.fieldLinkNest own index "CrashDesk$Speed" "seen" "[Z" "CrashDesk") s) (hdg : decode cc pc = .ok (.getfield index, 3)) (kk : W p l e R s m args below meth c H locs cells slots Q (F0 m (pc + 3) ls (.ref (ad (k + 2)) :: rest))) : W p l e R s m args below meth c H locs cells slots Q (F0 m pc ls (.ref (ad k) :: rest)) :=
  va_getN (D := D) (ci := 3) (C := RX3) (T := TX3) (N := 6) hx hb hX (fun _ h => h) hown hKK.1 hP k ((wd_at (qk_lt hk (by decide))).trans (by rw [cel_3 hk])) rfl 5 (by decide) (va_Nw.use rfl hl) (fun _ h => h) rfl hdg kk
theorem g_X4_car (hx : p.tables.exec = Jvm.exec) (hb : c.code = cc) (hX : ∀ w ∈ wsX40, w.before args s = true) (hown : s.vm.findClass own = some m.cls) (hKK : KK D ca s) (hP : va_P D vwCl (wd ca ad S) H) {k : Nat} (hk : qk k = 4) (hl : (Cond.fieldLink own index "CrashDesk$Tale" "car" "I").before args s = true) (hdg : decode cc pc = .ok (.getfield index, 3)) (kk : W p l e R s m args below meth c H locs cells slots Q (F0 m (pc + 3) ls (.int (S.1 k 0) :: rest))) : W p l e R s m args below meth c H locs cells slots Q (F0 m pc ls (.ref (ad k) :: rest)) :=
  va_get (D := D) (ci := 4) (C := RX4) (T := TX4) (N := 4) hx hb hX (fun _ h => h) hown hKK.1 hP k ((wd_at (qk_lt hk (by decide))).trans (by rw [cel_4 hk])) rfl 0 (by decide) hl (fun _ h => h) rfl hdg kk
theorem p_X4_car (hx : p.tables.exec = Jvm.exec) (hb : c.code = cc) (hX : ∀ w ∈ wsX40, w.before args s = true) (hown : s.vm.findClass own = some m.cls) (hj : Inj ad) (hKK : KK D ca s) (hP : va_P D vwCl (wd ca ad S) H) (hS : va_S (Aq ad s.heap.size) s.heap H locs) {k : Nat} {x : Int32} (hk : qk k = 4) (hl : (Cond.fieldLink own index "CrashDesk$Tale" "car" "I").before args s = true) (hdg : decode cc pc = .ok (.putfield index, 3)) (kk : ∀ (H1 : Heap) (locs1 : List Loc), va_P D vwCl (wd ca ad (setF k 0 x S)) H1 → va_S (Aq ad s.heap.size) s.heap H1 locs1 → W p l e R s m args below meth c H1 locs1 cells slots Q (F0 m (pc + 3) ls rest)) : W p l e R s m args below meth c H locs cells slots Q (F0 m pc ls (.int x :: .ref (ad k) :: rest)) := by
  have h68 : k < 68 := qk_lt hk (by decide)
  refine va_put (D := D) (ci := 4) (C := RX4) (T := TX4) (N := 4) (ty := .int) hx hb hX (fun _ h => h) tyX4 tyX4_ok nmX4 hown hKK.1 hP (wd_D hj) hS k ((wd_at h68).trans (by rw [cel_4 hk])) rfl 0 (by decide) hl (fun _ h => h) rfl (by decide +kernel) rfl rfl (Nat.le_of_ble_eq_true rfl) hdg (fun H1 locs1 hP1 _ hS1 => kk H1 locs1 ?_ hS1)
  have e := wd_setV (ca := ca) (ad := ad) (S := S) (k := k) (r := upd (S.1 k) 0 x) h68 (cel_4 hk)
  show va_P D vwCl (wd ca ad (va_up S.1 k (upd (S.1 k) 0 x), S.2)) H1
  rw [← e]
  exact hP1
theorem g_X4_speed (hx : p.tables.exec = Jvm.exec) (hb : c.code = cc) (hX : ∀ w ∈ wsX40, w.before args s = true) (hown : s.vm.findClass own = some m.cls) (hKK : KK D ca s) (hP : va_P D vwCl (wd ca ad S) H) {k : Nat} (hk : qk k = 4) (hl : (Cond.fieldLink own index "CrashDesk$Tale" "speed" "I").before args s = true) (hdg : decode cc pc = .ok (.getfield index, 3)) (kk : W p l e R s m args below meth c H locs cells slots Q (F0 m (pc + 3) ls (.int (S.1 k 1) :: rest))) : W p l e R s m args below meth c H locs cells slots Q (F0 m pc ls (.ref (ad k) :: rest)) :=
  va_get (D := D) (ci := 4) (C := RX4) (T := TX4) (N := 4) hx hb hX (fun _ h => h) hown hKK.1 hP k ((wd_at (qk_lt hk (by decide))).trans (by rw [cel_4 hk])) rfl 1 (by decide) hl (fun _ h => h) rfl hdg kk
theorem p_X4_speed (hx : p.tables.exec = Jvm.exec) (hb : c.code = cc) (hX : ∀ w ∈ wsX40, w.before args s = true) (hown : s.vm.findClass own = some m.cls) (hj : Inj ad) (hKK : KK D ca s) (hP : va_P D vwCl (wd ca ad S) H) (hS : va_S (Aq ad s.heap.size) s.heap H locs) {k : Nat} {x : Int32} (hk : qk k = 4) (hl : (Cond.fieldLink own index "CrashDesk$Tale" "speed" "I").before args s = true) (hdg : decode cc pc = .ok (.putfield index, 3)) (kk : ∀ (H1 : Heap) (locs1 : List Loc), va_P D vwCl (wd ca ad (setF k 1 x S)) H1 → va_S (Aq ad s.heap.size) s.heap H1 locs1 → W p l e R s m args below meth c H1 locs1 cells slots Q (F0 m (pc + 3) ls rest)) : W p l e R s m args below meth c H locs cells slots Q (F0 m pc ls (.int x :: .ref (ad k) :: rest)) := by
  have h68 : k < 68 := qk_lt hk (by decide)
  refine va_put (D := D) (ci := 4) (C := RX4) (T := TX4) (N := 4) (ty := .int) hx hb hX (fun _ h => h) tyX4 tyX4_ok nmX4 hown hKK.1 hP (wd_D hj) hS k ((wd_at h68).trans (by rw [cel_4 hk])) rfl 1 (by decide) hl (fun _ h => h) rfl (by decide +kernel) rfl rfl (Nat.le_of_ble_eq_true rfl) hdg (fun H1 locs1 hP1 _ hS1 => kk H1 locs1 ?_ hS1)
  have e := wd_setV (ca := ca) (ad := ad) (S := S) (k := k) (r := upd (S.1 k) 1 x) h68 (cel_4 hk)
  show va_P D vwCl (wd ca ad (va_up S.1 k (upd (S.1 k) 1 x), S.2)) H1
  rw [← e]
  exact hP1
theorem g_X4_low (hx : p.tables.exec = Jvm.exec) (hb : c.code = cc) (hX : ∀ w ∈ wsX40, w.before args s = true) (hown : s.vm.findClass own = some m.cls) (hKK : KK D ca s) (hP : va_P D vwCl (wd ca ad S) H) {k : Nat} (hk : qk k = 4) (hl : (Cond.fieldLink own index "CrashDesk$Tale" "low" "I").before args s = true) (hdg : decode cc pc = .ok (.getfield index, 3)) (kk : W p l e R s m args below meth c H locs cells slots Q (F0 m (pc + 3) ls (.int (S.1 k 2) :: rest))) : W p l e R s m args below meth c H locs cells slots Q (F0 m pc ls (.ref (ad k) :: rest)) :=
  va_get (D := D) (ci := 4) (C := RX4) (T := TX4) (N := 4) hx hb hX (fun _ h => h) hown hKK.1 hP k ((wd_at (qk_lt hk (by decide))).trans (by rw [cel_4 hk])) rfl 2 (by decide) hl (fun _ h => h) rfl hdg kk
theorem p_X4_low (hx : p.tables.exec = Jvm.exec) (hb : c.code = cc) (hX : ∀ w ∈ wsX40, w.before args s = true) (hown : s.vm.findClass own = some m.cls) (hj : Inj ad) (hKK : KK D ca s) (hP : va_P D vwCl (wd ca ad S) H) (hS : va_S (Aq ad s.heap.size) s.heap H locs) {k : Nat} {x : Int32} (hk : qk k = 4) (hl : (Cond.fieldLink own index "CrashDesk$Tale" "low" "I").before args s = true) (hdg : decode cc pc = .ok (.putfield index, 3)) (kk : ∀ (H1 : Heap) (locs1 : List Loc), va_P D vwCl (wd ca ad (setF k 2 x S)) H1 → va_S (Aq ad s.heap.size) s.heap H1 locs1 → W p l e R s m args below meth c H1 locs1 cells slots Q (F0 m (pc + 3) ls rest)) : W p l e R s m args below meth c H locs cells slots Q (F0 m pc ls (.int x :: .ref (ad k) :: rest)) := by
  have h68 : k < 68 := qk_lt hk (by decide)
  refine va_put (D := D) (ci := 4) (C := RX4) (T := TX4) (N := 4) (ty := .int) hx hb hX (fun _ h => h) tyX4 tyX4_ok nmX4 hown hKK.1 hP (wd_D hj) hS k ((wd_at h68).trans (by rw [cel_4 hk])) rfl 2 (by decide) hl (fun _ h => h) rfl (by decide +kernel) rfl rfl (Nat.le_of_ble_eq_true rfl) hdg (fun H1 locs1 hP1 _ hS1 => kk H1 locs1 ?_ hS1)
  have e := wd_setV (ca := ca) (ad := ad) (S := S) (k := k) (r := upd (S.1 k) 2 x) h68 (cel_4 hk)
  show va_P D vwCl (wd ca ad (va_up S.1 k (upd (S.1 k) 2 x), S.2)) H1
  rw [← e]
  exact hP1
theorem g_X4_high (hx : p.tables.exec = Jvm.exec) (hb : c.code = cc) (hX : ∀ w ∈ wsX40, w.before args s = true) (hown : s.vm.findClass own = some m.cls) (hKK : KK D ca s) (hP : va_P D vwCl (wd ca ad S) H) {k : Nat} (hk : qk k = 4) (hl : (Cond.fieldLink own index "CrashDesk$Tale" "high" "I").before args s = true) (hdg : decode cc pc = .ok (.getfield index, 3)) (kk : W p l e R s m args below meth c H locs cells slots Q (F0 m (pc + 3) ls (.int (S.1 k 3) :: rest))) : W p l e R s m args below meth c H locs cells slots Q (F0 m pc ls (.ref (ad k) :: rest)) :=
  va_get (D := D) (ci := 4) (C := RX4) (T := TX4) (N := 4) hx hb hX (fun _ h => h) hown hKK.1 hP k ((wd_at (qk_lt hk (by decide))).trans (by rw [cel_4 hk])) rfl 3 (by decide) hl (fun _ h => h) rfl hdg kk
theorem p_X4_high (hx : p.tables.exec = Jvm.exec) (hb : c.code = cc) (hX : ∀ w ∈ wsX40, w.before args s = true) (hown : s.vm.findClass own = some m.cls) (hj : Inj ad) (hKK : KK D ca s) (hP : va_P D vwCl (wd ca ad S) H) (hS : va_S (Aq ad s.heap.size) s.heap H locs) {k : Nat} {x : Int32} (hk : qk k = 4) (hl : (Cond.fieldLink own index "CrashDesk$Tale" "high" "I").before args s = true) (hdg : decode cc pc = .ok (.putfield index, 3)) (kk : ∀ (H1 : Heap) (locs1 : List Loc), va_P D vwCl (wd ca ad (setF k 3 x S)) H1 → va_S (Aq ad s.heap.size) s.heap H1 locs1 → W p l e R s m args below meth c H1 locs1 cells slots Q (F0 m (pc + 3) ls rest)) : W p l e R s m args below meth c H locs cells slots Q (F0 m pc ls (.int x :: .ref (ad k) :: rest)) := by
  have h68 : k < 68 := qk_lt hk (by decide)
  refine va_put (D := D) (ci := 4) (C := RX4) (T := TX4) (N := 4) (ty := .int) hx hb hX (fun _ h => h) tyX4 tyX4_ok nmX4 hown hKK.1 hP (wd_D hj) hS k ((wd_at h68).trans (by rw [cel_4 hk])) rfl 3 (by decide) hl (fun _ h => h) rfl (by decide +kernel) rfl rfl (Nat.le_of_ble_eq_true rfl) hdg (fun H1 locs1 hP1 _ hS1 => kk H1 locs1 ?_ hS1)
  have e := wd_setV (ca := ca) (ad := ad) (S := S) (k := k) (r := upd (S.1 k) 3 x) h68 (cel_4 hk)
  show va_P D vwCl (wd ca ad (va_up S.1 k (upd (S.1 k) 3 x), S.2)) H1
  rw [← e]
  exact hP1
theorem g_X5_skids (hx : p.tables.exec = Jvm.exec) (hb : c.code = cc) (hX : ∀ w ∈ wsX50, w.before args s = true) (hown : s.vm.findClass own = some m.cls) (hKK : KK D ca s) (hP : va_P D vwCl (wd ca ad S) H) {k : Nat} (hk : qk k = 5) (hl : (Cond.fieldLink own index "CrashDesk" "skids" "[LCrashDesk$Skid;").before args s = true) (hdg : decode cc pc = .ok (.getfield index, 3)) (kk : W p l e R s m args below meth c H locs cells slots Q (F0 m (pc + 3) ls (.ref (ad 1) :: rest))) : W p l e R s m args below meth c H locs cells slots Q (F0 m pc ls (.ref (ad k) :: rest)) :=
  va_get (D := D) (ci := 5) (C := RX5) (T := TX5) (N := 8) hx hb hX (fun _ h => h) hown hKK.1 hP k ((wd_at (qk_lt hk (by decide))).trans (by rw [cel_5 hk])) rfl 0 (by decide) hl (fun _ h => h) rfl hdg kk
theorem g_X5_tales (hx : p.tables.exec = Jvm.exec) (hb : c.code = cc) (hX : ∀ w ∈ wsX50, w.before args s = true) (hown : s.vm.findClass own = some m.cls) (hKK : KK D ca s) (hP : va_P D vwCl (wd ca ad S) H) {k : Nat} (hk : qk k = 5) (hl : (Cond.fieldLink own index "CrashDesk" "tales" "[LCrashDesk$Tale;").before args s = true) (hdg : decode cc pc = .ok (.getfield index, 3)) (kk : W p l e R s m args below meth c H locs cells slots Q (F0 m (pc + 3) ls (.ref (ad 14) :: rest))) : W p l e R s m args below meth c H locs cells slots Q (F0 m pc ls (.ref (ad k) :: rest)) :=
  va_get (D := D) (ci := 5) (C := RX5) (T := TX5) (N := 8) hx hb hX (fun _ h => h) hown hKK.1 hP k ((wd_at (qk_lt hk (by decide))).trans (by rw [cel_5 hk])) rfl 1 (by decide) hl (fun _ h => h) rfl hdg kk
theorem g_X5_skidCount (hx : p.tables.exec = Jvm.exec) (hb : c.code = cc) (hX : ∀ w ∈ wsX50, w.before args s = true) (hown : s.vm.findClass own = some m.cls) (hKK : KK D ca s) (hP : va_P D vwCl (wd ca ad S) H) {k : Nat} (hk : qk k = 5) (hl : (Cond.fieldLink own index "CrashDesk" "skidCount" "I").before args s = true) (hdg : decode cc pc = .ok (.getfield index, 3)) (kk : W p l e R s m args below meth c H locs cells slots Q (F0 m (pc + 3) ls (.int (S.1 k 2) :: rest))) : W p l e R s m args below meth c H locs cells slots Q (F0 m pc ls (.ref (ad k) :: rest)) :=
  va_get (D := D) (ci := 5) (C := RX5) (T := TX5) (N := 8) hx hb hX (fun _ h => h) hown hKK.1 hP k ((wd_at (qk_lt hk (by decide))).trans (by rw [cel_5 hk])) rfl 2 (by decide) hl (fun _ h => h) rfl hdg kk
theorem p_X5_skidCount (hx : p.tables.exec = Jvm.exec) (hb : c.code = cc) (hX : ∀ w ∈ wsX50, w.before args s = true) (hown : s.vm.findClass own = some m.cls) (hj : Inj ad) (hKK : KK D ca s) (hP : va_P D vwCl (wd ca ad S) H) (hS : va_S (Aq ad s.heap.size) s.heap H locs) {k : Nat} {x : Int32} (hk : qk k = 5) (hl : (Cond.fieldLink own index "CrashDesk" "skidCount" "I").before args s = true) (hdg : decode cc pc = .ok (.putfield index, 3)) (kk : ∀ (H1 : Heap) (locs1 : List Loc), va_P D vwCl (wd ca ad (setF k 2 x S)) H1 → va_S (Aq ad s.heap.size) s.heap H1 locs1 → W p l e R s m args below meth c H1 locs1 cells slots Q (F0 m (pc + 3) ls rest)) : W p l e R s m args below meth c H locs cells slots Q (F0 m pc ls (.int x :: .ref (ad k) :: rest)) := by
  have h68 : k < 68 := qk_lt hk (by decide)
  refine va_put (D := D) (ci := 5) (C := RX5) (T := TX5) (N := 8) (ty := .int) hx hb hX (fun _ h => h) tyX5 tyX5_ok nmX5 hown hKK.1 hP (wd_D hj) hS k ((wd_at h68).trans (by rw [cel_5 hk])) rfl 2 (by decide) hl (fun _ h => h) rfl (by decide +kernel) rfl rfl (Nat.le_of_ble_eq_true rfl) hdg (fun H1 locs1 hP1 _ hS1 => kk H1 locs1 ?_ hS1)
  have e := wd_setV (ca := ca) (ad := ad) (S := S) (k := k) (r := upd (S.1 k) 2 x) h68 (cel_5 hk)
  show va_P D vwCl (wd ca ad (va_up S.1 k (upd (S.1 k) 2 x), S.2)) H1
  rw [← e]
  exact hP1
theorem g_X5_taleCount (hx : p.tables.exec = Jvm.exec) (hb : c.code = cc) (hX : ∀ w ∈ wsX50, w.before args s = true) (hown : s.vm.findClass own = some m.cls) (hKK : KK D ca s) (hP : va_P D vwCl (wd ca ad S) H) {k : Nat} (hk : qk k = 5) (hl : (Cond.fieldLink own index "CrashDesk" "taleCount" "I").before args s = true) (hdg : decode cc pc = .ok (.getfield index, 3)) (kk : W p l e R s m args below meth c H locs cells slots Q (F0 m (pc + 3) ls (.int (S.1 k 3) :: rest))) : W p l e R s m args below meth c H locs cells slots Q (F0 m pc ls (.ref (ad k) :: rest)) :=
  va_get (D := D) (ci := 5) (C := RX5) (T := TX5) (N := 8) hx hb hX (fun _ h => h) hown hKK.1 hP k ((wd_at (qk_lt hk (by decide))).trans (by rw [cel_5 hk])) rfl 3 (by decide) hl (fun _ h => h) rfl hdg kk
theorem p_X5_taleCount (hx : p.tables.exec = Jvm.exec) (hb : c.code = cc) (hX : ∀ w ∈ wsX50, w.before args s = true) (hown : s.vm.findClass own = some m.cls) (hj : Inj ad) (hKK : KK D ca s) (hP : va_P D vwCl (wd ca ad S) H) (hS : va_S (Aq ad s.heap.size) s.heap H locs) {k : Nat} {x : Int32} (hk : qk k = 5) (hl : (Cond.fieldLink own index "CrashDesk" "taleCount" "I").before args s = true) (hdg : decode cc pc = .ok (.putfield index, 3)) (kk : ∀ (H1 : Heap) (locs1 : List Loc), va_P D vwCl (wd ca ad (setF k 3 x S)) H1 → va_S (Aq ad s.heap.size) s.heap H1 locs1 → W p l e R s m args below meth c H1 locs1 cells slots Q (F0 m (pc + 3) ls rest)) : W p l e R s m args below meth c H locs cells slots Q (F0 m pc ls (.int x :: .ref (ad k) :: rest)) := by
  have h68 : k < 68 := qk_lt hk (by decide)
  refine va_put (D := D) (ci := 5) (C := RX5) (T := TX5) (N := 8) (ty := .int) hx hb hX (fun _ h => h) tyX5 tyX5_ok nmX5 hown hKK.1 hP (wd_D hj) hS k ((wd_at h68).trans (by rw [cel_5 hk])) rfl 3 (by decide) hl (fun _ h => h) rfl (by decide +kernel) rfl rfl (Nat.le_of_ble_eq_true rfl) hdg (fun H1 locs1 hP1 _ hS1 => kk H1 locs1 ?_ hS1)
  have e := wd_setV (ca := ca) (ad := ad) (S := S) (k := k) (r := upd (S.1 k) 3 x) h68 (cel_5 hk)
  show va_P D vwCl (wd ca ad (va_up S.1 k (upd (S.1 k) 3 x), S.2)) H1
  rw [← e]
  exact hP1
theorem g_X5_meeting (hx : p.tables.exec = Jvm.exec) (hb : c.code = cc) (hX : ∀ w ∈ wsX50, w.before args s = true) (hown : s.vm.findClass own = some m.cls) (hKK : KK D ca s) (hP : va_P D vwCl (wd ca ad S) H) {k : Nat} (hk : qk k = 5) (hl : (Cond.fieldLink own index "CrashDesk" "meeting" "LCrashDesk$Meeting;").before args s = true) (hdg : decode cc pc = .ok (.getfield index, 3)) (kk : W p l e R s m args below meth c H locs cells slots Q (F0 m (pc + 3) ls (.ref (ad 25) :: rest))) : W p l e R s m args below meth c H locs cells slots Q (F0 m pc ls (.ref (ad k) :: rest)) :=
  va_get (D := D) (ci := 5) (C := RX5) (T := TX5) (N := 8) hx hb hX (fun _ h => h) hown hKK.1 hP k ((wd_at (qk_lt hk (by decide))).trans (by rw [cel_5 hk])) rfl 4 (by decide) hl (fun _ h => h) rfl hdg kk
theorem g_X5_reckoned (hx : p.tables.exec = Jvm.exec) (hb : c.code = cc) (hX : ∀ w ∈ wsX50, w.before args s = true) (hown : s.vm.findClass own = some m.cls) (hKK : KK D ca s) (hP : va_P D vwCl (wd ca ad S) H) {k : Nat} (hk : qk k = 5) (hl : (Cond.fieldLink own index "CrashDesk" "reckoned" "Z").before args s = true) (hdg : decode cc pc = .ok (.getfield index, 3)) (kk : W p l e R s m args below meth c H locs cells slots Q (F0 m (pc + 3) ls (.int (S.1 k 5) :: rest))) : W p l e R s m args below meth c H locs cells slots Q (F0 m pc ls (.ref (ad k) :: rest)) :=
  va_get (D := D) (ci := 5) (C := RX5) (T := TX5) (N := 8) hx hb hX (fun _ h => h) hown hKK.1 hP k ((wd_at (qk_lt hk (by decide))).trans (by rw [cel_5 hk])) rfl 5 (by decide) hl (fun _ h => h) rfl hdg kk
theorem p_X5_reckoned (hx : p.tables.exec = Jvm.exec) (hb : c.code = cc) (hX : ∀ w ∈ wsX50, w.before args s = true) (hown : s.vm.findClass own = some m.cls) (hj : Inj ad) (hKK : KK D ca s) (hP : va_P D vwCl (wd ca ad S) H) (hS : va_S (Aq ad s.heap.size) s.heap H locs) {k : Nat} {x : Int32} (hk : qk k = 5) (h : stZ k 5 x S = some S1) (hl : (Cond.fieldLink own index "CrashDesk" "reckoned" "Z").before args s = true) (hdg : decode cc pc = .ok (.putfield index, 3)) (kk : ∀ (H1 : Heap) (locs1 : List Loc), va_P D vwCl (wd ca ad S1) H1 → va_S (Aq ad s.heap.size) s.heap H1 locs1 → W p l e R s m args below meth c H1 locs1 cells slots Q (F0 m (pc + 3) ls rest)) : W p l e R s m args below meth c H locs cells slots Q (F0 m pc ls (.int x :: .ref (ad k) :: rest)) := by
  obtain ⟨hz, rfl⟩ := q_stZ h
  have h68 : k < 68 := qk_lt hk (by decide)
  refine va_put (D := D) (ci := 5) (C := RX5) (T := TX5) (N := 8) (ty := .boolean) hx hb hX (fun _ h => h) tyX5 tyX5_ok nmX5 hown hKK.1 hP (wd_D hj) hS k ((wd_at h68).trans (by rw [cel_5 hk])) rfl 5 (by decide) hl (fun _ h => h) rfl (by decide +kernel) (q_nz hz) (q_fz hz) (Nat.le_of_ble_eq_true rfl) hdg (fun H1 locs1 hP1 _ hS1 => kk H1 locs1 ?_ hS1)
  have e := wd_setV (ca := ca) (ad := ad) (S := S) (k := k) (r := upd (S.1 k) 5 x) h68 (cel_5 hk)
  show va_P D vwCl (wd ca ad (va_up S.1 k (upd (S.1 k) 5 x), S.2)) H1
  rw [← e]
  exact hP1
theorem g_X5_reckonedTales (hx : p.tables.exec = Jvm.exec) (hb : c.code = cc) (hX : ∀ w ∈ wsX50, w.before args s = true) (hown : s.vm.findClass own = some m.cls) (hKK : KK D ca s) (hP : va_P D vwCl (wd ca ad S) H) {k : Nat} (hk : qk k = 5) (hl : (Cond.fieldLink own index "CrashDesk" "reckonedTales" "I").before args s = true) (hdg : decode cc pc = .ok (.getfield index, 3)) (kk : W p l e R s m args below meth c H locs cells slots Q (F0 m (pc + 3) ls (.int (S.1 k 6) :: rest))) : W p l e R s m args below meth c H locs cells slots Q (F0 m pc ls (.ref (ad k) :: rest)) :=
  va_get (D := D) (ci := 5) (C := RX5) (T := TX5) (N := 8) hx hb hX (fun _ h => h) hown hKK.1 hP k ((wd_at (qk_lt hk (by decide))).trans (by rw [cel_5 hk])) rfl 6 (by decide) hl (fun _ h => h) rfl hdg kk
theorem p_X5_reckonedTales (hx : p.tables.exec = Jvm.exec) (hb : c.code = cc) (hX : ∀ w ∈ wsX50, w.before args s = true) (hown : s.vm.findClass own = some m.cls) (hj : Inj ad) (hKK : KK D ca s) (hP : va_P D vwCl (wd ca ad S) H) (hS : va_S (Aq ad s.heap.size) s.heap H locs) {k : Nat} {x : Int32} (hk : qk k = 5) (hl : (Cond.fieldLink own index "CrashDesk" "reckonedTales" "I").before args s = true) (hdg : decode cc pc = .ok (.putfield index, 3)) (kk : ∀ (H1 : Heap) (locs1 : List Loc), va_P D vwCl (wd ca ad (setF k 6 x S)) H1 → va_S (Aq ad s.heap.size) s.heap H1 locs1 → W p l e R s m args below meth c H1 locs1 cells slots Q (F0 m (pc + 3) ls rest)) : W p l e R s m args below meth c H locs cells slots Q (F0 m pc ls (.int x :: .ref (ad k) :: rest)) := by
  have h68 : k < 68 := qk_lt hk (by decide)
  refine va_put (D := D) (ci := 5) (C := RX5) (T := TX5) (N := 8) (ty := .int) hx hb hX (fun _ h => h) tyX5 tyX5_ok nmX5 hown hKK.1 hP (wd_D hj) hS k ((wd_at h68).trans (by rw [cel_5 hk])) rfl 6 (by decide) hl (fun _ h => h) rfl (by decide +kernel) rfl rfl (Nat.le_of_ble_eq_true rfl) hdg (fun H1 locs1 hP1 _ hS1 => kk H1 locs1 ?_ hS1)
  have e := wd_setV (ca := ca) (ad := ad) (S := S) (k := k) (r := upd (S.1 k) 6 x) h68 (cel_5 hk)
  show va_P D vwCl (wd ca ad (va_up S.1 k (upd (S.1 k) 6 x), S.2)) H1
  rw [← e]
  exact hP1
theorem g_X5_reckonedWithout (hx : p.tables.exec = Jvm.exec) (hb : c.code = cc) (hX : ∀ w ∈ wsX50, w.before args s = true) (hown : s.vm.findClass own = some m.cls) (hKK : KK D ca s) (hP : va_P D vwCl (wd ca ad S) H) {k : Nat} (hk : qk k = 5) (hl : (Cond.fieldLink own index "CrashDesk" "reckonedWithout" "I").before args s = true) (hdg : decode cc pc = .ok (.getfield index, 3)) (kk : W p l e R s m args below meth c H locs cells slots Q (F0 m (pc + 3) ls (.int (S.1 k 7) :: rest))) : W p l e R s m args below meth c H locs cells slots Q (F0 m pc ls (.ref (ad k) :: rest)) :=
  va_get (D := D) (ci := 5) (C := RX5) (T := TX5) (N := 8) hx hb hX (fun _ h => h) hown hKK.1 hP k ((wd_at (qk_lt hk (by decide))).trans (by rw [cel_5 hk])) rfl 7 (by decide) hl (fun _ h => h) rfl hdg kk
theorem p_X5_reckonedWithout (hx : p.tables.exec = Jvm.exec) (hb : c.code = cc) (hX : ∀ w ∈ wsX50, w.before args s = true) (hown : s.vm.findClass own = some m.cls) (hj : Inj ad) (hKK : KK D ca s) (hP : va_P D vwCl (wd ca ad S) H) (hS : va_S (Aq ad s.heap.size) s.heap H locs) {k : Nat} {x : Int32} (hk : qk k = 5) (hl : (Cond.fieldLink own index "CrashDesk" "reckonedWithout" "I").before args s = true) (hdg : decode cc pc = .ok (.putfield index, 3)) (kk : ∀ (H1 : Heap) (locs1 : List Loc), va_P D vwCl (wd ca ad (setF k 7 x S)) H1 → va_S (Aq ad s.heap.size) s.heap H1 locs1 → W p l e R s m args below meth c H1 locs1 cells slots Q (F0 m (pc + 3) ls rest)) : W p l e R s m args below meth c H locs cells slots Q (F0 m pc ls (.int x :: .ref (ad k) :: rest)) := by
  have h68 : k < 68 := qk_lt hk (by decide)
  refine va_put (D := D) (ci := 5) (C := RX5) (T := TX5) (N := 8) (ty := .int) hx hb hX (fun _ h => h) tyX5 tyX5_ok nmX5 hown hKK.1 hP (wd_D hj) hS k ((wd_at h68).trans (by rw [cel_5 hk])) rfl 7 (by decide) hl (fun _ h => h) rfl (by decide +kernel) rfl rfl (Nat.le_of_ble_eq_true rfl) hdg (fun H1 locs1 hP1 _ hS1 => kk H1 locs1 ?_ hS1)
  have e := wd_setV (ca := ca) (ad := ad) (S := S) (k := k) (r := upd (S.1 k) 7 x) h68 (cel_5 hk)
  show va_P D vwCl (wd ca ad (va_up S.1 k (upd (S.1 k) 7 x), S.2)) H1
  rw [← e]
  exact hP1
theorem g_X6_thrown (hx : p.tables.exec = Jvm.exec) (hb : c.code = cc) (hX : ∀ w ∈ wsX60, w.before args s = true) (hown : s.vm.findClass own = some m.cls) (hKK : KK D ca s) (hP : va_P D vwCl (wd ca ad S) H) {k : Nat} (hk : qk k = 6) (hl : (Cond.fieldLink own index "CrashDeskModel" "thrown" "I").before args s = true) (hdg : decode cc pc = .ok (.getfield index, 3)) (kk : W p l e R s m args below meth c H locs cells slots Q (F0 m (pc + 3) ls (.int (S.1 k 0) :: rest))) : W p l e R s m args below meth c H locs cells slots Q (F0 m pc ls (.ref (ad k) :: rest)) :=
  va_get (D := D) (ci := 6) (C := RX6) (T := TX6) (N := 23) hx hb hX (fun _ h => h) hown hKK.1 hP k ((wd_at (qk_lt hk (by decide))).trans (by rw [cel_6 hk])) rfl 0 (by decide) hl (fun _ h => h) rfl hdg kk
theorem p_X6_thrown (hx : p.tables.exec = Jvm.exec) (hb : c.code = cc) (hX : ∀ w ∈ wsX60, w.before args s = true) (hown : s.vm.findClass own = some m.cls) (hj : Inj ad) (hKK : KK D ca s) (hP : va_P D vwCl (wd ca ad S) H) (hS : va_S (Aq ad s.heap.size) s.heap H locs) {k : Nat} {x : Int32} (hk : qk k = 6) (hl : (Cond.fieldLink own index "CrashDeskModel" "thrown" "I").before args s = true) (hdg : decode cc pc = .ok (.putfield index, 3)) (kk : ∀ (H1 : Heap) (locs1 : List Loc), va_P D vwCl (wd ca ad (setF k 0 x S)) H1 → va_S (Aq ad s.heap.size) s.heap H1 locs1 → W p l e R s m args below meth c H1 locs1 cells slots Q (F0 m (pc + 3) ls rest)) : W p l e R s m args below meth c H locs cells slots Q (F0 m pc ls (.int x :: .ref (ad k) :: rest)) := by
  have h68 : k < 68 := qk_lt hk (by decide)
  refine va_put (D := D) (ci := 6) (C := RX6) (T := TX6) (N := 23) (ty := .int) hx hb hX (fun _ h => h) tyX6 tyX6_ok nmX6 hown hKK.1 hP (wd_D hj) hS k ((wd_at h68).trans (by rw [cel_6 hk])) rfl 0 (by decide) hl (fun _ h => h) rfl (by decide +kernel) rfl rfl (Nat.le_of_ble_eq_true rfl) hdg (fun H1 locs1 hP1 _ hS1 => kk H1 locs1 ?_ hS1)
  have e := wd_setV (ca := ca) (ad := ad) (S := S) (k := k) (r := upd (S.1 k) 0 x) h68 (cel_6 hk)
  show va_P D vwCl (wd ca ad (va_up S.1 k (upd (S.1 k) 0 x), S.2)) H1
  rw [← e]
  exact hP1
theorem g_X6_mass (hx : p.tables.exec = Jvm.exec) (hb : c.code = cc) (hX : ∀ w ∈ wsX60, w.before args s = true) (hown : s.vm.findClass own = some m.cls) (hKK : KK D ca s) (hP : va_P D vwCl (wd ca ad S) H) {k : Nat} (hk : qk k = 6) (hl : (Cond.fieldLink own index "CrashDeskModel" "mass" "[I").before args s = true) (hdg : decode cc pc = .ok (.getfield index, 3)) (kk : W p l e R s m args below meth c H locs cells slots Q (F0 m (pc + 3) ls (.ref (ad 49) :: rest))) : W p l e R s m args below meth c H locs cells slots Q (F0 m pc ls (.ref (ad k) :: rest)) :=
  va_get (D := D) (ci := 6) (C := RX6) (T := TX6) (N := 23) hx hb hX (fun _ h => h) hown hKK.1 hP k ((wd_at (qk_lt hk (by decide))).trans (by rw [cel_6 hk])) rfl 1 (by decide) hl (fun _ h => h) rfl hdg kk
theorem g_X6_sCar (hx : p.tables.exec = Jvm.exec) (hb : c.code = cc) (hX : ∀ w ∈ wsX60, w.before args s = true) (hown : s.vm.findClass own = some m.cls) (hKK : KK D ca s) (hP : va_P D vwCl (wd ca ad S) H) {k : Nat} (hk : qk k = 6) (hl : (Cond.fieldLink own index "CrashDeskModel" "sCar" "[I").before args s = true) (hdg : decode cc pc = .ok (.getfield index, 3)) (kk : W p l e R s m args below meth c H locs cells slots Q (F0 m (pc + 3) ls (.ref (ad 50) :: rest))) : W p l e R s m args below meth c H locs cells slots Q (F0 m pc ls (.ref (ad k) :: rest)) :=
  va_get (D := D) (ci := 6) (C := RX6) (T := TX6) (N := 23) hx hb hX (fun _ h => h) hown hKK.1 hP k ((wd_at (qk_lt hk (by decide))).trans (by rw [cel_6 hk])) rfl 2 (by decide) hl (fun _ h => h) rfl hdg kk
theorem g_X6_sBehind (hx : p.tables.exec = Jvm.exec) (hb : c.code = cc) (hX : ∀ w ∈ wsX60, w.before args s = true) (hown : s.vm.findClass own = some m.cls) (hKK : KK D ca s) (hP : va_P D vwCl (wd ca ad S) H) {k : Nat} (hk : qk k = 6) (hl : (Cond.fieldLink own index "CrashDeskModel" "sBehind" "[Z").before args s = true) (hdg : decode cc pc = .ok (.getfield index, 3)) (kk : W p l e R s m args below meth c H locs cells slots Q (F0 m (pc + 3) ls (.ref (ad 51) :: rest))) : W p l e R s m args below meth c H locs cells slots Q (F0 m pc ls (.ref (ad k) :: rest)) :=
  va_get (D := D) (ci := 6) (C := RX6) (T := TX6) (N := 23) hx hb hX (fun _ h => h) hown hKK.1 hP k ((wd_at (qk_lt hk (by decide))).trans (by rw [cel_6 hk])) rfl 3 (by decide) hl (fun _ h => h) rfl hdg kk
theorem g_X6_sLeast (hx : p.tables.exec = Jvm.exec) (hb : c.code = cc) (hX : ∀ w ∈ wsX60, w.before args s = true) (hown : s.vm.findClass own = some m.cls) (hKK : KK D ca s) (hP : va_P D vwCl (wd ca ad S) H) {k : Nat} (hk : qk k = 6) (hl : (Cond.fieldLink own index "CrashDeskModel" "sLeast" "[I").before args s = true) (hdg : decode cc pc = .ok (.getfield index, 3)) (kk : W p l e R s m args below meth c H locs cells slots Q (F0 m (pc + 3) ls (.ref (ad 52) :: rest))) : W p l e R s m args below meth c H locs cells slots Q (F0 m pc ls (.ref (ad k) :: rest)) :=
  va_get (D := D) (ci := 6) (C := RX6) (T := TX6) (N := 23) hx hb hX (fun _ h => h) hown hKK.1 hP k ((wd_at (qk_lt hk (by decide))).trans (by rw [cel_6 hk])) rfl 4 (by decide) hl (fun _ h => h) rfl hdg kk
theorem g_X6_sMost (hx : p.tables.exec = Jvm.exec) (hb : c.code = cc) (hX : ∀ w ∈ wsX60, w.before args s = true) (hown : s.vm.findClass own = some m.cls) (hKK : KK D ca s) (hP : va_P D vwCl (wd ca ad S) H) {k : Nat} (hk : qk k = 6) (hl : (Cond.fieldLink own index "CrashDeskModel" "sMost" "[I").before args s = true) (hdg : decode cc pc = .ok (.getfield index, 3)) (kk : W p l e R s m args below meth c H locs cells slots Q (F0 m (pc + 3) ls (.ref (ad 53) :: rest))) : W p l e R s m args below meth c H locs cells slots Q (F0 m pc ls (.ref (ad k) :: rest)) :=
  va_get (D := D) (ci := 6) (C := RX6) (T := TX6) (N := 23) hx hb hX (fun _ h => h) hown hKK.1 hP k ((wd_at (qk_lt hk (by decide))).trans (by rw [cel_6 hk])) rfl 5 (by decide) hl (fun _ h => h) rfl hdg kk
theorem g_X6_isDropped (hx : p.tables.exec = Jvm.exec) (hb : c.code = cc) (hX : ∀ w ∈ wsX60, w.before args s = true) (hown : s.vm.findClass own = some m.cls) (hKK : KK D ca s) (hP : va_P D vwCl (wd ca ad S) H) {k : Nat} (hk : qk k = 6) (hl : (Cond.fieldLink own index "CrashDeskModel" "isDropped" "[Z").before args s = true) (hdg : decode cc pc = .ok (.getfield index, 3)) (kk : W p l e R s m args below meth c H locs cells slots Q (F0 m (pc + 3) ls (.ref (ad 54) :: rest))) : W p l e R s m args below meth c H locs cells slots Q (F0 m pc ls (.ref (ad k) :: rest)) :=
  va_get (D := D) (ci := 6) (C := RX6) (T := TX6) (N := 23) hx hb hX (fun _ h => h) hown hKK.1 hP k ((wd_at (qk_lt hk (by decide))).trans (by rw [cel_6 hk])) rfl 6 (by decide) hl (fun _ h => h) rfl hdg kk
theorem g_X6_skids (hx : p.tables.exec = Jvm.exec) (hb : c.code = cc) (hX : ∀ w ∈ wsX60, w.before args s = true) (hown : s.vm.findClass own = some m.cls) (hKK : KK D ca s) (hP : va_P D vwCl (wd ca ad S) H) {k : Nat} (hk : qk k = 6) (hl : (Cond.fieldLink own index "CrashDeskModel" "skids" "I").before args s = true) (hdg : decode cc pc = .ok (.getfield index, 3)) (kk : W p l e R s m args below meth c H locs cells slots Q (F0 m (pc + 3) ls (.int (S.1 k 7) :: rest))) : W p l e R s m args below meth c H locs cells slots Q (F0 m pc ls (.ref (ad k) :: rest)) :=
  va_get (D := D) (ci := 6) (C := RX6) (T := TX6) (N := 23) hx hb hX (fun _ h => h) hown hKK.1 hP k ((wd_at (qk_lt hk (by decide))).trans (by rw [cel_6 hk])) rfl 7 (by decide) hl (fun _ h => h) rfl hdg kk
theorem p_X6_skids (hx : p.tables.exec = Jvm.exec) (hb : c.code = cc) (hX : ∀ w ∈ wsX60, w.before args s = true) (hown : s.vm.findClass own = some m.cls) (hj : Inj ad) (hKK : KK D ca s) (hP : va_P D vwCl (wd ca ad S) H) (hS : va_S (Aq ad s.heap.size) s.heap H locs) {k : Nat} {x : Int32} (hk : qk k = 6) (hl : (Cond.fieldLink own index "CrashDeskModel" "skids" "I").before args s = true) (hdg : decode cc pc = .ok (.putfield index, 3)) (kk : ∀ (H1 : Heap) (locs1 : List Loc), va_P D vwCl (wd ca ad (setF k 7 x S)) H1 → va_S (Aq ad s.heap.size) s.heap H1 locs1 → W p l e R s m args below meth c H1 locs1 cells slots Q (F0 m (pc + 3) ls rest)) : W p l e R s m args below meth c H locs cells slots Q (F0 m pc ls (.int x :: .ref (ad k) :: rest)) := by
  have h68 : k < 68 := qk_lt hk (by decide)
  refine va_put (D := D) (ci := 6) (C := RX6) (T := TX6) (N := 23) (ty := .int) hx hb hX (fun _ h => h) tyX6 tyX6_ok nmX6 hown hKK.1 hP (wd_D hj) hS k ((wd_at h68).trans (by rw [cel_6 hk])) rfl 7 (by decide) hl (fun _ h => h) rfl (by decide +kernel) rfl rfl (Nat.le_of_ble_eq_true rfl) hdg (fun H1 locs1 hP1 _ hS1 => kk H1 locs1 ?_ hS1)
  have e := wd_setV (ca := ca) (ad := ad) (S := S) (k := k) (r := upd (S.1 k) 7 x) h68 (cel_6 hk)
  show va_P D vwCl (wd ca ad (va_up S.1 k (upd (S.1 k) 7 x), S.2)) H1
  rw [← e]
  exact hP1
theorem g_X6_low (hx : p.tables.exec = Jvm.exec) (hb : c.code = cc) (hX : ∀ w ∈ wsX60, w.before args s = true) (hown : s.vm.findClass own = some m.cls) (hKK : KK D ca s) (hP : va_P D vwCl (wd ca ad S) H) {k : Nat} (hk : qk k = 6) (hl : (Cond.fieldLink own index "CrashDeskModel" "low" "[I").before args s = true) (hdg : decode cc pc = .ok (.getfield index, 3)) (kk : W p l e R s m args below meth c H locs cells slots Q (F0 m (pc + 3) ls (.ref (ad 55) :: rest))) : W p l e R s m args below meth c H locs cells slots Q (F0 m pc ls (.ref (ad k) :: rest)) :=
  va_get (D := D) (ci := 6) (C := RX6) (T := TX6) (N := 23) hx hb hX (fun _ h => h) hown hKK.1 hP k ((wd_at (qk_lt hk (by decide))).trans (by rw [cel_6 hk])) rfl 8 (by decide) hl (fun _ h => h) rfl hdg kk
theorem g_X6_high (hx : p.tables.exec = Jvm.exec) (hb : c.code = cc) (hX : ∀ w ∈ wsX60, w.before args s = true) (hown : s.vm.findClass own = some m.cls) (hKK : KK D ca s) (hP : va_P D vwCl (wd ca ad S) H) {k : Nat} (hk : qk k = 6) (hl : (Cond.fieldLink own index "CrashDeskModel" "high" "[I").before args s = true) (hdg : decode cc pc = .ok (.getfield index, 3)) (kk : W p l e R s m args below meth c H locs cells slots Q (F0 m (pc + 3) ls (.ref (ad 56) :: rest))) : W p l e R s m args below meth c H locs cells slots Q (F0 m pc ls (.ref (ad k) :: rest)) :=
  va_get (D := D) (ci := 6) (C := RX6) (T := TX6) (N := 23) hx hb hX (fun _ h => h) hown hKK.1 hP k ((wd_at (qk_lt hk (by decide))).trans (by rw [cel_6 hk])) rfl 9 (by decide) hl (fun _ h => h) rfl hdg kk
theorem g_X6_tRow (hx : p.tables.exec = Jvm.exec) (hb : c.code = cc) (hX : ∀ w ∈ wsX60, w.before args s = true) (hown : s.vm.findClass own = some m.cls) (hKK : KK D ca s) (hP : va_P D vwCl (wd ca ad S) H) {k : Nat} (hk : qk k = 6) (hl : (Cond.fieldLink own index "CrashDeskModel" "tRow" "[I").before args s = true) (hdg : decode cc pc = .ok (.getfield index, 3)) (kk : W p l e R s m args below meth c H locs cells slots Q (F0 m (pc + 3) ls (.ref (ad 57) :: rest))) : W p l e R s m args below meth c H locs cells slots Q (F0 m pc ls (.ref (ad k) :: rest)) :=
  va_get (D := D) (ci := 6) (C := RX6) (T := TX6) (N := 23) hx hb hX (fun _ h => h) hown hKK.1 hP k ((wd_at (qk_lt hk (by decide))).trans (by rw [cel_6 hk])) rfl 10 (by decide) hl (fun _ h => h) rfl hdg kk
theorem g_X6_tLow (hx : p.tables.exec = Jvm.exec) (hb : c.code = cc) (hX : ∀ w ∈ wsX60, w.before args s = true) (hown : s.vm.findClass own = some m.cls) (hKK : KK D ca s) (hP : va_P D vwCl (wd ca ad S) H) {k : Nat} (hk : qk k = 6) (hl : (Cond.fieldLink own index "CrashDeskModel" "tLow" "[I").before args s = true) (hdg : decode cc pc = .ok (.getfield index, 3)) (kk : W p l e R s m args below meth c H locs cells slots Q (F0 m (pc + 3) ls (.ref (ad 58) :: rest))) : W p l e R s m args below meth c H locs cells slots Q (F0 m pc ls (.ref (ad k) :: rest)) :=
  va_get (D := D) (ci := 6) (C := RX6) (T := TX6) (N := 23) hx hb hX (fun _ h => h) hown hKK.1 hP k ((wd_at (qk_lt hk (by decide))).trans (by rw [cel_6 hk])) rfl 11 (by decide) hl (fun _ h => h) rfl hdg kk
theorem g_X6_tHigh (hx : p.tables.exec = Jvm.exec) (hb : c.code = cc) (hX : ∀ w ∈ wsX60, w.before args s = true) (hown : s.vm.findClass own = some m.cls) (hKK : KK D ca s) (hP : va_P D vwCl (wd ca ad S) H) {k : Nat} (hk : qk k = 6) (hl : (Cond.fieldLink own index "CrashDeskModel" "tHigh" "[I").before args s = true) (hdg : decode cc pc = .ok (.getfield index, 3)) (kk : W p l e R s m args below meth c H locs cells slots Q (F0 m (pc + 3) ls (.ref (ad 59) :: rest))) : W p l e R s m args below meth c H locs cells slots Q (F0 m pc ls (.ref (ad k) :: rest)) :=
  va_get (D := D) (ci := 6) (C := RX6) (T := TX6) (N := 23) hx hb hX (fun _ h => h) hown hKK.1 hP k ((wd_at (qk_lt hk (by decide))).trans (by rw [cel_6 hk])) rfl 12 (by decide) hl (fun _ h => h) rfl hdg kk
theorem g_X6_tales (hx : p.tables.exec = Jvm.exec) (hb : c.code = cc) (hX : ∀ w ∈ wsX60, w.before args s = true) (hown : s.vm.findClass own = some m.cls) (hKK : KK D ca s) (hP : va_P D vwCl (wd ca ad S) H) {k : Nat} (hk : qk k = 6) (hl : (Cond.fieldLink own index "CrashDeskModel" "tales" "I").before args s = true) (hdg : decode cc pc = .ok (.getfield index, 3)) (kk : W p l e R s m args below meth c H locs cells slots Q (F0 m (pc + 3) ls (.int (S.1 k 13) :: rest))) : W p l e R s m args below meth c H locs cells slots Q (F0 m pc ls (.ref (ad k) :: rest)) :=
  va_get (D := D) (ci := 6) (C := RX6) (T := TX6) (N := 23) hx hb hX (fun _ h => h) hown hKK.1 hP k ((wd_at (qk_lt hk (by decide))).trans (by rw [cel_6 hk])) rfl 13 (by decide) hl (fun _ h => h) rfl hdg kk
theorem p_X6_tales (hx : p.tables.exec = Jvm.exec) (hb : c.code = cc) (hX : ∀ w ∈ wsX60, w.before args s = true) (hown : s.vm.findClass own = some m.cls) (hj : Inj ad) (hKK : KK D ca s) (hP : va_P D vwCl (wd ca ad S) H) (hS : va_S (Aq ad s.heap.size) s.heap H locs) {k : Nat} {x : Int32} (hk : qk k = 6) (hl : (Cond.fieldLink own index "CrashDeskModel" "tales" "I").before args s = true) (hdg : decode cc pc = .ok (.putfield index, 3)) (kk : ∀ (H1 : Heap) (locs1 : List Loc), va_P D vwCl (wd ca ad (setF k 13 x S)) H1 → va_S (Aq ad s.heap.size) s.heap H1 locs1 → W p l e R s m args below meth c H1 locs1 cells slots Q (F0 m (pc + 3) ls rest)) : W p l e R s m args below meth c H locs cells slots Q (F0 m pc ls (.int x :: .ref (ad k) :: rest)) := by
  have h68 : k < 68 := qk_lt hk (by decide)
  refine va_put (D := D) (ci := 6) (C := RX6) (T := TX6) (N := 23) (ty := .int) hx hb hX (fun _ h => h) tyX6 tyX6_ok nmX6 hown hKK.1 hP (wd_D hj) hS k ((wd_at h68).trans (by rw [cel_6 hk])) rfl 13 (by decide) hl (fun _ h => h) rfl (by decide +kernel) rfl rfl (Nat.le_of_ble_eq_true rfl) hdg (fun H1 locs1 hP1 _ hS1 => kk H1 locs1 ?_ hS1)
  have e := wd_setV (ca := ca) (ad := ad) (S := S) (k := k) (r := upd (S.1 k) 13 x) h68 (cel_6 hk)
  show va_P D vwCl (wd ca ad (va_up S.1 k (upd (S.1 k) 13 x), S.2)) H1
  rw [← e]
  exact hP1
theorem g_X6_isLet (hx : p.tables.exec = Jvm.exec) (hb : c.code = cc) (hX : ∀ w ∈ wsX60, w.before args s = true) (hown : s.vm.findClass own = some m.cls) (hKK : KK D ca s) (hP : va_P D vwCl (wd ca ad S) H) {k : Nat} (hk : qk k = 6) (hl : (Cond.fieldLink own index "CrashDeskModel" "isLet" "[Z").before args s = true) (hdg : decode cc pc = .ok (.getfield index, 3)) (kk : W p l e R s m args below meth c H locs cells slots Q (F0 m (pc + 3) ls (.ref (ad 60) :: rest))) : W p l e R s m args below meth c H locs cells slots Q (F0 m pc ls (.ref (ad k) :: rest)) :=
  va_get (D := D) (ci := 6) (C := RX6) (T := TX6) (N := 23) hx hb hX (fun _ h => h) hown hKK.1 hP k ((wd_at (qk_lt hk (by decide))).trans (by rw [cel_6 hk])) rfl 14 (by decide) hl (fun _ h => h) rfl hdg kk
theorem g_X6_isThere (hx : p.tables.exec = Jvm.exec) (hb : c.code = cc) (hX : ∀ w ∈ wsX60, w.before args s = true) (hown : s.vm.findClass own = some m.cls) (hKK : KK D ca s) (hP : va_P D vwCl (wd ca ad S) H) {k : Nat} (hk : qk k = 6) (hl : (Cond.fieldLink own index "CrashDeskModel" "isThere" "[Z").before args s = true) (hdg : decode cc pc = .ok (.getfield index, 3)) (kk : W p l e R s m args below meth c H locs cells slots Q (F0 m (pc + 3) ls (.ref (ad 61) :: rest))) : W p l e R s m args below meth c H locs cells slots Q (F0 m pc ls (.ref (ad k) :: rest)) :=
  va_get (D := D) (ci := 6) (C := RX6) (T := TX6) (N := 23) hx hb hX (fun _ h => h) hown hKK.1 hP k ((wd_at (qk_lt hk (by decide))).trans (by rw [cel_6 hk])) rfl 15 (by decide) hl (fun _ h => h) rfl hdg kk
theorem g_X6_firsts (hx : p.tables.exec = Jvm.exec) (hb : c.code = cc) (hX : ∀ w ∈ wsX60, w.before args s = true) (hown : s.vm.findClass own = some m.cls) (hKK : KK D ca s) (hP : va_P D vwCl (wd ca ad S) H) {k : Nat} (hk : qk k = 6) (hl : (Cond.fieldLink own index "CrashDeskModel" "firsts" "[I").before args s = true) (hdg : decode cc pc = .ok (.getfield index, 3)) (kk : W p l e R s m args below meth c H locs cells slots Q (F0 m (pc + 3) ls (.ref (ad 62) :: rest))) : W p l e R s m args below meth c H locs cells slots Q (F0 m pc ls (.ref (ad k) :: rest)) :=
  va_get (D := D) (ci := 6) (C := RX6) (T := TX6) (N := 23) hx hb hX (fun _ h => h) hown hKK.1 hP k ((wd_at (qk_lt hk (by decide))).trans (by rw [cel_6 hk])) rfl 16 (by decide) hl (fun _ h => h) rfl hdg kk
theorem g_X6_many (hx : p.tables.exec = Jvm.exec) (hb : c.code = cc) (hX : ∀ w ∈ wsX60, w.before args s = true) (hown : s.vm.findClass own = some m.cls) (hKK : KK D ca s) (hP : va_P D vwCl (wd ca ad S) H) {k : Nat} (hk : qk k = 6) (hl : (Cond.fieldLink own index "CrashDeskModel" "many" "J").before args s = true) (hdg : decode cc pc = .ok (.getfield index, 3)) (kk : W p l e R s m args below meth c H locs cells slots Q (F0 m (pc + 3) ls (.long (S.2 k) :: rest))) : W p l e R s m args below meth c H locs cells slots Q (F0 m pc ls (.ref (ad k) :: rest)) :=
  va_get (D := D) (ci := 6) (C := RX6) (T := TX6) (N := 23) hx hb hX (fun _ h => h) hown hKK.1 hP k ((wd_at (qk_lt hk (by decide))).trans (by rw [cel_6 hk])) rfl 17 (by decide) hl (fun _ h => h) rfl hdg kk
theorem p_X6_many (hx : p.tables.exec = Jvm.exec) (hb : c.code = cc) (hX : ∀ w ∈ wsX60, w.before args s = true) (hown : s.vm.findClass own = some m.cls) (hj : Inj ad) (hKK : KK D ca s) (hP : va_P D vwCl (wd ca ad S) H) (hS : va_S (Aq ad s.heap.size) s.heap H locs) {k : Nat} {x : Int64} (hk : qk k = 6) (h : stL k x S = some S1) (hl : (Cond.fieldLink own index "CrashDeskModel" "many" "J").before args s = true) (hdg : decode cc pc = .ok (.putfield index, 3)) (kk : ∀ (H1 : Heap) (locs1 : List Loc), va_P D vwCl (wd ca ad S1) H1 → va_S (Aq ad s.heap.size) s.heap H1 locs1 → W p l e R s m args below meth c H1 locs1 cells slots Q (F0 m (pc + 3) ls rest)) : W p l e R s m args below meth c H locs cells slots Q (F0 m pc ls (.long x :: .ref (ad k) :: rest)) := by
  obtain rfl := Option.some.inj h
  have h68 : k < 68 := qk_lt hk (by decide)
  refine va_put (D := D) (ci := 6) (C := RX6) (T := TX6) (N := 23) (ty := .long) hx hb hX (fun _ h => h) tyX6 tyX6_ok nmX6 hown hKK.1 hP (wd_D hj) hS k ((wd_at h68).trans (by rw [cel_6 hk])) rfl 17 (by decide) hl (fun _ h => h) rfl (by decide +kernel) rfl rfl (Nat.le_of_ble_eq_true rfl) hdg (fun H1 locs1 hP1 _ hS1 => kk H1 locs1 ?_ hS1)
  have e := wd_setM (ca := ca) (ad := ad) (S := S) (k := k) (x := x) h68 (cel_6 hk)
  show va_P D vwCl (wd ca ad (S.1, va_up S.2 k x)) H1
  rw [← e]
  rw [va_up_self]
  exact hP1
theorem g_X6_wanted (hx : p.tables.exec = Jvm.exec) (hb : c.code = cc) (hX : ∀ w ∈ wsX60, w.before args s = true) (hown : s.vm.findClass own = some m.cls) (hKK : KK D ca s) (hP : va_P D vwCl (wd ca ad S) H) {k : Nat} (hk : qk k = 6) (hl : (Cond.fieldLink own index "CrashDeskModel" "wanted" "Z").before args s = true) (hdg : decode cc pc = .ok (.getfield index, 3)) (kk : W p l e R s m args below meth c H locs cells slots Q (F0 m (pc + 3) ls (.int (S.1 k 18) :: rest))) : W p l e R s m args below meth c H locs cells slots Q (F0 m pc ls (.ref (ad k) :: rest)) :=
  va_get (D := D) (ci := 6) (C := RX6) (T := TX6) (N := 23) hx hb hX (fun _ h => h) hown hKK.1 hP k ((wd_at (qk_lt hk (by decide))).trans (by rw [cel_6 hk])) rfl 18 (by decide) hl (fun _ h => h) rfl hdg kk
theorem p_X6_wanted (hx : p.tables.exec = Jvm.exec) (hb : c.code = cc) (hX : ∀ w ∈ wsX60, w.before args s = true) (hown : s.vm.findClass own = some m.cls) (hj : Inj ad) (hKK : KK D ca s) (hP : va_P D vwCl (wd ca ad S) H) (hS : va_S (Aq ad s.heap.size) s.heap H locs) {k : Nat} {x : Int32} (hk : qk k = 6) (h : stZ k 18 x S = some S1) (hl : (Cond.fieldLink own index "CrashDeskModel" "wanted" "Z").before args s = true) (hdg : decode cc pc = .ok (.putfield index, 3)) (kk : ∀ (H1 : Heap) (locs1 : List Loc), va_P D vwCl (wd ca ad S1) H1 → va_S (Aq ad s.heap.size) s.heap H1 locs1 → W p l e R s m args below meth c H1 locs1 cells slots Q (F0 m (pc + 3) ls rest)) : W p l e R s m args below meth c H locs cells slots Q (F0 m pc ls (.int x :: .ref (ad k) :: rest)) := by
  obtain ⟨hz, rfl⟩ := q_stZ h
  have h68 : k < 68 := qk_lt hk (by decide)
  refine va_put (D := D) (ci := 6) (C := RX6) (T := TX6) (N := 23) (ty := .boolean) hx hb hX (fun _ h => h) tyX6 tyX6_ok nmX6 hown hKK.1 hP (wd_D hj) hS k ((wd_at h68).trans (by rw [cel_6 hk])) rfl 18 (by decide) hl (fun _ h => h) rfl (by decide +kernel) (q_nz hz) (q_fz hz) (Nat.le_of_ble_eq_true rfl) hdg (fun H1 locs1 hP1 _ hS1 => kk H1 locs1 ?_ hS1)
  have e := wd_setV (ca := ca) (ad := ad) (S := S) (k := k) (r := upd (S.1 k) 18 x) h68 (cel_6 hk)
  show va_P D vwCl (wd ca ad (va_up S.1 k (upd (S.1 k) 18 x), S.2)) H1
  rw [← e]
  exact hP1
theorem g_X6_isMask (hx : p.tables.exec = Jvm.exec) (hb : c.code = cc) (hX : ∀ w ∈ wsX60, w.before args s = true) (hown : s.vm.findClass own = some m.cls) (hKK : KK D ca s) (hP : va_P D vwCl (wd ca ad S) H) {k : Nat} (hk : qk k = 6) (hl : (Cond.fieldLink own index "CrashDeskModel" "isMask" "[Z").before args s = true) (hdg : decode cc pc = .ok (.getfield index, 3)) (kk : W p l e R s m args below meth c H locs cells slots Q (F0 m (pc + 3) ls (.ref (ad 63) :: rest))) : W p l e R s m args below meth c H locs cells slots Q (F0 m pc ls (.ref (ad k) :: rest)) :=
  va_get (D := D) (ci := 6) (C := RX6) (T := TX6) (N := 23) hx hb hX (fun _ h => h) hown hKK.1 hP k ((wd_at (qk_lt hk (by decide))).trans (by rw [cel_6 hk])) rfl 19 (by decide) hl (fun _ h => h) rfl hdg kk
theorem g_X6_isMade (hx : p.tables.exec = Jvm.exec) (hb : c.code = cc) (hX : ∀ w ∈ wsX60, w.before args s = true) (hown : s.vm.findClass own = some m.cls) (hKK : KK D ca s) (hP : va_P D vwCl (wd ca ad S) H) {k : Nat} (hk : qk k = 6) (hl : (Cond.fieldLink own index "CrashDeskModel" "isMade" "[Z").before args s = true) (hdg : decode cc pc = .ok (.getfield index, 3)) (kk : W p l e R s m args below meth c H locs cells slots Q (F0 m (pc + 3) ls (.ref (ad 64) :: rest))) : W p l e R s m args below meth c H locs cells slots Q (F0 m pc ls (.ref (ad k) :: rest)) :=
  va_get (D := D) (ci := 6) (C := RX6) (T := TX6) (N := 23) hx hb hX (fun _ h => h) hown hKK.1 hP k ((wd_at (qk_lt hk (by decide))).trans (by rw [cel_6 hk])) rfl 20 (by decide) hl (fun _ h => h) rfl hdg kk
theorem g_X6_made (hx : p.tables.exec = Jvm.exec) (hb : c.code = cc) (hX : ∀ w ∈ wsX60, w.before args s = true) (hown : s.vm.findClass own = some m.cls) (hKK : KK D ca s) (hP : va_P D vwCl (wd ca ad S) H) {k : Nat} (hk : qk k = 6) (hl : (Cond.fieldLink own index "CrashDeskModel" "made" "[I").before args s = true) (hdg : decode cc pc = .ok (.getfield index, 3)) (kk : W p l e R s m args below meth c H locs cells slots Q (F0 m (pc + 3) ls (.ref (ad 65) :: rest))) : W p l e R s m args below meth c H locs cells slots Q (F0 m pc ls (.ref (ad k) :: rest)) :=
  va_get (D := D) (ci := 6) (C := RX6) (T := TX6) (N := 23) hx hb hX (fun _ h => h) hown hKK.1 hP k ((wd_at (qk_lt hk (by decide))).trans (by rw [cel_6 hk])) rfl 21 (by decide) hl (fun _ h => h) rfl hdg kk
theorem g_X6_mades (hx : p.tables.exec = Jvm.exec) (hb : c.code = cc) (hX : ∀ w ∈ wsX60, w.before args s = true) (hown : s.vm.findClass own = some m.cls) (hKK : KK D ca s) (hP : va_P D vwCl (wd ca ad S) H) {k : Nat} (hk : qk k = 6) (hl : (Cond.fieldLink own index "CrashDeskModel" "mades" "[I").before args s = true) (hdg : decode cc pc = .ok (.getfield index, 3)) (kk : W p l e R s m args below meth c H locs cells slots Q (F0 m (pc + 3) ls (.ref (ad 66) :: rest))) : W p l e R s m args below meth c H locs cells slots Q (F0 m pc ls (.ref (ad k) :: rest)) :=
  va_get (D := D) (ci := 6) (C := RX6) (T := TX6) (N := 23) hx hb hX (fun _ h => h) hown hKK.1 hP k ((wd_at (qk_lt hk (by decide))).trans (by rw [cel_6 hk])) rfl 22 (by decide) hl (fun _ h => h) rfl hdg kk
end
abbrev Zv (below : List Frame) (D : va_G) (ca : Nat → ClassId) (ad : Nat → Nat) (args : Array Value) (s : State) (S : QS) : State → Prop := MQ below (va_Qv (fun u : QS => u = S) (Bt D ca ad) (Aq ad s.heap.size)) args s 0 0 (Aq ad s.heap.size)
abbrev Zi (below : List Frame) (D : va_G) (ca : Nat → ClassId) (ad : Nat → Nat) (args : Array Value) (s : State) (x : Int32) (S : QS) : State → Prop := MQ below (va_Qi (fun (r : Int32) (u : QS) => r = x ∧ u = S) (Bt D ca ad) (Aq ad s.heap.size)) args s 0 0 (Aq ad s.heap.size)
abbrev Zl (below : List Frame) (D : va_G) (ca : Nat → ClassId) (ad : Nat → Nat) (args : Array Value) (s : State) (x : Int64) (S : QS) : State → Prop := MQ below (va_Ql (fun (r : Int64) (u : QS) => r = x ∧ u = S) (Bt D ca ad) (Aq ad s.heap.size)) args s 0 0 (Aq ad s.heap.size)
abbrev Zr (below : List Frame) (D : va_G) (ca : Nat → ClassId) (ad : Nat → Nat) (args : Array Value) (s : State) (x : Nat) (S : QS) : State → Prop := MQ below (va_Qr (fun u : QS => u = S) (fun u a t => a = ad x ∧ Bt D ca ad u t) (Aq ad s.heap.size)) args s 0 0 (Aq ad s.heap.size)
def FU : Nat := 1100
end
section
theorem dX3_init_0 : decode cX3_init 0 = .ok (.aload_n 0, 1) := by decide +kernel
theorem dX3_init_1 : decode cX3_init 1 = .ok (.invokespecial 3, 3) := by decide +kernel
theorem dX3_init_4 : decode cX3_init 4 = .ok (.aload_n 0, 1) := by decide +kernel
theorem dX3_init_5 : decode cX3_init 5 = .ok (.bipush (-50), 2) := by decide +kernel
theorem dX3_init_7 : decode cX3_init 7 = .ok (.putfield 9, 3) := by decide +kernel
theorem dX3_init_10 : decode cX3_init 10 = .ok (.aload_n 0, 1) := by decide +kernel
theorem dX3_init_11 : decode cX3_init 11 = .ok (.bipush 50, 2) := by decide +kernel
theorem dX3_init_13 : decode cX3_init 13 = .ok (.putfield 15, 3) := by decide +kernel
theorem dX3_init_16 : decode cX3_init 16 = .ok (.aload_n 0, 1) := by decide +kernel
theorem dX3_init_17 : decode cX3_init 17 = .ok (.bipush (-50), 2) := by decide +kernel
theorem dX3_init_19 : decode cX3_init 19 = .ok (.putfield 18, 3) := by decide +kernel
theorem dX3_init_22 : decode cX3_init 22 = .ok (.aload_n 0, 1) := by decide +kernel
theorem dX3_init_23 : decode cX3_init 23 = .ok (.bipush 50, 2) := by decide +kernel
theorem dX3_init_25 : decode cX3_init 25 = .ok (.putfield 21, 3) := by decide +kernel
theorem dX3_init_28 : decode cX3_init 28 = .ok (.aload_n 0, 1) := by decide +kernel
theorem dX3_init_29 : decode cX3_init 29 = .ok (.bipush 101, 2) := by decide +kernel
theorem dX3_init_31 : decode cX3_init 31 = .ok (.newarray .int, 2) := by decide +kernel
theorem dX3_init_33 : decode cX3_init 33 = .ok (.putfield 24, 3) := by decide +kernel
theorem dX3_init_36 : decode cX3_init 36 = .ok (.aload_n 0, 1) := by decide +kernel
theorem dX3_init_37 : decode cX3_init 37 = .ok (.bipush 101, 2) := by decide +kernel
theorem dX3_init_39 : decode cX3_init 39 = .ok (.newarray .boolean, 2) := by decide +kernel
theorem dX3_init_41 : decode cX3_init 41 = .ok (.putfield 28, 3) := by decide +kernel
theorem dX3_init_44 : decode cX3_init 44 = .ok (.return_, 1) := by decide +kernel
set_option maxRecDepth 20000 in
theorem ggX3_clear_X3_setPrice : GoodIn wsX3_clear wsX3_setPrice := goodIn_r _ [8, 9, 10, 11, 12, 13, 14, 15] (by decide +kernel) (by decide +kernel)
set_option maxRecDepth 20000 in
theorem gX3_clear_X3_setPrice : GoodIn wsX3_clear (wsV RX3 32 RX3 yX3_setPrice wsX3_setPrice) := goodIn_app (goodIn_of _ (by decide +kernel)) ggX3_clear_X3_setPrice
theorem dX3_clear_0 : decode cX3_clear 0 = .ok (.bipush (-50), 2) := by decide +kernel
theorem dX3_clear_2 : decode cX3_clear 2 = .ok (.istore_n 1, 1) := by decide +kernel
theorem dX3_clear_3 : decode cX3_clear 3 = .ok (.iload_n 1, 1) := by decide +kernel
theorem dX3_clear_4 : decode cX3_clear 4 = .ok (.bipush 50, 2) := by decide +kernel
theorem dX3_clear_6 : decode cX3_clear 6 = .ok (.if_icmp .gt 45, 3) := by decide +kernel
theorem dX3_clear_9 : decode cX3_clear 9 = .ok (.aload_n 0, 1) := by decide +kernel
theorem dX3_clear_10 : decode cX3_clear 10 = .ok (.iload_n 1, 1) := by decide +kernel
theorem dX3_clear_11 : decode cX3_clear 11 = .ok (.iload_n 1, 1) := by decide +kernel
theorem dX3_clear_12 : decode cX3_clear 12 = .ok (.aload_n 0, 1) := by decide +kernel
theorem dX3_clear_13 : decode cX3_clear 13 = .ok (.getfield 9, 3) := by decide +kernel
theorem dX3_clear_16 : decode cX3_clear 16 = .ok (.if_icmp .lt 11, 3) := by decide +kernel
theorem dX3_clear_19 : decode cX3_clear 19 = .ok (.iload_n 1, 1) := by decide +kernel
theorem dX3_clear_20 : decode cX3_clear 20 = .ok (.aload_n 0, 1) := by decide +kernel
theorem dX3_clear_21 : decode cX3_clear 21 = .ok (.getfield 15, 3) := by decide +kernel
theorem dX3_clear_24 : decode cX3_clear 24 = .ok (.if_icmp .le 7, 3) := by decide +kernel
theorem dX3_clear_27 : decode cX3_clear 27 = .ok (.iconst (-1), 1) := by decide +kernel
theorem dX3_clear_28 : decode cX3_clear 28 = .ok (.goto 4, 3) := by decide +kernel
theorem dX3_clear_31 : decode cX3_clear 31 = .ok (.iconst 0, 1) := by decide +kernel
theorem dX3_clear_32 : decode cX3_clear 32 = .ok (.invokevirtual 32, 3) := by decide +kernel
theorem dX3_clear_35 : decode cX3_clear 35 = .ok (.aload_n 0, 1) := by decide +kernel
theorem dX3_clear_36 : decode cX3_clear 36 = .ok (.getfield 28, 3) := by decide +kernel
theorem dX3_clear_39 : decode cX3_clear 39 = .ok (.iload_n 1, 1) := by decide +kernel
theorem dX3_clear_40 : decode cX3_clear 40 = .ok (.bipush (-50), 2) := by decide +kernel
theorem dX3_clear_42 : decode cX3_clear 42 = .ok (.isub, 1) := by decide +kernel
theorem dX3_clear_43 : decode cX3_clear 43 = .ok (.iconst 0, 1) := by decide +kernel
theorem dX3_clear_44 : decode cX3_clear 44 = .ok (.bastore, 1) := by decide +kernel
theorem dX3_clear_45 : decode cX3_clear 45 = .ok (.iinc 1 1, 3) := by decide +kernel
theorem dX3_clear_48 : decode cX3_clear 48 = .ok (.goto (-45), 3) := by decide +kernel
theorem dX3_clear_51 : decode cX3_clear 51 = .ok (.return_, 1) := by decide +kernel
set_option maxRecDepth 20000 in
theorem ggX3_hear_X3_isOpen : GoodIn wsX3_hear wsX3_isOpen := goodIn_r _ [7, 8, 9, 10, 6, 11, 12, 21, 22, 23, 24, 25, 26] (by decide +kernel) (by decide +kernel)
set_option maxRecDepth 20000 in
theorem gX3_hear_X3_isOpen : GoodIn wsX3_hear (wsV RX3 40 RX3 yX3_isOpen wsX3_isOpen) := goodIn_app (goodIn_of _ (by decide +kernel)) ggX3_hear_X3_isOpen
set_option maxRecDepth 20000 in
theorem ggX3_hear_X3_priceOf : GoodIn wsX3_hear wsX3_priceOf := goodIn_r _ [11, 12, 21, 22, 23, 24, 25, 26] (by decide +kernel) (by decide +kernel)
set_option maxRecDepth 20000 in
theorem gX3_hear_X3_priceOf : GoodIn wsX3_hear (wsV RX3 44 RX3 yX3_priceOf wsX3_priceOf) := goodIn_app (goodIn_of _ (by decide +kernel)) ggX3_hear_X3_priceOf
set_option maxRecDepth 20000 in
theorem ggX3_hear_X3_setPrice : GoodIn wsX3_hear wsX3_setPrice := goodIn_r _ [16, 12, 21, 22, 23, 24, 25, 26] (by decide +kernel) (by decide +kernel)
set_option maxRecDepth 20000 in
theorem gX3_hear_X3_setPrice : GoodIn wsX3_hear (wsV RX3 32 RX3 yX3_setPrice wsX3_setPrice) := goodIn_app (goodIn_of _ (by decide +kernel)) ggX3_hear_X3_setPrice
theorem dX3_hear_0 : decode cX3_hear 0 = .ok (.bipush (-50), 2) := by decide +kernel
theorem dX3_hear_2 : decode cX3_hear 2 = .ok (.istore_n 3, 1) := by decide +kernel
theorem dX3_hear_3 : decode cX3_hear 3 = .ok (.iload_n 3, 1) := by decide +kernel
theorem dX3_hear_4 : decode cX3_hear 4 = .ok (.bipush 50, 2) := by decide +kernel
theorem dX3_hear_6 : decode cX3_hear 6 = .ok (.if_icmp .gt 66, 3) := by decide +kernel
theorem dX3_hear_9 : decode cX3_hear 9 = .ok (.iload_n 3, 1) := by decide +kernel
theorem dX3_hear_10 : decode cX3_hear 10 = .ok (.aload_n 1, 1) := by decide +kernel
theorem dX3_hear_11 : decode cX3_hear 11 = .ok (.getfield 36, 3) := by decide +kernel
theorem dX3_hear_14 : decode cX3_hear 14 = .ok (.if_icmp .lt 15, 3) := by decide +kernel
theorem dX3_hear_17 : decode cX3_hear 17 = .ok (.iload_n 3, 1) := by decide +kernel
theorem dX3_hear_18 : decode cX3_hear 18 = .ok (.aload_n 1, 1) := by decide +kernel
theorem dX3_hear_19 : decode cX3_hear 19 = .ok (.getfield 39, 3) := by decide +kernel
theorem dX3_hear_22 : decode cX3_hear 22 = .ok (.if_icmp .gt 7, 3) := by decide +kernel
theorem dX3_hear_25 : decode cX3_hear 25 = .ok (.iconst 1, 1) := by decide +kernel
theorem dX3_hear_26 : decode cX3_hear 26 = .ok (.goto 4, 3) := by decide +kernel
theorem dX3_hear_29 : decode cX3_hear 29 = .ok (.iconst 0, 1) := by decide +kernel
theorem dX3_hear_30 : decode cX3_hear 30 = .ok (.istore 4, 2) := by decide +kernel
theorem dX3_hear_32 : decode cX3_hear 32 = .ok (.iload 4, 2) := by decide +kernel
theorem dX3_hear_34 : decode cX3_hear 34 = .ok (.ifCond .ne 32, 3) := by decide +kernel
theorem dX3_hear_37 : decode cX3_hear 37 = .ok (.aload_n 0, 1) := by decide +kernel
theorem dX3_hear_38 : decode cX3_hear 38 = .ok (.iload_n 3, 1) := by decide +kernel
theorem dX3_hear_39 : decode cX3_hear 39 = .ok (.invokevirtual 40, 3) := by decide +kernel
theorem dX3_hear_42 : decode cX3_hear 42 = .ok (.ifCond .eq 24, 3) := by decide +kernel
theorem dX3_hear_45 : decode cX3_hear 45 = .ok (.aload_n 0, 1) := by decide +kernel
theorem dX3_hear_46 : decode cX3_hear 46 = .ok (.iload_n 3, 1) := by decide +kernel
theorem dX3_hear_47 : decode cX3_hear 47 = .ok (.iload_n 2, 1) := by decide +kernel
theorem dX3_hear_48 : decode cX3_hear 48 = .ok (.iconst (-1), 1) := by decide +kernel
theorem dX3_hear_49 : decode cX3_hear 49 = .ok (.if_icmp .ne 7, 3) := by decide +kernel
theorem dX3_hear_52 : decode cX3_hear 52 = .ok (.iconst (-1), 1) := by decide +kernel
theorem dX3_hear_53 : decode cX3_hear 53 = .ok (.goto 10, 3) := by decide +kernel
theorem dX3_hear_56 : decode cX3_hear 56 = .ok (.aload_n 0, 1) := by decide +kernel
theorem dX3_hear_57 : decode cX3_hear 57 = .ok (.iload_n 3, 1) := by decide +kernel
theorem dX3_hear_58 : decode cX3_hear 58 = .ok (.invokevirtual 44, 3) := by decide +kernel
theorem dX3_hear_61 : decode cX3_hear 61 = .ok (.iload_n 2, 1) := by decide +kernel
theorem dX3_hear_62 : decode cX3_hear 62 = .ok (.iadd, 1) := by decide +kernel
theorem dX3_hear_63 : decode cX3_hear 63 = .ok (.invokevirtual 32, 3) := by decide +kernel
theorem dX3_hear_66 : decode cX3_hear 66 = .ok (.iinc 3 1, 3) := by decide +kernel
theorem dX3_hear_69 : decode cX3_hear 69 = .ok (.goto (-66), 3) := by decide +kernel
theorem dX3_hear_72 : decode cX3_hear 72 = .ok (.return_, 1) := by decide +kernel
theorem dX3_priceOf_0 : decode cX3_priceOf 0 = .ok (.iload_n 1, 1) := by decide +kernel
theorem dX3_priceOf_1 : decode cX3_priceOf 1 = .ok (.bipush (-50), 2) := by decide +kernel
theorem dX3_priceOf_3 : decode cX3_priceOf 3 = .ok (.if_icmp .lt 9, 3) := by decide +kernel
theorem dX3_priceOf_6 : decode cX3_priceOf 6 = .ok (.iload_n 1, 1) := by decide +kernel
theorem dX3_priceOf_7 : decode cX3_priceOf 7 = .ok (.bipush 50, 2) := by decide +kernel
theorem dX3_priceOf_9 : decode cX3_priceOf 9 = .ok (.if_icmp .le 7, 3) := by decide +kernel
theorem dX3_priceOf_12 : decode cX3_priceOf 12 = .ok (.iconst (-1), 1) := by decide +kernel
theorem dX3_priceOf_13 : decode cX3_priceOf 13 = .ok (.goto 12, 3) := by decide +kernel
theorem dX3_priceOf_16 : decode cX3_priceOf 16 = .ok (.aload_n 0, 1) := by decide +kernel
theorem dX3_priceOf_17 : decode cX3_priceOf 17 = .ok (.getfield 24, 3) := by decide +kernel
theorem dX3_priceOf_20 : decode cX3_priceOf 20 = .ok (.iload_n 1, 1) := by decide +kernel
theorem dX3_priceOf_21 : decode cX3_priceOf 21 = .ok (.bipush (-50), 2) := by decide +kernel
theorem dX3_priceOf_23 : decode cX3_priceOf 23 = .ok (.isub, 1) := by decide +kernel
theorem dX3_priceOf_24 : decode cX3_priceOf 24 = .ok (.iaload, 1) := by decide +kernel
theorem dX3_priceOf_25 : decode cX3_priceOf 25 = .ok (.ireturn, 1) := by decide +kernel
set_option maxRecDepth 20000 in
theorem ggX3_isOpen_X3_priceOf : GoodIn wsX3_isOpen wsX3_priceOf := goodIn_r _ [5, 6, 7, 8, 9, 10, 11, 12] (by decide +kernel) (by decide +kernel)
set_option maxRecDepth 20000 in
theorem gX3_isOpen_X3_priceOf : GoodIn wsX3_isOpen (wsV RX3 44 RX3 yX3_priceOf wsX3_priceOf) := goodIn_app (goodIn_of _ (by decide +kernel)) ggX3_isOpen_X3_priceOf
theorem dX3_isOpen_0 : decode cX3_isOpen 0 = .ok (.aload_n 0, 1) := by decide +kernel
theorem dX3_isOpen_1 : decode cX3_isOpen 1 = .ok (.iload_n 1, 1) := by decide +kernel
theorem dX3_isOpen_2 : decode cX3_isOpen 2 = .ok (.invokevirtual 44, 3) := by decide +kernel
theorem dX3_isOpen_5 : decode cX3_isOpen 5 = .ok (.iconst (-1), 1) := by decide +kernel
theorem dX3_isOpen_6 : decode cX3_isOpen 6 = .ok (.if_icmp .eq 7, 3) := by decide +kernel
theorem dX3_isOpen_9 : decode cX3_isOpen 9 = .ok (.iconst 1, 1) := by decide +kernel
theorem dX3_isOpen_10 : decode cX3_isOpen 10 = .ok (.goto 4, 3) := by decide +kernel
theorem dX3_isOpen_13 : decode cX3_isOpen 13 = .ok (.iconst 0, 1) := by decide +kernel
theorem dX3_isOpen_14 : decode cX3_isOpen 14 = .ok (.ireturn, 1) := by decide +kernel
theorem dX3_setPrice_0 : decode cX3_setPrice 0 = .ok (.iload_n 1, 1) := by decide +kernel
theorem dX3_setPrice_1 : decode cX3_setPrice 1 = .ok (.bipush (-50), 2) := by decide +kernel
theorem dX3_setPrice_3 : decode cX3_setPrice 3 = .ok (.if_icmp .lt 19, 3) := by decide +kernel
theorem dX3_setPrice_6 : decode cX3_setPrice 6 = .ok (.iload_n 1, 1) := by decide +kernel
theorem dX3_setPrice_7 : decode cX3_setPrice 7 = .ok (.bipush 50, 2) := by decide +kernel
theorem dX3_setPrice_9 : decode cX3_setPrice 9 = .ok (.if_icmp .gt 13, 3) := by decide +kernel
theorem dX3_setPrice_12 : decode cX3_setPrice 12 = .ok (.aload_n 0, 1) := by decide +kernel
theorem dX3_setPrice_13 : decode cX3_setPrice 13 = .ok (.getfield 24, 3) := by decide +kernel
theorem dX3_setPrice_16 : decode cX3_setPrice 16 = .ok (.iload_n 1, 1) := by decide +kernel
theorem dX3_setPrice_17 : decode cX3_setPrice 17 = .ok (.bipush (-50), 2) := by decide +kernel
theorem dX3_setPrice_19 : decode cX3_setPrice 19 = .ok (.isub, 1) := by decide +kernel
theorem dX3_setPrice_20 : decode cX3_setPrice 20 = .ok (.iload_n 2, 1) := by decide +kernel
theorem dX3_setPrice_21 : decode cX3_setPrice 21 = .ok (.iastore, 1) := by decide +kernel
theorem dX3_setPrice_22 : decode cX3_setPrice 22 = .ok (.return_, 1) := by decide +kernel
set_option maxRecDepth 20000 in
theorem ggX3_bound_X3_isOpen : GoodIn wsX3_bound wsX3_isOpen := goodIn_r _ [11, 12, 13, 14, 10, 15, 16, 17, 18, 19, 20, 21, 22] (by decide +kernel) (by decide +kernel)
set_option maxRecDepth 20000 in
theorem gX3_bound_X3_isOpen : GoodIn wsX3_bound (wsV RX3 40 RX3 yX3_isOpen wsX3_isOpen) := goodIn_app (goodIn_of _ (by decide +kernel)) ggX3_bound_X3_isOpen
theorem dX3_bound_0 : decode cX3_bound 0 = .ok (.aload_n 0, 1) := by decide +kernel
theorem dX3_bound_1 : decode cX3_bound 1 = .ok (.bipush 51, 2) := by decide +kernel
theorem dX3_bound_3 : decode cX3_bound 3 = .ok (.putfield 18, 3) := by decide +kernel
theorem dX3_bound_6 : decode cX3_bound 6 = .ok (.aload_n 0, 1) := by decide +kernel
theorem dX3_bound_7 : decode cX3_bound 7 = .ok (.bipush (-51), 2) := by decide +kernel
theorem dX3_bound_9 : decode cX3_bound 9 = .ok (.putfield 21, 3) := by decide +kernel
theorem dX3_bound_12 : decode cX3_bound 12 = .ok (.bipush (-50), 2) := by decide +kernel
theorem dX3_bound_14 : decode cX3_bound 14 = .ok (.istore_n 1, 1) := by decide +kernel
theorem dX3_bound_15 : decode cX3_bound 15 = .ok (.iload_n 1, 1) := by decide +kernel
theorem dX3_bound_16 : decode cX3_bound 16 = .ok (.bipush 50, 2) := by decide +kernel
theorem dX3_bound_18 : decode cX3_bound 18 = .ok (.if_icmp .gt 34, 3) := by decide +kernel
theorem dX3_bound_21 : decode cX3_bound 21 = .ok (.aload_n 0, 1) := by decide +kernel
theorem dX3_bound_22 : decode cX3_bound 22 = .ok (.iload_n 1, 1) := by decide +kernel
theorem dX3_bound_23 : decode cX3_bound 23 = .ok (.invokevirtual 40, 3) := by decide +kernel
theorem dX3_bound_26 : decode cX3_bound 26 = .ok (.ifCond .eq 20, 3) := by decide +kernel
theorem dX3_bound_29 : decode cX3_bound 29 = .ok (.aload_n 0, 1) := by decide +kernel
theorem dX3_bound_30 : decode cX3_bound 30 = .ok (.aload_n 0, 1) := by decide +kernel
theorem dX3_bound_31 : decode cX3_bound 31 = .ok (.getfield 18, 3) := by decide +kernel
theorem dX3_bound_34 : decode cX3_bound 34 = .ok (.iload_n 1, 1) := by decide +kernel
theorem dX3_bound_35 : decode cX3_bound 35 = .ok (.invokestatic 48, 3) := by decide +kernel
theorem dX3_bound_38 : decode cX3_bound 38 = .ok (.putfield 18, 3) := by decide +kernel
theorem dX3_bound_41 : decode cX3_bound 41 = .ok (.aload_n 0, 1) := by decide +kernel
theorem dX3_bound_42 : decode cX3_bound 42 = .ok (.iload_n 1, 1) := by decide +kernel
theorem dX3_bound_43 : decode cX3_bound 43 = .ok (.putfield 21, 3) := by decide +kernel
theorem dX3_bound_46 : decode cX3_bound 46 = .ok (.iinc 1 1, 3) := by decide +kernel
theorem dX3_bound_49 : decode cX3_bound 49 = .ok (.goto (-34), 3) := by decide +kernel
theorem dX3_bound_52 : decode cX3_bound 52 = .ok (.return_, 1) := by decide +kernel
theorem dX3_see_0 : decode cX3_see 0 = .ok (.iload_n 1, 1) := by decide +kernel
theorem dX3_see_1 : decode cX3_see 1 = .ok (.bipush (-50), 2) := by decide +kernel
theorem dX3_see_3 : decode cX3_see 3 = .ok (.if_icmp .lt 19, 3) := by decide +kernel
theorem dX3_see_6 : decode cX3_see 6 = .ok (.iload_n 1, 1) := by decide +kernel
theorem dX3_see_7 : decode cX3_see 7 = .ok (.bipush 50, 2) := by decide +kernel
theorem dX3_see_9 : decode cX3_see 9 = .ok (.if_icmp .gt 13, 3) := by decide +kernel
theorem dX3_see_12 : decode cX3_see 12 = .ok (.aload_n 0, 1) := by decide +kernel
theorem dX3_see_13 : decode cX3_see 13 = .ok (.getfield 28, 3) := by decide +kernel
theorem dX3_see_16 : decode cX3_see 16 = .ok (.iload_n 1, 1) := by decide +kernel
theorem dX3_see_17 : decode cX3_see 17 = .ok (.bipush (-50), 2) := by decide +kernel
theorem dX3_see_19 : decode cX3_see 19 = .ok (.isub, 1) := by decide +kernel
theorem dX3_see_20 : decode cX3_see 20 = .ok (.iconst 1, 1) := by decide +kernel
theorem dX3_see_21 : decode cX3_see 21 = .ok (.bastore, 1) := by decide +kernel
theorem dX3_see_22 : decode cX3_see 22 = .ok (.return_, 1) := by decide +kernel
theorem dX3_isSeen_0 : decode cX3_isSeen 0 = .ok (.iload_n 1, 1) := by decide +kernel
theorem dX3_isSeen_1 : decode cX3_isSeen 1 = .ok (.bipush (-50), 2) := by decide +kernel
theorem dX3_isSeen_3 : decode cX3_isSeen 3 = .ok (.if_icmp .lt 25, 3) := by decide +kernel
theorem dX3_isSeen_6 : decode cX3_isSeen 6 = .ok (.iload_n 1, 1) := by decide +kernel
theorem dX3_isSeen_7 : decode cX3_isSeen 7 = .ok (.bipush 50, 2) := by decide +kernel
theorem dX3_isSeen_9 : decode cX3_isSeen 9 = .ok (.if_icmp .gt 19, 3) := by decide +kernel
theorem dX3_isSeen_12 : decode cX3_isSeen 12 = .ok (.aload_n 0, 1) := by decide +kernel
theorem dX3_isSeen_13 : decode cX3_isSeen 13 = .ok (.getfield 28, 3) := by decide +kernel
theorem dX3_isSeen_16 : decode cX3_isSeen 16 = .ok (.iload_n 1, 1) := by decide +kernel
theorem dX3_isSeen_17 : decode cX3_isSeen 17 = .ok (.bipush (-50), 2) := by decide +kernel
theorem dX3_isSeen_19 : decode cX3_isSeen 19 = .ok (.isub, 1) := by decide +kernel
theorem dX3_isSeen_20 : decode cX3_isSeen 20 = .ok (.baload, 1) := by decide +kernel
theorem dX3_isSeen_21 : decode cX3_isSeen 21 = .ok (.ifCond .eq 7, 3) := by decide +kernel
theorem dX3_isSeen_24 : decode cX3_isSeen 24 = .ok (.iconst 1, 1) := by decide +kernel
theorem dX3_isSeen_25 : decode cX3_isSeen 25 = .ok (.goto 4, 3) := by decide +kernel
theorem dX3_isSeen_28 : decode cX3_isSeen 28 = .ok (.iconst 0, 1) := by decide +kernel
theorem dX3_isSeen_29 : decode cX3_isSeen 29 = .ok (.ireturn, 1) := by decide +kernel
set_option maxRecDepth 20000 in
theorem ggX3_leastSeen_X3_isSeen : GoodIn wsX3_leastSeen wsX3_isSeen := goodIn_r _ [5, 6, 7, 8, 9, 10, 11, 12] (by decide +kernel) (by decide +kernel)
set_option maxRecDepth 20000 in
theorem gX3_leastSeen_X3_isSeen : GoodIn wsX3_leastSeen (wsV RX3 54 RX3 yX3_isSeen wsX3_isSeen) := goodIn_app (goodIn_of _ (by decide +kernel)) ggX3_leastSeen_X3_isSeen
theorem dX3_leastSeen_0 : decode cX3_leastSeen 0 = .ok (.bipush (-50), 2) := by decide +kernel
theorem dX3_leastSeen_2 : decode cX3_leastSeen 2 = .ok (.istore_n 1, 1) := by decide +kernel
theorem dX3_leastSeen_3 : decode cX3_leastSeen 3 = .ok (.iload_n 1, 1) := by decide +kernel
theorem dX3_leastSeen_4 : decode cX3_leastSeen 4 = .ok (.bipush 50, 2) := by decide +kernel
theorem dX3_leastSeen_6 : decode cX3_leastSeen 6 = .ok (.if_icmp .ge 19, 3) := by decide +kernel
theorem dX3_leastSeen_9 : decode cX3_leastSeen 9 = .ok (.aload_n 0, 1) := by decide +kernel
theorem dX3_leastSeen_10 : decode cX3_leastSeen 10 = .ok (.iload_n 1, 1) := by decide +kernel
theorem dX3_leastSeen_11 : decode cX3_leastSeen 11 = .ok (.invokevirtual 54, 3) := by decide +kernel
theorem dX3_leastSeen_14 : decode cX3_leastSeen 14 = .ok (.ifCond .eq 5, 3) := by decide +kernel
theorem dX3_leastSeen_17 : decode cX3_leastSeen 17 = .ok (.iload_n 1, 1) := by decide +kernel
theorem dX3_leastSeen_18 : decode cX3_leastSeen 18 = .ok (.ireturn, 1) := by decide +kernel
theorem dX3_leastSeen_19 : decode cX3_leastSeen 19 = .ok (.iinc 1 1, 3) := by decide +kernel
theorem dX3_leastSeen_22 : decode cX3_leastSeen 22 = .ok (.goto (-19), 3) := by decide +kernel
theorem dX3_leastSeen_25 : decode cX3_leastSeen 25 = .ok (.bipush 50, 2) := by decide +kernel
theorem dX3_leastSeen_27 : decode cX3_leastSeen 27 = .ok (.ireturn, 1) := by decide +kernel
set_option maxRecDepth 20000 in
theorem ggX3_greatestSeen_X3_isSeen : GoodIn wsX3_greatestSeen wsX3_isSeen := goodIn_r _ [5, 6, 7, 8, 9, 10, 11, 12] (by decide +kernel) (by decide +kernel)
set_option maxRecDepth 20000 in
theorem gX3_greatestSeen_X3_isSeen : GoodIn wsX3_greatestSeen (wsV RX3 54 RX3 yX3_isSeen wsX3_isSeen) := goodIn_app (goodIn_of _ (by decide +kernel)) ggX3_greatestSeen_X3_isSeen
theorem dX3_greatestSeen_0 : decode cX3_greatestSeen 0 = .ok (.bipush 50, 2) := by decide +kernel
theorem dX3_greatestSeen_2 : decode cX3_greatestSeen 2 = .ok (.istore_n 1, 1) := by decide +kernel
theorem dX3_greatestSeen_3 : decode cX3_greatestSeen 3 = .ok (.iload_n 1, 1) := by decide +kernel
theorem dX3_greatestSeen_4 : decode cX3_greatestSeen 4 = .ok (.bipush (-50), 2) := by decide +kernel
theorem dX3_greatestSeen_6 : decode cX3_greatestSeen 6 = .ok (.if_icmp .le 19, 3) := by decide +kernel
theorem dX3_greatestSeen_9 : decode cX3_greatestSeen 9 = .ok (.aload_n 0, 1) := by decide +kernel
theorem dX3_greatestSeen_10 : decode cX3_greatestSeen 10 = .ok (.iload_n 1, 1) := by decide +kernel
theorem dX3_greatestSeen_11 : decode cX3_greatestSeen 11 = .ok (.invokevirtual 54, 3) := by decide +kernel
theorem dX3_greatestSeen_14 : decode cX3_greatestSeen 14 = .ok (.ifCond .eq 5, 3) := by decide +kernel
theorem dX3_greatestSeen_17 : decode cX3_greatestSeen 17 = .ok (.iload_n 1, 1) := by decide +kernel
theorem dX3_greatestSeen_18 : decode cX3_greatestSeen 18 = .ok (.ireturn, 1) := by decide +kernel
theorem dX3_greatestSeen_19 : decode cX3_greatestSeen 19 = .ok (.iinc 1 (-1), 3) := by decide +kernel
theorem dX3_greatestSeen_22 : decode cX3_greatestSeen 22 = .ok (.goto (-19), 3) := by decide +kernel
theorem dX3_greatestSeen_25 : decode cX3_greatestSeen 25 = .ok (.bipush (-50), 2) := by decide +kernel
theorem dX3_greatestSeen_27 : decode cX3_greatestSeen 27 = .ok (.ireturn, 1) := by decide +kernel
end
section
def f_X3_setPrice (k : Nat) (a1 : Int32) (a2 : Int32) (S : QS) : Option QS :=
if a1 < (-50) then (some S)
else (if 50 < a1 then (some S)
else ((wrA (k + 1) 101 (a1 - (-50)) a2 S).bind fun S1 =>
some S1))
def rm_X3_setPrice : Room := { frames := 0, cells := 0, slots := 0, locals := 0 }
set_option maxRecDepth 100000 in
set_option maxHeartbeats 4000000 in
theorem m_X3_setPrice (l : Launch) (D : va_G) (ca : Nat → ClassId) (ad : Nat → Nat) (hj : Inj ad) (k : Nat) (hk : qk k = 3) (a1 : Int32) (a2 : Int32) (S : QS) (o : QS) (hf : f_X3_setPrice k a1 a2 S = some o) : Cv l D ca ad yX3_setPrice wsX3_setPrice rm_X3_setPrice [.ref (ad k), .int a1, .int a2] S o := by
  intro sz
  refine Met.ofW (cc := cX3_setPrice) (maxL := 3) (ret := none) (by decide) rfl ?_
  intro p e s m args below meth c s₁ B hml hv
  obtain ⟨hav, hsz, hP, hKK⟩ := hv
  have hx := B.exec
  have hb := B.bytes
  have hr := B.returns
  have hts := atoms_spec (ws := wsX3_setPrice) B.pre
  have hown : s.vm.findClass RX3 = some m.cls := findClass_of_methodNamed B.named
  have hlocks := B.notSynchronized
  subst hsz
  have hX3 : ∀ w ∈ wsX30, w.before _ s = true := fun w h => hts w (List.mem_cons_of_mem _ (List.mem_append_right _ h))
  have K24 := hts (Cond.fieldLink RX3 24 "CrashDesk$Speed" "prices" "[I") (List.mem_cons_of_mem _ (List.mem_append_left _ (List.mem_of_getElem? (i := 0) rfl)))
  have hl := lv_entry [.ref (ad k), .int a1, .int a2] (n := 3) (Nat.le_of_ble_eq_true rfl)
  rw [show entryFrame m args 3 = entryFrame m ([.ref (ad k), .int a1, .int a2] : List Value).toArray 3 by rw [hav], lg_entry_eq]
  generalize (lg_sl [.ref (ad k), .int a1, .int a2] ++ List.replicate (3 - (lg_sl [.ref (ad k), .int a1, .int a2]).length) Slot.unset).toArray = ls at hl ⊢
  have hl : lv_has ls 3 [(0, .ref (ad k)), (1, .int a1), (2, .int a2)] := hl
  have main : ∀ (H : Heap) (locs : List Loc) (ls : Array Slot), va_P D vwCl (wd ca ad S) H → va_S (Aq ad s.heap.size) s.heap H locs → lv_has ls 3 [(0, .ref (ad k)), (1, .int a1), (2, .int a2)] → W p l e rm_X3_setPrice s m args below meth c H locs 0 0 (Zv below D ca ad args s o) (F0 m 0 ls []) := by
    intro H locs ls hP hS hl
    unfold f_X3_setPrice at hf
    refine lv_iload_n hx hb dX3_setPrice_0 rfl (lv_at hl 1 rfl) ?_
    refine lv_bipush (v := (-50)) hx hb dX3_setPrice_1 (by decide) ?_
    refine lv_icmp_lt (tgt := 22) hx hb dX3_setPrice_3 (by decide) (fun w => ?_) (fun w => ?_)
    · have hf := if_t w hf
      obtain rfl := Option.some.inj hf
      exact r_vret hx hb hr hP hS dX3_setPrice_22 hlocks
    · have hf := if_f w hf
      refine lv_iload_n hx hb dX3_setPrice_6 rfl (lv_at hl 1 rfl) ?_
      refine lv_bipush (v := 50) hx hb dX3_setPrice_7 (by decide) ?_
      refine lv_icmp_gt (tgt := 22) hx hb dX3_setPrice_9 (by decide) (fun w => ?_) (fun w => ?_)
      · have hf := if_t w hf
        obtain rfl := Option.some.inj hf
        exact r_vret hx hb hr hP hS dX3_setPrice_22 hlocks
      · have hf := if_f w hf
        refine lv_aload_n hx hb dX3_setPrice_12 rfl (lv_at hl 0 rfl) ?_
        refine g_X3_prices hx hb hX3 hown hKK hP hk K24 dX3_setPrice_13 ?_
        refine lv_iload_n hx hb dX3_setPrice_16 rfl (lv_at hl 1 rfl) ?_
        refine lv_bipush (v := (-50)) hx hb dX3_setPrice_17 (by decide) ?_
        refine lv_isub hx hb dX3_setPrice_19 ?_
        refine lv_iload_n hx hb dX3_setPrice_20 rfl (lv_at hl 2 rfl) ?_
        obtain ⟨S1, h2, hf⟩ := bd_e hf
        refine r_iast hx hb hj hKK hP hS (q_sp hk).1 (q_sp hk).2.1 h2 dX3_setPrice_21 (fun H locs hP hS => ?_)
        obtain rfl := Option.some.inj hf
        exact r_vret hx hb hr hP hS dX3_setPrice_22 hlocks
  exact main s.heap [] ls hP va_S.rf hl
def lp_X3_clear_3 (k : Nat) : Nat → Int32 → QS → Option QS
  | 0, _, _ => none
  | fuel + 1, v1, S2 => (if 50 < v1 then (some S2)
else (((if v1 < (S2.1 k 0) then (some (-1))
else (if v1 ≤ (S2.1 k 1) then (some 0)
else (some (-1)))) : Option (Int32)).bind fun q3 =>
(f_X3_setPrice k v1 q3 S2).bind fun S5 =>
(wrZ (k + 2) 101 (v1 - (-50)) 0 S5).bind fun S6 =>
lp_X3_clear_3 k fuel (v1 + 1) S6))
def f_X3_clear (k : Nat) (S : QS) : Option QS :=
lp_X3_clear_3 k FU (-50) S
def rm_X3_clear : Room := { frames := 1, cells := 0, slots := 0, locals := 22 }
set_option maxRecDepth 100000 in
set_option maxHeartbeats 4000000 in
theorem m_X3_clear (l : Launch) (D : va_G) (ca : Nat → ClassId) (ad : Nat → Nat) (hj : Inj ad) (k : Nat) (hk : qk k = 3) (S : QS) (o : QS) (hf : f_X3_clear k S = some o) : Cv l D ca ad yX3_clear wsX3_clear rm_X3_clear [.ref (ad k)] S o := by
  intro sz
  refine Met.ofW (cc := cX3_clear) (maxL := 2) (ret := none) (by decide) rfl ?_
  intro p e s m args below meth c s₁ B hml hv
  obtain ⟨hav, hsz, hP, hKK⟩ := hv
  have hx := B.exec
  have hb := B.bytes
  have hr := B.returns
  have hts := atoms_spec (ws := wsX3_clear) B.pre
  have hown : s.vm.findClass RX3 = some m.cls := findClass_of_methodNamed B.named
  have hlocks := B.notSynchronized
  subst hsz
  have hX3 : ∀ w ∈ wsX30, w.before _ s = true := fun w h => hts w (List.mem_cons_of_mem _ (List.mem_append_right _ h))
  have K9 := hts (Cond.fieldLink RX3 9 "CrashDesk$Speed" "low" "I") (List.mem_cons_of_mem _ (List.mem_append_left _ (List.mem_of_getElem? (i := 0) rfl)))
  have K15 := hts (Cond.fieldLink RX3 15 "CrashDesk$Speed" "high" "I") (List.mem_cons_of_mem _ (List.mem_append_left _ (List.mem_of_getElem? (i := 1) rfl)))
  have K28 := hts (Cond.fieldLink RX3 28 "CrashDesk$Speed" "seen" "[Z") (List.mem_cons_of_mem _ (List.mem_append_left _ (List.mem_of_getElem? (i := 2) rfl)))
  have hl := lv_entry [.ref (ad k)] (n := 2) (Nat.le_of_ble_eq_true rfl)
  rw [show entryFrame m args 2 = entryFrame m ([.ref (ad k)] : List Value).toArray 2 by rw [hav], lg_entry_eq]
  generalize (lg_sl [.ref (ad k)] ++ List.replicate (2 - (lg_sl [.ref (ad k)]).length) Slot.unset).toArray = ls at hl ⊢
  have hl : lv_has ls 2 [(0, .ref (ad k))] := hl
  have main : ∀ (H : Heap) (locs : List Loc) (ls : Array Slot), va_P D vwCl (wd ca ad S) H → va_S (Aq ad s.heap.size) s.heap H locs → lv_has ls 2 [(0, .ref (ad k))] → W p l e rm_X3_clear s m args below meth c H locs 0 0 (Zv below D ca ad args s o) (F0 m 0 ls []) := by
    intro H locs ls hP hS hl
    unfold f_X3_clear at hf
    refine lv_bipush (v := (-50)) hx hb dX3_clear_0 (by decide) ?_
    refine lv_istore_n (lv' := [(1, .int (-50)), (0, .ref (ad k))]) hx hb dX3_clear_2 rfl hl (by decide) rfl (fun ls hl => ?_)
    have L1 : ∀ (fuel : Nat) (v1 : Int32) (S2 : QS), lp_X3_clear_3 k fuel v1 S2 = some o → ∀ (H : Heap) (locs : List Loc) (ls : Array Slot), va_P D vwCl (wd ca ad S2) H → va_S (Aq ad s.heap.size) s.heap H locs → lv_has ls 2 [(0, .ref (ad k)), (1, .int v1)] → W p l e rm_X3_clear s m args below meth c H locs 0 0 (Zv below D ca ad args s o) (F0 m 3 ls []) := by
      intro fuel
      induction fuel with
      | zero =>
        intro v1 S2 hf
        simp [lp_X3_clear_3] at hf
      | succ fuel ih =>
        intro v1 S2 hf H locs ls hP hS hl
        rw [lp_X3_clear_3] at hf
        refine lv_iload_n hx hb dX3_clear_3 rfl (lv_at hl 1 rfl) ?_
        refine lv_bipush (v := 50) hx hb dX3_clear_4 (by decide) ?_
        refine lv_icmp_gt (tgt := 51) hx hb dX3_clear_6 (by decide) (fun w => ?_) (fun w => ?_)
        · have hf := if_t w hf
          obtain rfl := Option.some.inj hf
          exact r_vret hx hb hr hP hS dX3_clear_51 hlocks
        · have hf := if_f w hf
          refine lv_aload_n hx hb dX3_clear_9 rfl (lv_at hl 0 rfl) ?_
          refine lv_iload_n hx hb dX3_clear_10 rfl (lv_at hl 1 rfl) ?_
          refine lv_iload_n hx hb dX3_clear_11 rfl (lv_at hl 1 rfl) ?_
          refine lv_aload_n hx hb dX3_clear_12 rfl (lv_at hl 0 rfl) ?_
          refine g_X3_low hx hb hX3 hown hKK hP hk K9 dX3_clear_13 ?_
          obtain ⟨q3, hq3, hf⟩ := bd_e hf
          have J2 : ∀ (H : Heap) (locs : List Loc) (ls : Array Slot), va_P D vwCl (wd ca ad S2) H → va_S (Aq ad s.heap.size) s.heap H locs → lv_has ls 2 [(0, .ref (ad k)), (1, .int v1)] → W p l e rm_X3_clear s m args below meth c H locs 0 0 (Zv below D ca ad args s o) (F0 m 32 ls [.int q3, .int v1, .ref (ad k)]) := by
            intro H locs ls hP hS hl
            obtain ⟨S5, h4, hf⟩ := bd_e hf
            refine r_cv hS (va_runV (As := [.int v1, .int q3]) (rest := []) ⟨hx, hb, hml, hown, hts⟩ (m_X3_setPrice l D ca ad hj k hk v1 q3 S2 _ h4 H.size) (cwV 2 hts gX3_clear_X3_setPrice rfl rfl rfl (by decide +kernel) ⟨Nat.le_of_ble_eq_true rfl, Nat.le_of_ble_eq_true rfl⟩) (r_preV hKK hP hk rfl) rfl rfl hl.1 rfl (lv_room (Nat.le_of_ble_eq_true rfl)) dX3_clear_32 ⟨Nat.le_of_ble_eq_true rfl, Nat.le_of_ble_eq_true rfl⟩) (fun H locs hP hS => ?_)
            refine lv_aload_n hx hb dX3_clear_35 rfl (lv_at hl 0 rfl) ?_
            refine g_X3_seen hx hb hX3 hown hKK hP hk K28 dX3_clear_36 ?_
            refine lv_iload_n hx hb dX3_clear_39 rfl (lv_at hl 1 rfl) ?_
            refine lv_bipush (v := (-50)) hx hb dX3_clear_40 (by decide) ?_
            refine lv_isub hx hb dX3_clear_42 ?_
            refine lv_iconst (v := 0) hx hb dX3_clear_43 (by decide) ?_
            obtain ⟨S6, h7, hf⟩ := bd_e hf
            refine r_zast hx hb hj hKK hP hS (q_sp hk).2.2.1 (q_sp hk).2.2.2 h7 dX3_clear_44 (fun H locs hP hS => ?_)
            refine lv_iinc (v := (v1 + 1)) (lv' := [(1, .int (v1 + 1)), (0, .ref (ad k))]) hx hb dX3_clear_45 hl (k := 1) rfl rfl (by decide) rfl (fun ls hl => ?_)
            refine lv_goto (tgt := 3) hx hb dX3_clear_48 (by decide) ?_
            exact ih _ _ hf _ _ _ hP hS (lv_sub hl [1, 0] rfl)
          replace hf := hq3
          refine lv_icmp_lt (tgt := 27) hx hb dX3_clear_16 (by decide) (fun w => ?_) (fun w => ?_)
          · have hf := if_t w hf
            refine lv_iconst (v := (-1)) hx hb dX3_clear_27 (by decide) ?_
            refine lv_goto (tgt := 32) hx hb dX3_clear_28 (by decide) ?_
            obtain rfl := Option.some.inj hf
            exact J2 _ _ _ hP hS (lv_sub hl [0, 1] rfl)
          · have hf := if_f w hf
            refine lv_iload_n hx hb dX3_clear_19 rfl (lv_at hl 1 rfl) ?_
            refine lv_aload_n hx hb dX3_clear_20 rfl (lv_at hl 0 rfl) ?_
            refine g_X3_high hx hb hX3 hown hKK hP hk K15 dX3_clear_21 ?_
            refine lv_icmp_le (tgt := 31) hx hb dX3_clear_24 (by decide) (fun w => ?_) (fun w => ?_)
            · have hf := if_t w hf
              refine lv_iconst (v := 0) hx hb dX3_clear_31 (by decide) ?_
              obtain rfl := Option.some.inj hf
              exact J2 _ _ _ hP hS (lv_sub hl [0, 1] rfl)
            · have hf := if_f w hf
              refine lv_iconst (v := (-1)) hx hb dX3_clear_27 (by decide) ?_
              refine lv_goto (tgt := 32) hx hb dX3_clear_28 (by decide) ?_
              obtain rfl := Option.some.inj hf
              exact J2 _ _ _ hP hS (lv_sub hl [0, 1] rfl)
    exact L1 _ _ _ hf _ _ _ hP hS (lv_sub hl [1, 0] rfl)
  exact main s.heap [] ls hP va_S.rf hl
def f_X3_priceOf (k : Nat) (a1 : Int32) (S : QS) : Option Int32 :=
if a1 < (-50) then (some (-1))
else (if a1 ≤ 50 then ((rdA (k + 1) 101 (a1 - (-50)) S).bind fun v1 =>
some v1)
else (some (-1)))
def rm_X3_priceOf : Room := { frames := 0, cells := 0, slots := 0, locals := 0 }
set_option maxRecDepth 100000 in
set_option maxHeartbeats 4000000 in
theorem m_X3_priceOf (l : Launch) (D : va_G) (ca : Nat → ClassId) (ad : Nat → Nat) (hj : Inj ad) (k : Nat) (hk : qk k = 3) (a1 : Int32) (S : QS) (o : Int32) (hf : f_X3_priceOf k a1 S = some o) : Ci l D ca ad yX3_priceOf wsX3_priceOf rm_X3_priceOf [.ref (ad k), .int a1] S o S := by
  intro sz
  refine Met.ofW (cc := cX3_priceOf) (maxL := 2) (ret := (some .int)) (by decide) rfl ?_
  intro p e s m args below meth c s₁ B hml hv
  obtain ⟨hav, hsz, hP, hKK⟩ := hv
  have hx := B.exec
  have hb := B.bytes
  have hr := B.returns
  have hts := atoms_spec (ws := wsX3_priceOf) B.pre
  have hown : s.vm.findClass RX3 = some m.cls := findClass_of_methodNamed B.named
  have hlocks := B.notSynchronized
  subst hsz
  have hX3 : ∀ w ∈ wsX30, w.before _ s = true := fun w h => hts w (List.mem_cons_of_mem _ (List.mem_append_right _ h))
  have K24 := hts (Cond.fieldLink RX3 24 "CrashDesk$Speed" "prices" "[I") (List.mem_cons_of_mem _ (List.mem_append_left _ (List.mem_of_getElem? (i := 0) rfl)))
  have hl := lv_entry [.ref (ad k), .int a1] (n := 2) (Nat.le_of_ble_eq_true rfl)
  rw [show entryFrame m args 2 = entryFrame m ([.ref (ad k), .int a1] : List Value).toArray 2 by rw [hav], lg_entry_eq]
  generalize (lg_sl [.ref (ad k), .int a1] ++ List.replicate (2 - (lg_sl [.ref (ad k), .int a1]).length) Slot.unset).toArray = ls at hl ⊢
  have hl : lv_has ls 2 [(0, .ref (ad k)), (1, .int a1)] := hl
  have main : ∀ (H : Heap) (locs : List Loc) (ls : Array Slot), va_P D vwCl (wd ca ad S) H → va_S (Aq ad s.heap.size) s.heap H locs → lv_has ls 2 [(0, .ref (ad k)), (1, .int a1)] → W p l e rm_X3_priceOf s m args below meth c H locs 0 0 (Zi below D ca ad args s o S) (F0 m 0 ls []) := by
    intro H locs ls hP hS hl
    unfold f_X3_priceOf at hf
    refine lv_iload_n hx hb dX3_priceOf_0 rfl (lv_at hl 1 rfl) ?_
    refine lv_bipush (v := (-50)) hx hb dX3_priceOf_1 (by decide) ?_
    refine lv_icmp_lt (tgt := 12) hx hb dX3_priceOf_3 (by decide) (fun w => ?_) (fun w => ?_)
    · have hf := if_t w hf
      refine lv_iconst (v := (-1)) hx hb dX3_priceOf_12 (by decide) ?_
      refine lv_goto (tgt := 25) hx hb dX3_priceOf_13 (by decide) ?_
      obtain rfl := Option.some.inj hf
      exact r_iret hx hb hr hP hS dX3_priceOf_25 hlocks
    · have hf := if_f w hf
      refine lv_iload_n hx hb dX3_priceOf_6 rfl (lv_at hl 1 rfl) ?_
      refine lv_bipush (v := 50) hx hb dX3_priceOf_7 (by decide) ?_
      refine lv_icmp_le (tgt := 16) hx hb dX3_priceOf_9 (by decide) (fun w => ?_) (fun w => ?_)
      · have hf := if_t w hf
        refine lv_aload_n hx hb dX3_priceOf_16 rfl (lv_at hl 0 rfl) ?_
        refine g_X3_prices hx hb hX3 hown hKK hP hk K24 dX3_priceOf_17 ?_
        refine lv_iload_n hx hb dX3_priceOf_20 rfl (lv_at hl 1 rfl) ?_
        refine lv_bipush (v := (-50)) hx hb dX3_priceOf_21 (by decide) ?_
        refine lv_isub hx hb dX3_priceOf_23 ?_
        obtain ⟨v1, h2, hf⟩ := bd_e hf
        refine r_iald hx hb hKK hP (q_sp hk).1 (q_sp hk).2.1 h2 dX3_priceOf_24 ?_
        obtain rfl := Option.some.inj hf
        exact r_iret hx hb hr hP hS dX3_priceOf_25 hlocks
      · have hf := if_f w hf
        refine lv_iconst (v := (-1)) hx hb dX3_priceOf_12 (by decide) ?_
        refine lv_goto (tgt := 25) hx hb dX3_priceOf_13 (by decide) ?_
        obtain rfl := Option.some.inj hf
        exact r_iret hx hb hr hP hS dX3_priceOf_25 hlocks
  exact main s.heap [] ls hP va_S.rf hl
def f_X3_isOpen (k : Nat) (a1 : Int32) (S : QS) : Option Int32 :=
(f_X3_priceOf k a1 S).bind fun v2 =>
if v2 = (-1) then (some 0)
else (some 1)
def rm_X3_isOpen : Room := { frames := 1, cells := 0, slots := 0, locals := 21 }
set_option maxRecDepth 100000 in
set_option maxHeartbeats 4000000 in
theorem m_X3_isOpen (l : Launch) (D : va_G) (ca : Nat → ClassId) (ad : Nat → Nat) (hj : Inj ad) (k : Nat) (hk : qk k = 3) (a1 : Int32) (S : QS) (o : Int32) (hf : f_X3_isOpen k a1 S = some o) : Ci l D ca ad yX3_isOpen wsX3_isOpen rm_X3_isOpen [.ref (ad k), .int a1] S o S := by
  intro sz
  refine Met.ofW (cc := cX3_isOpen) (maxL := 2) (ret := (some .boolean)) (by decide) rfl ?_
  intro p e s m args below meth c s₁ B hml hv
  obtain ⟨hav, hsz, hP, hKK⟩ := hv
  have hx := B.exec
  have hb := B.bytes
  have hr := B.returns
  have hts := atoms_spec (ws := wsX3_isOpen) B.pre
  have hown : s.vm.findClass RX3 = some m.cls := findClass_of_methodNamed B.named
  have hlocks := B.notSynchronized
  subst hsz
  have hl := lv_entry [.ref (ad k), .int a1] (n := 2) (Nat.le_of_ble_eq_true rfl)
  rw [show entryFrame m args 2 = entryFrame m ([.ref (ad k), .int a1] : List Value).toArray 2 by rw [hav], lg_entry_eq]
  generalize (lg_sl [.ref (ad k), .int a1] ++ List.replicate (2 - (lg_sl [.ref (ad k), .int a1]).length) Slot.unset).toArray = ls at hl ⊢
  have hl : lv_has ls 2 [(0, .ref (ad k)), (1, .int a1)] := hl
  have main : ∀ (H : Heap) (locs : List Loc) (ls : Array Slot), va_P D vwCl (wd ca ad S) H → va_S (Aq ad s.heap.size) s.heap H locs → lv_has ls 2 [(0, .ref (ad k)), (1, .int a1)] → W p l e rm_X3_isOpen s m args below meth c H locs 0 0 (Zi below D ca ad args s o S) (F0 m 0 ls []) := by
    intro H locs ls hP hS hl
    unfold f_X3_isOpen at hf
    refine lv_aload_n hx hb dX3_isOpen_0 rfl (lv_at hl 0 rfl) ?_
    refine lv_iload_n hx hb dX3_isOpen_1 rfl (lv_at hl 1 rfl) ?_
    obtain ⟨v2, h1, hf⟩ := bd_e hf
    refine r_ci hS (va_runV (As := [.int a1]) (rest := []) ⟨hx, hb, hml, hown, hts⟩ (m_X3_priceOf l D ca ad hj k hk a1 S _ h1 H.size) (cwV 1 hts gX3_isOpen_X3_priceOf rfl rfl rfl (by decide +kernel) ⟨Nat.le_of_ble_eq_true rfl, Nat.le_of_ble_eq_true rfl⟩) (r_preV hKK hP hk rfl) rfl rfl hl.1 rfl (lv_room (Nat.le_of_ble_eq_true rfl)) dX3_isOpen_2 ⟨Nat.le_of_ble_eq_true rfl, Nat.le_of_ble_eq_true rfl⟩) (fun H locs hP hS => ?_)
    refine lv_iconst (v := (-1)) hx hb dX3_isOpen_5 (by decide) ?_
    refine lv_icmp_eq (tgt := 13) hx hb dX3_isOpen_6 (by decide) (fun w => ?_) (fun w => ?_)
    · have hf := if_t w hf
      refine lv_iconst (v := 0) hx hb dX3_isOpen_13 (by decide) ?_
      obtain rfl := Option.some.inj hf
      exact r_zret hx hb hr hP hS (Or.inl rfl) dX3_isOpen_14 hlocks
    · have hf := if_f w hf
      refine lv_iconst (v := 1) hx hb dX3_isOpen_9 (by decide) ?_
      refine lv_goto (tgt := 14) hx hb dX3_isOpen_10 (by decide) ?_
      obtain rfl := Option.some.inj hf
      exact r_zret hx hb hr hP hS (Or.inr rfl) dX3_isOpen_14 hlocks
  exact main s.heap [] ls hP va_S.rf hl
def lp_X3_hear_3 (k : Nat) (t1 : Nat) (a2 : Int32) : Nat → Int32 → QS → Option QS
  | 0, _, _ => none
  | fuel + 1, v1, S2 => (if 50 < v1 then (some S2)
else (((if v1 < (S2.1 t1 2) then (some 0)
else (if (S2.1 t1 3) < v1 then (some 0)
else (some 1))) : Option (Int32)).bind fun q3 =>
if q3 = 0 then ((f_X3_isOpen k v1 S2).bind fun v5 =>
if v5 = 0 then (lp_X3_hear_3 k t1 a2 fuel (v1 + 1) S2)
else (((if a2 = (-1) then (some (-1))
else ((f_X3_priceOf k v1 S2).bind fun v8 =>
some (v8 + a2))) : Option (Int32)).bind fun q6 =>
(f_X3_setPrice k v1 q6 S2).bind fun S10 =>
lp_X3_hear_3 k t1 a2 fuel (v1 + 1) S10))
else (lp_X3_hear_3 k t1 a2 fuel (v1 + 1) S2)))
def f_X3_hear (k : Nat) (t1 : Nat) (a2 : Int32) (S : QS) : Option QS :=
lp_X3_hear_3 k t1 a2 FU (-50) S
def rm_X3_hear : Room := { frames := 2, cells := 0, slots := 0, locals := 42 }
set_option maxRecDepth 100000 in
set_option maxHeartbeats 4000000 in
theorem m_X3_hear (l : Launch) (D : va_G) (ca : Nat → ClassId) (ad : Nat → Nat) (hj : Inj ad) (k : Nat) (hk : qk k = 3) (t1 : Nat) (ht1 : qk t1 = 4) (a2 : Int32) (S : QS) (o : QS) (hf : f_X3_hear k t1 a2 S = some o) : Cv l D ca ad yX3_hear wsX3_hear rm_X3_hear [.ref (ad k), .ref (ad t1), .int a2] S o := by
  intro sz
  refine Met.ofW (cc := cX3_hear) (maxL := 5) (ret := none) (by decide) rfl ?_
  intro p e s m args below meth c s₁ B hml hv
  obtain ⟨hav, hsz, hP, hKK⟩ := hv
  have hx := B.exec
  have hb := B.bytes
  have hr := B.returns
  have hts := atoms_spec (ws := wsX3_hear) B.pre
  have hown : s.vm.findClass RX3 = some m.cls := findClass_of_methodNamed B.named
  have hlocks := B.notSynchronized
  subst hsz
  have hX4 : ∀ w ∈ wsX40, w.before _ s = true := fun w h => hts w (List.mem_cons_of_mem _ (List.mem_append_left _ (List.mem_append_right _ h)))
  have K36 := hts (Cond.fieldLink RX3 36 "CrashDesk$Tale" "low" "I") (List.mem_cons_of_mem _ (List.mem_append_left _ (List.mem_append_left _ (List.mem_of_getElem? (i := 0) rfl))))
  have K39 := hts (Cond.fieldLink RX3 39 "CrashDesk$Tale" "high" "I") (List.mem_cons_of_mem _ (List.mem_append_left _ (List.mem_append_left _ (List.mem_of_getElem? (i := 1) rfl))))
  have hl := lv_entry [.ref (ad k), .ref (ad t1), .int a2] (n := 5) (Nat.le_of_ble_eq_true rfl)
  rw [show entryFrame m args 5 = entryFrame m ([.ref (ad k), .ref (ad t1), .int a2] : List Value).toArray 5 by rw [hav], lg_entry_eq]
  generalize (lg_sl [.ref (ad k), .ref (ad t1), .int a2] ++ List.replicate (5 - (lg_sl [.ref (ad k), .ref (ad t1), .int a2]).length) Slot.unset).toArray = ls at hl ⊢
  have hl : lv_has ls 5 [(0, .ref (ad k)), (1, .ref (ad t1)), (2, .int a2)] := hl
  have main : ∀ (H : Heap) (locs : List Loc) (ls : Array Slot), va_P D vwCl (wd ca ad S) H → va_S (Aq ad s.heap.size) s.heap H locs → lv_has ls 5 [(0, .ref (ad k)), (1, .ref (ad t1)), (2, .int a2)] → W p l e rm_X3_hear s m args below meth c H locs 0 0 (Zv below D ca ad args s o) (F0 m 0 ls []) := by
    intro H locs ls hP hS hl
    unfold f_X3_hear at hf
    refine lv_bipush (v := (-50)) hx hb dX3_hear_0 (by decide) ?_
    refine lv_istore_n (lv' := [(3, .int (-50)), (0, .ref (ad k)), (1, .ref (ad t1)), (2, .int a2)]) hx hb dX3_hear_2 rfl hl (by decide) rfl (fun ls hl => ?_)
    have L1 : ∀ (fuel : Nat) (v1 : Int32) (S2 : QS), lp_X3_hear_3 k t1 a2 fuel v1 S2 = some o → ∀ (H : Heap) (locs : List Loc) (ls : Array Slot), va_P D vwCl (wd ca ad S2) H → va_S (Aq ad s.heap.size) s.heap H locs → lv_has ls 5 [(0, .ref (ad k)), (1, .ref (ad t1)), (2, .int a2), (3, .int v1)] → W p l e rm_X3_hear s m args below meth c H locs 0 0 (Zv below D ca ad args s o) (F0 m 3 ls []) := by
      intro fuel
      induction fuel with
      | zero =>
        intro v1 S2 hf
        simp [lp_X3_hear_3] at hf
      | succ fuel ih =>
        intro v1 S2 hf H locs ls hP hS hl
        rw [lp_X3_hear_3] at hf
        refine lv_iload_n hx hb dX3_hear_3 rfl (lv_at hl 3 rfl) ?_
        refine lv_bipush (v := 50) hx hb dX3_hear_4 (by decide) ?_
        refine lv_icmp_gt (tgt := 72) hx hb dX3_hear_6 (by decide) (fun w => ?_) (fun w => ?_)
        · have hf := if_t w hf
          obtain rfl := Option.some.inj hf
          exact r_vret hx hb hr hP hS dX3_hear_72 hlocks
        · have hf := if_f w hf
          refine lv_iload_n hx hb dX3_hear_9 rfl (lv_at hl 3 rfl) ?_
          refine lv_aload_n hx hb dX3_hear_10 rfl (lv_at hl 1 rfl) ?_
          refine g_X4_low hx hb hX4 hown hKK hP ht1 K36 dX3_hear_11 ?_
          obtain ⟨q3, hq3, hf⟩ := bd_e hf
          have J2 : ∀ (H : Heap) (locs : List Loc) (ls : Array Slot), va_P D vwCl (wd ca ad S2) H → va_S (Aq ad s.heap.size) s.heap H locs → lv_has ls 5 [(0, .ref (ad k)), (1, .ref (ad t1)), (2, .int a2), (3, .int v1)] → W p l e rm_X3_hear s m args below meth c H locs 0 0 (Zv below D ca ad args s o) (F0 m 30 ls [.int q3]) := by
            intro H locs ls hP hS hl
            refine lv_istore (lv' := [(4, .int q3), (0, .ref (ad k)), (1, .ref (ad t1)), (2, .int a2), (3, .int v1)]) hx hb dX3_hear_30 hl (by decide) rfl (fun ls hl => ?_)
            refine lv_iload hx hb dX3_hear_32 (lv_at hl 0 rfl) ?_
            refine lv_if_ne (tgt := 66) hx hb dX3_hear_34 (by decide) (fun w => ?_) (fun w => ?_)
            · have hf := if_f w hf
              refine lv_iinc (v := (v1 + 1)) (lv' := [(3, .int (v1 + 1)), (4, .int q3), (0, .ref (ad k)), (1, .ref (ad t1)), (2, .int a2)]) hx hb dX3_hear_66 hl (k := 4) rfl rfl (by decide) rfl (fun ls hl => ?_)
              refine lv_goto (tgt := 3) hx hb dX3_hear_69 (by decide) ?_
              exact ih _ _ hf _ _ _ hP hS (lv_sub hl [2, 3, 4, 0] rfl)
            · have hf := if_t w hf
              refine lv_aload_n hx hb dX3_hear_37 rfl (lv_at hl 1 rfl) ?_
              refine lv_iload_n hx hb dX3_hear_38 rfl (lv_at hl 4 rfl) ?_
              obtain ⟨v5, h4, hf⟩ := bd_e hf
              refine r_ci hS (va_runV (As := [.int v1]) (rest := []) ⟨hx, hb, hml, hown, hts⟩ (m_X3_isOpen l D ca ad hj k hk v1 S2 _ h4 H.size) (cwV 1 hts gX3_hear_X3_isOpen rfl rfl rfl (by decide +kernel) ⟨Nat.le_of_ble_eq_true rfl, Nat.le_of_ble_eq_true rfl⟩) (r_preV hKK hP hk rfl) rfl rfl hl.1 rfl (lv_room (Nat.le_of_ble_eq_true rfl)) dX3_hear_39 ⟨Nat.le_of_ble_eq_true rfl, Nat.le_of_ble_eq_true rfl⟩) (fun H locs hP hS => ?_)
              refine lv_if_eq (tgt := 66) hx hb dX3_hear_42 (by decide) (fun w => ?_) (fun w => ?_)
              · have hf := if_t w hf
                refine lv_iinc (v := (v1 + 1)) (lv' := [(3, .int (v1 + 1)), (4, .int q3), (0, .ref (ad k)), (1, .ref (ad t1)), (2, .int a2)]) hx hb dX3_hear_66 hl (k := 4) rfl rfl (by decide) rfl (fun ls hl => ?_)
                refine lv_goto (tgt := 3) hx hb dX3_hear_69 (by decide) ?_
                exact ih _ _ hf _ _ _ hP hS (lv_sub hl [2, 3, 4, 0] rfl)
              · have hf := if_f w hf
                refine lv_aload_n hx hb dX3_hear_45 rfl (lv_at hl 1 rfl) ?_
                refine lv_iload_n hx hb dX3_hear_46 rfl (lv_at hl 4 rfl) ?_
                refine lv_iload_n hx hb dX3_hear_47 rfl (lv_at hl 3 rfl) ?_
                refine lv_iconst (v := (-1)) hx hb dX3_hear_48 (by decide) ?_
                obtain ⟨q6, hq6, hf⟩ := bd_e hf
                have J3 : ∀ (H : Heap) (locs : List Loc) (ls : Array Slot), va_P D vwCl (wd ca ad S2) H → va_S (Aq ad s.heap.size) s.heap H locs → lv_has ls 5 [(0, .ref (ad k)), (1, .ref (ad t1)), (2, .int a2), (3, .int v1)] → W p l e rm_X3_hear s m args below meth c H locs 0 0 (Zv below D ca ad args s o) (F0 m 63 ls [.int q6, .int v1, .ref (ad k)]) := by
                  intro H locs ls hP hS hl
                  obtain ⟨S10, h9, hf⟩ := bd_e hf
                  refine r_cv hS (va_runV (As := [.int v1, .int q6]) (rest := []) ⟨hx, hb, hml, hown, hts⟩ (m_X3_setPrice l D ca ad hj k hk v1 q6 S2 _ h9 H.size) (cwV 2 hts gX3_hear_X3_setPrice rfl rfl rfl (by decide +kernel) ⟨Nat.le_of_ble_eq_true rfl, Nat.le_of_ble_eq_true rfl⟩) (r_preV hKK hP hk rfl) rfl rfl hl.1 rfl (lv_room (Nat.le_of_ble_eq_true rfl)) dX3_hear_63 ⟨Nat.le_of_ble_eq_true rfl, Nat.le_of_ble_eq_true rfl⟩) (fun H locs hP hS => ?_)
                  refine lv_iinc (v := (v1 + 1)) (lv' := [(3, .int (v1 + 1)), (0, .ref (ad k)), (1, .ref (ad t1)), (2, .int a2)]) hx hb dX3_hear_66 hl (k := 3) rfl rfl (by decide) rfl (fun ls hl => ?_)
                  refine lv_goto (tgt := 3) hx hb dX3_hear_69 (by decide) ?_
                  exact ih _ _ hf _ _ _ hP hS (lv_sub hl [1, 2, 3, 0] rfl)
                replace hf := hq6
                refine lv_icmp_ne (tgt := 56) hx hb dX3_hear_49 (by decide) (fun w => ?_) (fun w => ?_)
                · have hf := if_f w hf
                  refine lv_aload_n hx hb dX3_hear_56 rfl (lv_at hl 1 rfl) ?_
                  refine lv_iload_n hx hb dX3_hear_57 rfl (lv_at hl 4 rfl) ?_
                  obtain ⟨v8, h7, hf⟩ := bd_e hf
                  refine r_ci hS (va_runV (As := [.int v1]) (rest := [.int v1, .ref (ad k)]) ⟨hx, hb, hml, hown, hts⟩ (m_X3_priceOf l D ca ad hj k hk v1 S2 _ h7 H.size) (cwV 1 hts gX3_hear_X3_priceOf rfl rfl rfl (by decide +kernel) ⟨Nat.le_of_ble_eq_true rfl, Nat.le_of_ble_eq_true rfl⟩) (r_preV hKK hP hk rfl) rfl rfl hl.1 rfl (lv_room (Nat.le_of_ble_eq_true rfl)) dX3_hear_58 ⟨Nat.le_of_ble_eq_true rfl, Nat.le_of_ble_eq_true rfl⟩) (fun H locs hP hS => ?_)
                  refine lv_iload_n hx hb dX3_hear_61 rfl (lv_at hl 3 rfl) ?_
                  refine lv_iadd hx hb dX3_hear_62 ?_
                  obtain rfl := Option.some.inj hf
                  exact J3 _ _ _ hP hS (lv_sub hl [1, 2, 3, 4] rfl)
                · have hf := if_t w hf
                  refine lv_iconst (v := (-1)) hx hb dX3_hear_52 (by decide) ?_
                  refine lv_goto (tgt := 63) hx hb dX3_hear_53 (by decide) ?_
                  obtain rfl := Option.some.inj hf
                  exact J3 _ _ _ hP hS (lv_sub hl [1, 2, 3, 4] rfl)
          replace hf := hq3
          refine lv_icmp_lt (tgt := 29) hx hb dX3_hear_14 (by decide) (fun w => ?_) (fun w => ?_)
          · have hf := if_t w hf
            refine lv_iconst (v := 0) hx hb dX3_hear_29 (by decide) ?_
            obtain rfl := Option.some.inj hf
            exact J2 _ _ _ hP hS (lv_sub hl [0, 1, 2, 3] rfl)
          · have hf := if_f w hf
            refine lv_iload_n hx hb dX3_hear_17 rfl (lv_at hl 3 rfl) ?_
            refine lv_aload_n hx hb dX3_hear_18 rfl (lv_at hl 1 rfl) ?_
            refine g_X4_high hx hb hX4 hown hKK hP ht1 K39 dX3_hear_19 ?_
            refine lv_icmp_gt (tgt := 29) hx hb dX3_hear_22 (by decide) (fun w => ?_) (fun w => ?_)
            · have hf := if_t w hf
              refine lv_iconst (v := 0) hx hb dX3_hear_29 (by decide) ?_
              obtain rfl := Option.some.inj hf
              exact J2 _ _ _ hP hS (lv_sub hl [0, 1, 2, 3] rfl)
            · have hf := if_f w hf
              refine lv_iconst (v := 1) hx hb dX3_hear_25 (by decide) ?_
              refine lv_goto (tgt := 30) hx hb dX3_hear_26 (by decide) ?_
              obtain rfl := Option.some.inj hf
              exact J2 _ _ _ hP hS (lv_sub hl [0, 1, 2, 3] rfl)
    exact L1 _ _ _ hf _ _ _ hP hS (lv_sub hl [1, 2, 3, 0] rfl)
  exact main s.heap [] ls hP va_S.rf hl
def lp_X3_bound_15 (k : Nat) : Nat → Int32 → QS → Option QS
  | 0, _, _ => none
  | fuel + 1, v5, S6 => (if 50 < v5 then (some S6)
else ((f_X3_isOpen k v5 S6).bind fun v8 =>
if v8 = 0 then (lp_X3_bound_15 k fuel (v5 + 1) S6)
else ((stF k 2 (if v5 < (S6.1 k 2) then v5 else (S6.1 k 2)) S6).bind fun S9 =>
(stF k 3 v5 S9).bind fun S11 =>
lp_X3_bound_15 k fuel (v5 + 1) S11)))
def f_X3_bound (k : Nat) (S : QS) : Option QS :=
(stF k 2 51 S).bind fun S1 =>
(stF k 3 (-51) S1).bind fun S3 =>
lp_X3_bound_15 k FU (-50) S3
def rm_X3_bound : Room := { frames := 2, cells := 0, slots := 0, locals := 42 }
set_option maxRecDepth 100000 in
set_option maxHeartbeats 4000000 in
theorem m_X3_bound (l : Launch) (D : va_G) (ca : Nat → ClassId) (ad : Nat → Nat) (hj : Inj ad) (k : Nat) (hk : qk k = 3) (S : QS) (o : QS) (hf : f_X3_bound k S = some o) : Cv l D ca ad yX3_bound wsX3_bound rm_X3_bound [.ref (ad k)] S o := by
  intro sz
  refine Met.ofW (cc := cX3_bound) (maxL := 2) (ret := none) (by decide) rfl ?_
  intro p e s m args below meth c s₁ B hml hv
  obtain ⟨hav, hsz, hP, hKK⟩ := hv
  have hx := B.exec
  have hb := B.bytes
  have hr := B.returns
  have hts := atoms_spec (ws := wsX3_bound) B.pre
  have hown : s.vm.findClass RX3 = some m.cls := findClass_of_methodNamed B.named
  have hlocks := B.notSynchronized
  subst hsz
  have hX3 : ∀ w ∈ wsX30, w.before _ s = true := fun w h => hts w (List.mem_cons_of_mem _ (List.mem_append_right _ h))
  have K18 := hts (Cond.fieldLink RX3 18 "CrashDesk$Speed" "bottom" "I") (List.mem_cons_of_mem _ (List.mem_append_left _ (List.mem_of_getElem? (i := 0) rfl)))
  have K21 := hts (Cond.fieldLink RX3 21 "CrashDesk$Speed" "top" "I") (List.mem_cons_of_mem _ (List.mem_append_left _ (List.mem_of_getElem? (i := 1) rfl)))
  have K48 := hts (Cond.methodLink RX3 48 Lib.Math.min.name) (List.mem_cons_of_mem _ (List.mem_append_left _ (List.mem_of_getElem? (i := 2) rfl)))
  have hl := lv_entry [.ref (ad k)] (n := 2) (Nat.le_of_ble_eq_true rfl)
  rw [show entryFrame m args 2 = entryFrame m ([.ref (ad k)] : List Value).toArray 2 by rw [hav], lg_entry_eq]
  generalize (lg_sl [.ref (ad k)] ++ List.replicate (2 - (lg_sl [.ref (ad k)]).length) Slot.unset).toArray = ls at hl ⊢
  have hl : lv_has ls 2 [(0, .ref (ad k))] := hl
  have main : ∀ (H : Heap) (locs : List Loc) (ls : Array Slot), va_P D vwCl (wd ca ad S) H → va_S (Aq ad s.heap.size) s.heap H locs → lv_has ls 2 [(0, .ref (ad k))] → W p l e rm_X3_bound s m args below meth c H locs 0 0 (Zv below D ca ad args s o) (F0 m 0 ls []) := by
    intro H locs ls hP hS hl
    unfold f_X3_bound at hf
    refine lv_aload_n hx hb dX3_bound_0 rfl (lv_at hl 0 rfl) ?_
    refine lv_bipush (v := 51) hx hb dX3_bound_1 (by decide) ?_
    obtain ⟨S1, h2, hf⟩ := bd_e hf
    obtain rfl := Option.some.inj h2
    refine p_X3_bottom hx hb hX3 hown hj hKK hP hS hk K18 dX3_bound_3 (fun H locs hP hS => ?_)
    refine lv_aload_n hx hb dX3_bound_6 rfl (lv_at hl 0 rfl) ?_
    refine lv_bipush (v := (-51)) hx hb dX3_bound_7 (by decide) ?_
    obtain ⟨S3, h4, hf⟩ := bd_e hf
    obtain rfl := Option.some.inj h4
    refine p_X3_top hx hb hX3 hown hj hKK hP hS hk K21 dX3_bound_9 (fun H locs hP hS => ?_)
    refine lv_bipush (v := (-50)) hx hb dX3_bound_12 (by decide) ?_
    refine lv_istore_n (lv' := [(1, .int (-50)), (0, .ref (ad k))]) hx hb dX3_bound_14 rfl hl (by decide) rfl (fun ls hl => ?_)
    have L1 : ∀ (fuel : Nat) (v5 : Int32) (S6 : QS), lp_X3_bound_15 k fuel v5 S6 = some o → ∀ (H : Heap) (locs : List Loc) (ls : Array Slot), va_P D vwCl (wd ca ad S6) H → va_S (Aq ad s.heap.size) s.heap H locs → lv_has ls 2 [(0, .ref (ad k)), (1, .int v5)] → W p l e rm_X3_bound s m args below meth c H locs 0 0 (Zv below D ca ad args s o) (F0 m 15 ls []) := by
      intro fuel
      induction fuel with
      | zero =>
        intro v5 S6 hf
        simp [lp_X3_bound_15] at hf
      | succ fuel ih =>
        intro v5 S6 hf H locs ls hP hS hl
        rw [lp_X3_bound_15] at hf
        refine lv_iload_n hx hb dX3_bound_15 rfl (lv_at hl 1 rfl) ?_
        refine lv_bipush (v := 50) hx hb dX3_bound_16 (by decide) ?_
        refine lv_icmp_gt (tgt := 52) hx hb dX3_bound_18 (by decide) (fun w => ?_) (fun w => ?_)
        · have hf := if_t w hf
          obtain rfl := Option.some.inj hf
          exact r_vret hx hb hr hP hS dX3_bound_52 hlocks
        · have hf := if_f w hf
          refine lv_aload_n hx hb dX3_bound_21 rfl (lv_at hl 0 rfl) ?_
          refine lv_iload_n hx hb dX3_bound_22 rfl (lv_at hl 1 rfl) ?_
          obtain ⟨v8, h7, hf⟩ := bd_e hf
          refine r_ci hS (va_runV (As := [.int v5]) (rest := []) ⟨hx, hb, hml, hown, hts⟩ (m_X3_isOpen l D ca ad hj k hk v5 S6 _ h7 H.size) (cwV 1 hts gX3_bound_X3_isOpen rfl rfl rfl (by decide +kernel) ⟨Nat.le_of_ble_eq_true rfl, Nat.le_of_ble_eq_true rfl⟩) (r_preV hKK hP hk rfl) rfl rfl hl.1 rfl (lv_room (Nat.le_of_ble_eq_true rfl)) dX3_bound_23 ⟨Nat.le_of_ble_eq_true rfl, Nat.le_of_ble_eq_true rfl⟩) (fun H locs hP hS => ?_)
          refine lv_if_eq (tgt := 46) hx hb dX3_bound_26 (by decide) (fun w => ?_) (fun w => ?_)
          · have hf := if_t w hf
            refine lv_iinc (v := (v5 + 1)) (lv' := [(1, .int (v5 + 1)), (0, .ref (ad k))]) hx hb dX3_bound_46 hl (k := 1) rfl rfl (by decide) rfl (fun ls hl => ?_)
            refine lv_goto (tgt := 15) hx hb dX3_bound_49 (by decide) ?_
            exact ih _ _ hf _ _ _ hP hS (lv_sub hl [1, 0] rfl)
          · have hf := if_f w hf
            refine lv_aload_n hx hb dX3_bound_29 rfl (lv_at hl 0 rfl) ?_
            refine lv_aload_n hx hb dX3_bound_30 rfl (lv_at hl 0 rfl) ?_
            refine g_X3_bottom hx hb hX3 hown hKK hP hk K18 dX3_bound_31 ?_
            refine lv_iload_n hx hb dX3_bound_34 rfl (lv_at hl 1 rfl) ?_
            refine va_mmin hx hb (hml.trans hl.1.symm) hown K48 (hts _ (List.mem_cons_of_mem _ (List.mem_append_left _ (List.mem_of_getElem? (i := 3) rfl)))) (hts _ (List.mem_cons_of_mem _ (List.mem_append_left _ (List.mem_of_getElem? (i := 4) rfl)))) (hts _ (List.mem_cons_of_mem _ (List.mem_append_left _ (List.mem_of_getElem? (i := 5) rfl)))) (Nat.le_of_ble_eq_true rfl) (Nat.le_of_ble_eq_true rfl) (Nat.le_of_ble_eq_true rfl) (Nat.le_of_ble_eq_true rfl) dX3_bound_35 ?_
            obtain ⟨S9, h10, hf⟩ := bd_e hf
            obtain rfl := Option.some.inj h10
            refine p_X3_bottom hx hb hX3 hown hj hKK hP hS hk K18 dX3_bound_38 (fun H locs hP hS => ?_)
            refine lv_aload_n hx hb dX3_bound_41 rfl (lv_at hl 0 rfl) ?_
            refine lv_iload_n hx hb dX3_bound_42 rfl (lv_at hl 1 rfl) ?_
            obtain ⟨S11, h12, hf⟩ := bd_e hf
            obtain rfl := Option.some.inj h12
            refine p_X3_top hx hb hX3 hown hj hKK hP hS hk K21 dX3_bound_43 (fun H locs hP hS => ?_)
            refine lv_iinc (v := (v5 + 1)) (lv' := [(1, .int (v5 + 1)), (0, .ref (ad k))]) hx hb dX3_bound_46 hl (k := 1) rfl rfl (by decide) rfl (fun ls hl => ?_)
            refine lv_goto (tgt := 15) hx hb dX3_bound_49 (by decide) ?_
            exact ih _ _ hf _ _ _ hP hS (lv_sub hl [1, 0] rfl)
    exact L1 _ _ _ hf _ _ _ hP hS (lv_sub hl [1, 0] rfl)
  exact main s.heap [] ls hP va_S.rf hl
def f_X3_see (k : Nat) (a1 : Int32) (S : QS) : Option QS :=
if a1 < (-50) then (some S)
else (if 50 < a1 then (some S)
else ((wrZ (k + 2) 101 (a1 - (-50)) 1 S).bind fun S1 =>
some S1))
def rm_X3_see : Room := { frames := 0, cells := 0, slots := 0, locals := 0 }
set_option maxRecDepth 100000 in
set_option maxHeartbeats 4000000 in
theorem m_X3_see (l : Launch) (D : va_G) (ca : Nat → ClassId) (ad : Nat → Nat) (hj : Inj ad) (k : Nat) (hk : qk k = 3) (a1 : Int32) (S : QS) (o : QS) (hf : f_X3_see k a1 S = some o) : Cv l D ca ad yX3_see wsX3_see rm_X3_see [.ref (ad k), .int a1] S o := by
  intro sz
  refine Met.ofW (cc := cX3_see) (maxL := 2) (ret := none) (by decide) rfl ?_
  intro p e s m args below meth c s₁ B hml hv
  obtain ⟨hav, hsz, hP, hKK⟩ := hv
  have hx := B.exec
  have hb := B.bytes
  have hr := B.returns
  have hts := atoms_spec (ws := wsX3_see) B.pre
  have hown : s.vm.findClass RX3 = some m.cls := findClass_of_methodNamed B.named
  have hlocks := B.notSynchronized
  subst hsz
  have hX3 : ∀ w ∈ wsX30, w.before _ s = true := fun w h => hts w (List.mem_cons_of_mem _ (List.mem_append_right _ h))
  have K28 := hts (Cond.fieldLink RX3 28 "CrashDesk$Speed" "seen" "[Z") (List.mem_cons_of_mem _ (List.mem_append_left _ (List.mem_of_getElem? (i := 0) rfl)))
  have hl := lv_entry [.ref (ad k), .int a1] (n := 2) (Nat.le_of_ble_eq_true rfl)
  rw [show entryFrame m args 2 = entryFrame m ([.ref (ad k), .int a1] : List Value).toArray 2 by rw [hav], lg_entry_eq]
  generalize (lg_sl [.ref (ad k), .int a1] ++ List.replicate (2 - (lg_sl [.ref (ad k), .int a1]).length) Slot.unset).toArray = ls at hl ⊢
  have hl : lv_has ls 2 [(0, .ref (ad k)), (1, .int a1)] := hl
  have main : ∀ (H : Heap) (locs : List Loc) (ls : Array Slot), va_P D vwCl (wd ca ad S) H → va_S (Aq ad s.heap.size) s.heap H locs → lv_has ls 2 [(0, .ref (ad k)), (1, .int a1)] → W p l e rm_X3_see s m args below meth c H locs 0 0 (Zv below D ca ad args s o) (F0 m 0 ls []) := by
    intro H locs ls hP hS hl
    unfold f_X3_see at hf
    refine lv_iload_n hx hb dX3_see_0 rfl (lv_at hl 1 rfl) ?_
    refine lv_bipush (v := (-50)) hx hb dX3_see_1 (by decide) ?_
    refine lv_icmp_lt (tgt := 22) hx hb dX3_see_3 (by decide) (fun w => ?_) (fun w => ?_)
    · have hf := if_t w hf
      obtain rfl := Option.some.inj hf
      exact r_vret hx hb hr hP hS dX3_see_22 hlocks
    · have hf := if_f w hf
      refine lv_iload_n hx hb dX3_see_6 rfl (lv_at hl 1 rfl) ?_
      refine lv_bipush (v := 50) hx hb dX3_see_7 (by decide) ?_
      refine lv_icmp_gt (tgt := 22) hx hb dX3_see_9 (by decide) (fun w => ?_) (fun w => ?_)
      · have hf := if_t w hf
        obtain rfl := Option.some.inj hf
        exact r_vret hx hb hr hP hS dX3_see_22 hlocks
      · have hf := if_f w hf
        refine lv_aload_n hx hb dX3_see_12 rfl (lv_at hl 0 rfl) ?_
        refine g_X3_seen hx hb hX3 hown hKK hP hk K28 dX3_see_13 ?_
        refine lv_iload_n hx hb dX3_see_16 rfl (lv_at hl 1 rfl) ?_
        refine lv_bipush (v := (-50)) hx hb dX3_see_17 (by decide) ?_
        refine lv_isub hx hb dX3_see_19 ?_
        refine lv_iconst (v := 1) hx hb dX3_see_20 (by decide) ?_
        obtain ⟨S1, h2, hf⟩ := bd_e hf
        refine r_zast hx hb hj hKK hP hS (q_sp hk).2.2.1 (q_sp hk).2.2.2 h2 dX3_see_21 (fun H locs hP hS => ?_)
        obtain rfl := Option.some.inj hf
        exact r_vret hx hb hr hP hS dX3_see_22 hlocks
  exact main s.heap [] ls hP va_S.rf hl
def f_X3_isSeen (k : Nat) (a1 : Int32) (S : QS) : Option Int32 :=
if a1 < (-50) then (some 0)
else (if 50 < a1 then (some 0)
else ((rdA (k + 2) 101 (a1 - (-50)) S).bind fun v1 =>
if v1 = 0 then (some 0)
else (some 1)))
def rm_X3_isSeen : Room := { frames := 0, cells := 0, slots := 0, locals := 0 }
set_option maxRecDepth 100000 in
set_option maxHeartbeats 4000000 in
theorem m_X3_isSeen (l : Launch) (D : va_G) (ca : Nat → ClassId) (ad : Nat → Nat) (hj : Inj ad) (k : Nat) (hk : qk k = 3) (a1 : Int32) (S : QS) (o : Int32) (hf : f_X3_isSeen k a1 S = some o) : Ci l D ca ad yX3_isSeen wsX3_isSeen rm_X3_isSeen [.ref (ad k), .int a1] S o S := by
  intro sz
  refine Met.ofW (cc := cX3_isSeen) (maxL := 2) (ret := (some .boolean)) (by decide) rfl ?_
  intro p e s m args below meth c s₁ B hml hv
  obtain ⟨hav, hsz, hP, hKK⟩ := hv
  have hx := B.exec
  have hb := B.bytes
  have hr := B.returns
  have hts := atoms_spec (ws := wsX3_isSeen) B.pre
  have hown : s.vm.findClass RX3 = some m.cls := findClass_of_methodNamed B.named
  have hlocks := B.notSynchronized
  subst hsz
  have hX3 : ∀ w ∈ wsX30, w.before _ s = true := fun w h => hts w (List.mem_cons_of_mem _ (List.mem_append_right _ h))
  have K28 := hts (Cond.fieldLink RX3 28 "CrashDesk$Speed" "seen" "[Z") (List.mem_cons_of_mem _ (List.mem_append_left _ (List.mem_of_getElem? (i := 0) rfl)))
  have hl := lv_entry [.ref (ad k), .int a1] (n := 2) (Nat.le_of_ble_eq_true rfl)
  rw [show entryFrame m args 2 = entryFrame m ([.ref (ad k), .int a1] : List Value).toArray 2 by rw [hav], lg_entry_eq]
  generalize (lg_sl [.ref (ad k), .int a1] ++ List.replicate (2 - (lg_sl [.ref (ad k), .int a1]).length) Slot.unset).toArray = ls at hl ⊢
  have hl : lv_has ls 2 [(0, .ref (ad k)), (1, .int a1)] := hl
  have main : ∀ (H : Heap) (locs : List Loc) (ls : Array Slot), va_P D vwCl (wd ca ad S) H → va_S (Aq ad s.heap.size) s.heap H locs → lv_has ls 2 [(0, .ref (ad k)), (1, .int a1)] → W p l e rm_X3_isSeen s m args below meth c H locs 0 0 (Zi below D ca ad args s o S) (F0 m 0 ls []) := by
    intro H locs ls hP hS hl
    unfold f_X3_isSeen at hf
    refine lv_iload_n hx hb dX3_isSeen_0 rfl (lv_at hl 1 rfl) ?_
    refine lv_bipush (v := (-50)) hx hb dX3_isSeen_1 (by decide) ?_
    refine lv_icmp_lt (tgt := 28) hx hb dX3_isSeen_3 (by decide) (fun w => ?_) (fun w => ?_)
    · have hf := if_t w hf
      refine lv_iconst (v := 0) hx hb dX3_isSeen_28 (by decide) ?_
      obtain rfl := Option.some.inj hf
      exact r_zret hx hb hr hP hS (Or.inl rfl) dX3_isSeen_29 hlocks
    · have hf := if_f w hf
      refine lv_iload_n hx hb dX3_isSeen_6 rfl (lv_at hl 1 rfl) ?_
      refine lv_bipush (v := 50) hx hb dX3_isSeen_7 (by decide) ?_
      refine lv_icmp_gt (tgt := 28) hx hb dX3_isSeen_9 (by decide) (fun w => ?_) (fun w => ?_)
      · have hf := if_t w hf
        refine lv_iconst (v := 0) hx hb dX3_isSeen_28 (by decide) ?_
        obtain rfl := Option.some.inj hf
        exact r_zret hx hb hr hP hS (Or.inl rfl) dX3_isSeen_29 hlocks
      · have hf := if_f w hf
        refine lv_aload_n hx hb dX3_isSeen_12 rfl (lv_at hl 0 rfl) ?_
        refine g_X3_seen hx hb hX3 hown hKK hP hk K28 dX3_isSeen_13 ?_
        refine lv_iload_n hx hb dX3_isSeen_16 rfl (lv_at hl 1 rfl) ?_
        refine lv_bipush (v := (-50)) hx hb dX3_isSeen_17 (by decide) ?_
        refine lv_isub hx hb dX3_isSeen_19 ?_
        obtain ⟨v1, h2, hf⟩ := bd_e hf
        refine r_zald hx hb hKK hP (q_sp hk).2.2.1 (q_sp hk).2.2.2 h2 dX3_isSeen_20 ?_
        refine lv_if_eq (tgt := 28) hx hb dX3_isSeen_21 (by decide) (fun w => ?_) (fun w => ?_)
        · have hf := if_t w hf
          refine lv_iconst (v := 0) hx hb dX3_isSeen_28 (by decide) ?_
          obtain rfl := Option.some.inj hf
          exact r_zret hx hb hr hP hS (Or.inl rfl) dX3_isSeen_29 hlocks
        · have hf := if_f w hf
          refine lv_iconst (v := 1) hx hb dX3_isSeen_24 (by decide) ?_
          refine lv_goto (tgt := 29) hx hb dX3_isSeen_25 (by decide) ?_
          obtain rfl := Option.some.inj hf
          exact r_zret hx hb hr hP hS (Or.inr rfl) dX3_isSeen_29 hlocks
  exact main s.heap [] ls hP va_S.rf hl
def lp_X3_leastSeen_3 (k : Nat) (S : QS) : Nat → Int32 → Option Int32
  | 0, _ => none
  | fuel + 1, v1 => (if 50 ≤ v1 then (some 50)
else ((f_X3_isSeen k v1 S).bind fun v3 =>
if v3 = 0 then (lp_X3_leastSeen_3 k S fuel (v1 + 1))
else (some v1)))
def f_X3_leastSeen (k : Nat) (S : QS) : Option Int32 :=
lp_X3_leastSeen_3 k S FU (-50)
def rm_X3_leastSeen : Room := { frames := 1, cells := 0, slots := 0, locals := 21 }
set_option maxRecDepth 100000 in
set_option maxHeartbeats 4000000 in
theorem m_X3_leastSeen (l : Launch) (D : va_G) (ca : Nat → ClassId) (ad : Nat → Nat) (hj : Inj ad) (k : Nat) (hk : qk k = 3) (S : QS) (o : Int32) (hf : f_X3_leastSeen k S = some o) : Ci l D ca ad yX3_leastSeen wsX3_leastSeen rm_X3_leastSeen [.ref (ad k)] S o S := by
  intro sz
  refine Met.ofW (cc := cX3_leastSeen) (maxL := 2) (ret := (some .int)) (by decide) rfl ?_
  intro p e s m args below meth c s₁ B hml hv
  obtain ⟨hav, hsz, hP, hKK⟩ := hv
  have hx := B.exec
  have hb := B.bytes
  have hr := B.returns
  have hts := atoms_spec (ws := wsX3_leastSeen) B.pre
  have hown : s.vm.findClass RX3 = some m.cls := findClass_of_methodNamed B.named
  have hlocks := B.notSynchronized
  subst hsz
  have hl := lv_entry [.ref (ad k)] (n := 2) (Nat.le_of_ble_eq_true rfl)
  rw [show entryFrame m args 2 = entryFrame m ([.ref (ad k)] : List Value).toArray 2 by rw [hav], lg_entry_eq]
  generalize (lg_sl [.ref (ad k)] ++ List.replicate (2 - (lg_sl [.ref (ad k)]).length) Slot.unset).toArray = ls at hl ⊢
  have hl : lv_has ls 2 [(0, .ref (ad k))] := hl
  have main : ∀ (H : Heap) (locs : List Loc) (ls : Array Slot), va_P D vwCl (wd ca ad S) H → va_S (Aq ad s.heap.size) s.heap H locs → lv_has ls 2 [(0, .ref (ad k))] → W p l e rm_X3_leastSeen s m args below meth c H locs 0 0 (Zi below D ca ad args s o S) (F0 m 0 ls []) := by
    intro H locs ls hP hS hl
    unfold f_X3_leastSeen at hf
    refine lv_bipush (v := (-50)) hx hb dX3_leastSeen_0 (by decide) ?_
    refine lv_istore_n (lv' := [(1, .int (-50)), (0, .ref (ad k))]) hx hb dX3_leastSeen_2 rfl hl (by decide) rfl (fun ls hl => ?_)
    have L1 : ∀ (fuel : Nat) (v1 : Int32), lp_X3_leastSeen_3 k S fuel v1 = some o → ∀ (H : Heap) (locs : List Loc) (ls : Array Slot), va_P D vwCl (wd ca ad S) H → va_S (Aq ad s.heap.size) s.heap H locs → lv_has ls 2 [(0, .ref (ad k)), (1, .int v1)] → W p l e rm_X3_leastSeen s m args below meth c H locs 0 0 (Zi below D ca ad args s o S) (F0 m 3 ls []) := by
      intro fuel
      induction fuel with
      | zero =>
        intro v1 hf
        simp [lp_X3_leastSeen_3] at hf
      | succ fuel ih =>
        intro v1 hf H locs ls hP hS hl
        rw [lp_X3_leastSeen_3] at hf
        refine lv_iload_n hx hb dX3_leastSeen_3 rfl (lv_at hl 1 rfl) ?_
        refine lv_bipush (v := 50) hx hb dX3_leastSeen_4 (by decide) ?_
        refine lv_icmp_ge (tgt := 25) hx hb dX3_leastSeen_6 (by decide) (fun w => ?_) (fun w => ?_)
        · have hf := if_t w hf
          refine lv_bipush (v := 50) hx hb dX3_leastSeen_25 (by decide) ?_
          obtain rfl := Option.some.inj hf
          exact r_iret hx hb hr hP hS dX3_leastSeen_27 hlocks
        · have hf := if_f w hf
          refine lv_aload_n hx hb dX3_leastSeen_9 rfl (lv_at hl 0 rfl) ?_
          refine lv_iload_n hx hb dX3_leastSeen_10 rfl (lv_at hl 1 rfl) ?_
          obtain ⟨v3, h2, hf⟩ := bd_e hf
          refine r_ci hS (va_runV (As := [.int v1]) (rest := []) ⟨hx, hb, hml, hown, hts⟩ (m_X3_isSeen l D ca ad hj k hk v1 S _ h2 H.size) (cwV 1 hts gX3_leastSeen_X3_isSeen rfl rfl rfl (by decide +kernel) ⟨Nat.le_of_ble_eq_true rfl, Nat.le_of_ble_eq_true rfl⟩) (r_preV hKK hP hk rfl) rfl rfl hl.1 rfl (lv_room (Nat.le_of_ble_eq_true rfl)) dX3_leastSeen_11 ⟨Nat.le_of_ble_eq_true rfl, Nat.le_of_ble_eq_true rfl⟩) (fun H locs hP hS => ?_)
          refine lv_if_eq (tgt := 19) hx hb dX3_leastSeen_14 (by decide) (fun w => ?_) (fun w => ?_)
          · have hf := if_t w hf
            refine lv_iinc (v := (v1 + 1)) (lv' := [(1, .int (v1 + 1)), (0, .ref (ad k))]) hx hb dX3_leastSeen_19 hl (k := 1) rfl rfl (by decide) rfl (fun ls hl => ?_)
            refine lv_goto (tgt := 3) hx hb dX3_leastSeen_22 (by decide) ?_
            exact ih _ hf _ _ _ hP hS (lv_sub hl [1, 0] rfl)
          · have hf := if_f w hf
            refine lv_iload_n hx hb dX3_leastSeen_17 rfl (lv_at hl 1 rfl) ?_
            obtain rfl := Option.some.inj hf
            exact r_iret hx hb hr hP hS dX3_leastSeen_18 hlocks
    exact L1 _ _ hf _ _ _ hP hS (lv_sub hl [1, 0] rfl)
  exact main s.heap [] ls hP va_S.rf hl
def lp_X3_greatestSeen_3 (k : Nat) (S : QS) : Nat → Int32 → Option Int32
  | 0, _ => none
  | fuel + 1, v1 => (if v1 ≤ (-50) then (some (-50))
else ((f_X3_isSeen k v1 S).bind fun v3 =>
if v3 = 0 then (lp_X3_greatestSeen_3 k S fuel (v1 + (-1)))
else (some v1)))
def f_X3_greatestSeen (k : Nat) (S : QS) : Option Int32 :=
lp_X3_greatestSeen_3 k S FU 50
def rm_X3_greatestSeen : Room := { frames := 1, cells := 0, slots := 0, locals := 21 }
set_option maxRecDepth 100000 in
set_option maxHeartbeats 4000000 in
theorem m_X3_greatestSeen (l : Launch) (D : va_G) (ca : Nat → ClassId) (ad : Nat → Nat) (hj : Inj ad) (k : Nat) (hk : qk k = 3) (S : QS) (o : Int32) (hf : f_X3_greatestSeen k S = some o) : Ci l D ca ad yX3_greatestSeen wsX3_greatestSeen rm_X3_greatestSeen [.ref (ad k)] S o S := by
  intro sz
  refine Met.ofW (cc := cX3_greatestSeen) (maxL := 2) (ret := (some .int)) (by decide) rfl ?_
  intro p e s m args below meth c s₁ B hml hv
  obtain ⟨hav, hsz, hP, hKK⟩ := hv
  have hx := B.exec
  have hb := B.bytes
  have hr := B.returns
  have hts := atoms_spec (ws := wsX3_greatestSeen) B.pre
  have hown : s.vm.findClass RX3 = some m.cls := findClass_of_methodNamed B.named
  have hlocks := B.notSynchronized
  subst hsz
  have hl := lv_entry [.ref (ad k)] (n := 2) (Nat.le_of_ble_eq_true rfl)
  rw [show entryFrame m args 2 = entryFrame m ([.ref (ad k)] : List Value).toArray 2 by rw [hav], lg_entry_eq]
  generalize (lg_sl [.ref (ad k)] ++ List.replicate (2 - (lg_sl [.ref (ad k)]).length) Slot.unset).toArray = ls at hl ⊢
  have hl : lv_has ls 2 [(0, .ref (ad k))] := hl
  have main : ∀ (H : Heap) (locs : List Loc) (ls : Array Slot), va_P D vwCl (wd ca ad S) H → va_S (Aq ad s.heap.size) s.heap H locs → lv_has ls 2 [(0, .ref (ad k))] → W p l e rm_X3_greatestSeen s m args below meth c H locs 0 0 (Zi below D ca ad args s o S) (F0 m 0 ls []) := by
    intro H locs ls hP hS hl
    unfold f_X3_greatestSeen at hf
    refine lv_bipush (v := 50) hx hb dX3_greatestSeen_0 (by decide) ?_
    refine lv_istore_n (lv' := [(1, .int 50), (0, .ref (ad k))]) hx hb dX3_greatestSeen_2 rfl hl (by decide) rfl (fun ls hl => ?_)
    have L1 : ∀ (fuel : Nat) (v1 : Int32), lp_X3_greatestSeen_3 k S fuel v1 = some o → ∀ (H : Heap) (locs : List Loc) (ls : Array Slot), va_P D vwCl (wd ca ad S) H → va_S (Aq ad s.heap.size) s.heap H locs → lv_has ls 2 [(0, .ref (ad k)), (1, .int v1)] → W p l e rm_X3_greatestSeen s m args below meth c H locs 0 0 (Zi below D ca ad args s o S) (F0 m 3 ls []) := by
      intro fuel
      induction fuel with
      | zero =>
        intro v1 hf
        simp [lp_X3_greatestSeen_3] at hf
      | succ fuel ih =>
        intro v1 hf H locs ls hP hS hl
        rw [lp_X3_greatestSeen_3] at hf
        refine lv_iload_n hx hb dX3_greatestSeen_3 rfl (lv_at hl 1 rfl) ?_
        refine lv_bipush (v := (-50)) hx hb dX3_greatestSeen_4 (by decide) ?_
        refine lv_icmp_le (tgt := 25) hx hb dX3_greatestSeen_6 (by decide) (fun w => ?_) (fun w => ?_)
        · have hf := if_t w hf
          refine lv_bipush (v := (-50)) hx hb dX3_greatestSeen_25 (by decide) ?_
          obtain rfl := Option.some.inj hf
          exact r_iret hx hb hr hP hS dX3_greatestSeen_27 hlocks
        · have hf := if_f w hf
          refine lv_aload_n hx hb dX3_greatestSeen_9 rfl (lv_at hl 0 rfl) ?_
          refine lv_iload_n hx hb dX3_greatestSeen_10 rfl (lv_at hl 1 rfl) ?_
          obtain ⟨v3, h2, hf⟩ := bd_e hf
          refine r_ci hS (va_runV (As := [.int v1]) (rest := []) ⟨hx, hb, hml, hown, hts⟩ (m_X3_isSeen l D ca ad hj k hk v1 S _ h2 H.size) (cwV 1 hts gX3_greatestSeen_X3_isSeen rfl rfl rfl (by decide +kernel) ⟨Nat.le_of_ble_eq_true rfl, Nat.le_of_ble_eq_true rfl⟩) (r_preV hKK hP hk rfl) rfl rfl hl.1 rfl (lv_room (Nat.le_of_ble_eq_true rfl)) dX3_greatestSeen_11 ⟨Nat.le_of_ble_eq_true rfl, Nat.le_of_ble_eq_true rfl⟩) (fun H locs hP hS => ?_)
          refine lv_if_eq (tgt := 19) hx hb dX3_greatestSeen_14 (by decide) (fun w => ?_) (fun w => ?_)
          · have hf := if_t w hf
            refine lv_iinc (v := (v1 + (-1))) (lv' := [(1, .int (v1 + (-1))), (0, .ref (ad k))]) hx hb dX3_greatestSeen_19 hl (k := 1) rfl rfl (by decide) rfl (fun ls hl => ?_)
            refine lv_goto (tgt := 3) hx hb dX3_greatestSeen_22 (by decide) ?_
            exact ih _ hf _ _ _ hP hS (lv_sub hl [1, 0] rfl)
          · have hf := if_f w hf
            refine lv_iload_n hx hb dX3_greatestSeen_17 rfl (lv_at hl 1 rfl) ?_
            obtain rfl := Option.some.inj hf
            exact r_iret hx hb hr hP hS dX3_greatestSeen_18 hlocks
    exact L1 _ _ hf _ _ _ hP hS (lv_sub hl [1, 0] rfl)
  exact main s.heap [] ls hP va_S.rf hl
end
