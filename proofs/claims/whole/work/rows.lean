section
-- ===== PART A: goes FIRST, ahead of the names: the tables' words, and 'selects' of the private methods out of them =====
/-- a private method of a class that the tables say can be made, by its rows of tables_1 -/
def lw_okq (q : MethodName × Nat) : Prop := (q.1.cls ≠ "java/lang/invoke/MethodHandle" ∧ q.1.cls ≠ "java/lang/invoke/VarHandle") ∧ Cond.instantiable q.1.cls q.2 ∈ tables_1 ∧ Cond.privateMethod q.1 ∈ tables_1 ∧ Cond.instanceMethod q.1 ∈ tables_1
theorem lw_p0 : lw_okq (⟨"CrashDesk", "reckon", "(II)V"⟩, 8) := ⟨⟨by decide +kernel, by decide +kernel⟩, List.mem_of_getElem? (i := 18) (by decide +kernel), List.mem_of_getElem? (i := 223) (by decide +kernel), List.mem_of_getElem? (i := 224) (by decide +kernel)⟩
theorem lw_p1 : lw_okq (⟨"CrashDesk$Car", "isTakenBehind", "(I)Z"⟩, 10) := ⟨⟨by decide +kernel, by decide +kernel⟩, List.mem_of_getElem? (i := 36) (by decide +kernel), List.mem_of_getElem? (i := 274) (by decide +kernel), List.mem_of_getElem? (i := 275) (by decide +kernel)⟩
theorem lw_p2 : lw_okq (⟨"CrashDesk$Car", "joinFirsts", "(I)V"⟩, 10) := ⟨⟨by decide +kernel, by decide +kernel⟩, List.mem_of_getElem? (i := 36) (by decide +kernel), List.mem_of_getElem? (i := 280) (by decide +kernel), List.mem_of_getElem? (i := 281) (by decide +kernel)⟩
theorem lw_p3 : lw_okq (⟨"CrashDesk$Car", "isTakenAhead", "(II)Z"⟩, 10) := ⟨⟨by decide +kernel, by decide +kernel⟩, List.mem_of_getElem? (i := 36) (by decide +kernel), List.mem_of_getElem? (i := 287) (by decide +kernel), List.mem_of_getElem? (i := 288) (by decide +kernel)⟩
theorem lw_p4 : lw_okq (⟨"CrashDesk$Meeting", "pushFrom", "(I)V"⟩, 6) := ⟨⟨by decide +kernel, by decide +kernel⟩, List.mem_of_getElem? (i := 30) (by decide +kernel), List.mem_of_getElem? (i := 306) (by decide +kernel), List.mem_of_getElem? (i := 307) (by decide +kernel)⟩
theorem lw_p5 : lw_okq (⟨"CrashDesk$Meeting", "meet", "(II)V"⟩, 6) := ⟨⟨by decide +kernel, by decide +kernel⟩, List.mem_of_getElem? (i := 30) (by decide +kernel), List.mem_of_getElem? (i := 310) (by decide +kernel), List.mem_of_getElem? (i := 311) (by decide +kernel)⟩
theorem lw_p6 : lw_okq (⟨"CrashDesk", "allTales", "()I"⟩, 8) := ⟨⟨by decide +kernel, by decide +kernel⟩, List.mem_of_getElem? (i := 18) (by decide +kernel), List.mem_of_getElem? (i := 341) (by decide +kernel), List.mem_of_getElem? (i := 342) (by decide +kernel)⟩
theorem lw_p7 : lw_okq (⟨"CrashDesk", "countingSkids", "()I"⟩, 8) := ⟨⟨by decide +kernel, by decide +kernel⟩, List.mem_of_getElem? (i := 18) (by decide +kernel), List.mem_of_getElem? (i := 361) (by decide +kernel), List.mem_of_getElem? (i := 362) (by decide +kernel)⟩
theorem lw_p8 : lw_okq (⟨"CrashDesk", "carOf", "(I)LCrashDesk$Car;"⟩, 8) := ⟨⟨by decide +kernel, by decide +kernel⟩, List.mem_of_getElem? (i := 18) (by decide +kernel), List.mem_of_getElem? (i := 374) (by decide +kernel), List.mem_of_getElem? (i := 375) (by decide +kernel)⟩
theorem lw_p9 : lw_okq (⟨"java/lang/Throwable", "fillInStackTrace", "(I)Ljava/lang/Throwable;"⟩, 6) := ⟨⟨by decide +kernel, by decide +kernel⟩, List.mem_of_getElem? (i := 420) (by decide +kernel), List.mem_of_getElem? (i := 418) (by decide +kernel), List.mem_of_getElem? (i := 419) (by decide +kernel)⟩
theorem lw_p10 : lw_okq (⟨"CrashDesk", "skidOf", "(I)LCrashDesk$Skid;"⟩, 8) := ⟨⟨by decide +kernel, by decide +kernel⟩, List.mem_of_getElem? (i := 18) (by decide +kernel), List.mem_of_getElem? (i := 504) (by decide +kernel), List.mem_of_getElem? (i := 505) (by decide +kernel)⟩
theorem lw_p11 : lw_okq (⟨"CrashDesk", "speedOf", "(II)LCrashDesk$Speed;"⟩, 8) := ⟨⟨by decide +kernel, by decide +kernel⟩, List.mem_of_getElem? (i := 18) (by decide +kernel), List.mem_of_getElem? (i := 516) (by decide +kernel), List.mem_of_getElem? (i := 517) (by decide +kernel)⟩
theorem lw_p12 : lw_okq (⟨"CrashDesk", "testWay", "()V"⟩, 8) := ⟨⟨by decide +kernel, by decide +kernel⟩, List.mem_of_getElem? (i := 18) (by decide +kernel), List.mem_of_getElem? (i := 540) (by decide +kernel), List.mem_of_getElem? (i := 541) (by decide +kernel)⟩
theorem lw_p13 : lw_okq (⟨"CrashDeskModel", "throwsIf", "(ZI)Z"⟩, 23) := ⟨⟨by decide +kernel, by decide +kernel⟩, List.mem_of_getElem? (i := 592) (by decide +kernel), List.mem_of_getElem? (i := 683) (by decide +kernel), List.mem_of_getElem? (i := 684) (by decide +kernel)⟩
theorem lw_p14 : lw_okq (⟨"CrashDeskModel", "goes", "(II)Z"⟩, 23) := ⟨⟨by decide +kernel, by decide +kernel⟩, List.mem_of_getElem? (i := 592) (by decide +kernel), List.mem_of_getElem? (i := 717) (by decide +kernel), List.mem_of_getElem? (i := 718) (by decide +kernel)⟩
theorem lw_p15 : lw_okq (⟨"CrashDeskModel", "lets", "(I)V"⟩, 23) := ⟨⟨by decide +kernel, by decide +kernel⟩, List.mem_of_getElem? (i := 592) (by decide +kernel), List.mem_of_getElem? (i := 721) (by decide +kernel), List.mem_of_getElem? (i := 722) (by decide +kernel)⟩
def lw_privs_1 : List (MethodName × Nat) := [(⟨"CrashDesk", "reckon", "(II)V"⟩, 8), (⟨"CrashDesk$Car", "isTakenBehind", "(I)Z"⟩, 10), (⟨"CrashDesk$Car", "joinFirsts", "(I)V"⟩, 10), (⟨"CrashDesk$Car", "isTakenAhead", "(II)Z"⟩, 10), (⟨"CrashDesk$Meeting", "pushFrom", "(I)V"⟩, 6), (⟨"CrashDesk$Meeting", "meet", "(II)V"⟩, 6), (⟨"CrashDesk", "allTales", "()I"⟩, 8), (⟨"CrashDesk", "countingSkids", "()I"⟩, 8), (⟨"CrashDesk", "carOf", "(I)LCrashDesk$Car;"⟩, 8), (⟨"java/lang/Throwable", "fillInStackTrace", "(I)Ljava/lang/Throwable;"⟩, 6), (⟨"CrashDesk", "skidOf", "(I)LCrashDesk$Skid;"⟩, 8), (⟨"CrashDesk", "speedOf", "(II)LCrashDesk$Speed;"⟩, 8), (⟨"CrashDesk", "testWay", "()V"⟩, 8), (⟨"CrashDeskModel", "throwsIf", "(ZI)Z"⟩, 23), (⟨"CrashDeskModel", "goes", "(II)Z"⟩, 23), (⟨"CrashDeskModel", "lets", "(I)V"⟩, 23)]
theorem lw_r1 : ∀ q ∈ lw_privs_1, lw_okq q := List.forall_mem_cons.mpr ⟨lw_p0, List.forall_mem_cons.mpr ⟨lw_p1, List.forall_mem_cons.mpr ⟨lw_p2, List.forall_mem_cons.mpr ⟨lw_p3, List.forall_mem_cons.mpr ⟨lw_p4, List.forall_mem_cons.mpr ⟨lw_p5, List.forall_mem_cons.mpr ⟨lw_p6, List.forall_mem_cons.mpr ⟨lw_p7, List.forall_mem_cons.mpr ⟨lw_p8, List.forall_mem_cons.mpr ⟨lw_p9, List.forall_mem_cons.mpr ⟨lw_p10, List.forall_mem_cons.mpr ⟨lw_p11, List.forall_mem_cons.mpr ⟨lw_p12, List.forall_mem_cons.mpr ⟨lw_p13, List.forall_mem_cons.mpr ⟨lw_p14, List.forall_mem_cons.mpr ⟨lw_p15, fun _ h => absurd h List.not_mem_nil⟩⟩⟩⟩⟩⟩⟩⟩⟩⟩⟩⟩⟩⟩⟩⟩
theorem lw_p16 : lw_okq (⟨"CrashDeskModel", "falses", "(II)I"⟩, 23) := ⟨⟨by decide +kernel, by decide +kernel⟩, List.mem_of_getElem? (i := 592) (by decide +kernel), List.mem_of_getElem? (i := 728) (by decide +kernel), List.mem_of_getElem? (i := 729) (by decide +kernel)⟩
theorem lw_p17 : lw_okq (⟨"CrashDeskModel", "counts", "(I)V"⟩, 23) := ⟨⟨by decide +kernel, by decide +kernel⟩, List.mem_of_getElem? (i := 592) (by decide +kernel), List.mem_of_getElem? (i := 732) (by decide +kernel), List.mem_of_getElem? (i := 733) (by decide +kernel)⟩
theorem lw_p18 : lw_okq (⟨"CrashDeskModel", "isFirst", "(IIII)Z"⟩, 23) := ⟨⟨by decide +kernel, by decide +kernel⟩, List.mem_of_getElem? (i := 592) (by decide +kernel), List.mem_of_getElem? (i := 736) (by decide +kernel), List.mem_of_getElem? (i := 737) (by decide +kernel)⟩
theorem lw_p19 : lw_okq (⟨"CrashDeskModel", "takes", "(IZII)Z"⟩, 23) := ⟨⟨by decide +kernel, by decide +kernel⟩, List.mem_of_getElem? (i := 592) (by decide +kernel), List.mem_of_getElem? (i := 740) (by decide +kernel), List.mem_of_getElem? (i := 741) (by decide +kernel)⟩
theorem lw_p20 : lw_okq (⟨"CrashDeskModel", "masks", "(III)V"⟩, 23) := ⟨⟨by decide +kernel, by decide +kernel⟩, List.mem_of_getElem? (i := 592) (by decide +kernel), List.mem_of_getElem? (i := 744) (by decide +kernel), List.mem_of_getElem? (i := 745) (by decide +kernel)⟩
theorem lw_p21 : lw_okq (⟨"CrashDeskModel", "all", "()I"⟩, 23) := ⟨⟨by decide +kernel, by decide +kernel⟩, List.mem_of_getElem? (i := 592) (by decide +kernel), List.mem_of_getElem? (i := 752) (by decide +kernel), List.mem_of_getElem? (i := 753) (by decide +kernel)⟩
theorem lw_p22 : lw_okq (⟨"CrashDeskModel", "fewest", "()I"⟩, 23) := ⟨⟨by decide +kernel, by decide +kernel⟩, List.mem_of_getElem? (i := 592) (by decide +kernel), List.mem_of_getElem? (i := 764) (by decide +kernel), List.mem_of_getElem? (i := 765) (by decide +kernel)⟩
theorem lw_p23 : lw_okq (⟨"CrashDeskModel", "makes", "()V"⟩, 23) := ⟨⟨by decide +kernel, by decide +kernel⟩, List.mem_of_getElem? (i := 592) (by decide +kernel), List.mem_of_getElem? (i := 768) (by decide +kernel), List.mem_of_getElem? (i := 769) (by decide +kernel)⟩
def lw_privs_2 : List (MethodName × Nat) := [(⟨"CrashDeskModel", "falses", "(II)I"⟩, 23), (⟨"CrashDeskModel", "counts", "(I)V"⟩, 23), (⟨"CrashDeskModel", "isFirst", "(IIII)Z"⟩, 23), (⟨"CrashDeskModel", "takes", "(IZII)Z"⟩, 23), (⟨"CrashDeskModel", "masks", "(III)V"⟩, 23), (⟨"CrashDeskModel", "all", "()I"⟩, 23), (⟨"CrashDeskModel", "fewest", "()I"⟩, 23), (⟨"CrashDeskModel", "makes", "()V"⟩, 23)]
theorem lw_r2 : ∀ q ∈ lw_privs_2, lw_okq q := List.forall_mem_cons.mpr ⟨lw_p16, List.forall_mem_cons.mpr ⟨lw_p17, List.forall_mem_cons.mpr ⟨lw_p18, List.forall_mem_cons.mpr ⟨lw_p19, List.forall_mem_cons.mpr ⟨lw_p20, List.forall_mem_cons.mpr ⟨lw_p21, List.forall_mem_cons.mpr ⟨lw_p22, List.forall_mem_cons.mpr ⟨lw_p23, fun _ h => absurd h List.not_mem_nil⟩⟩⟩⟩⟩⟩⟩⟩
def lw_privs : List (MethodName × Nat) := lw_privs_1 ++ (lw_privs_2)
def lw_tbl : List Cond := k2_sels lw_privs ++ tables_1
theorem lw_privs_ok : ∀ q ∈ lw_privs, lw_okq q := by
  show ∀ q ∈ lw_privs_1 ++ (lw_privs_2), lw_okq q
  exact List.forall_mem_append.mpr ⟨lw_r1, lw_r2⟩
end
section
/-! ===== BEGIN words of one list among another's, by their places ===== -/
theorem goodIn_r {big : List Cond} (ws : List Cond) (ps : List Nat) (hp : ws = ps.filterMap (fun i => big[i]?)) (h : ws.all goodWord = true) : GoodIn big ws := by
  intro w hw
  have h1 := List.all_eq_true.mp h w hw
  rw [hp] at hw
  obtain ⟨i, -, hi⟩ := List.mem_filterMap.mp hw
  have hm : w ∈ big := by first | exact List.mem_of_getElem? hi | exact List.getElem?_mem hi
  exact ⟨hm, good_of_word h1⟩
theorem goodIn_app {big a b : List Cond} (ha : GoodIn big a) (hb : GoodIn big b) : GoodIn big (a ++ b) := fun w h => (List.mem_append.mp h).elim (ha w) (hb w)
theorem goodIn_ca {big a b : List Cond} {c : Cond} (ha : GoodIn big (c :: a)) (hb : GoodIn big b) : GoodIn big (c :: (a ++ b)) := fun w h => (List.mem_cons.mp h).elim (fun e => ha w (List.mem_cons.mpr (Or.inl e))) (fun h => (List.mem_append.mp h).elim (fun h => ha w (List.mem_cons.mpr (Or.inr h))) (hb w))
theorem goodIn_sub {big ws : List Cond} (hm : ∀ w ∈ ws, w ∈ big) (h : ws.all goodWord = true) : GoodIn big ws := fun w hw => ⟨hm w hw, good_of_word (List.all_eq_true.mp h w hw)⟩
/-! ===== END ===== -/

/-! ===== BEGIN exceptions that leave a method, and their catching by the caller (launches without stack traces) ===== -/
section VXA
/-! The laws vx_back, vx_callV, vx_callS, vx_callSW, vx_throw0, vx_throwS follow proofs of the library, with one case more: JvmDerived/Free/Laws.lean (Back.of_free), Shelf42/LK1.lean (callV, callS), Shelf/KitTraced.lean (throwNew0V, throwNewS). -/
/-- where a method has thrown q: the class by its name, the cell, what was written, the world -/
def vx_T (XC : String → State → State → Prop) (st : State) (q : Addr) (t : State) (mc ms : Nat) (free : Addr → Prop) : Prop :=
  ∃ (E : String) (ce : Cell) (L : List Loc), XC E st t ∧ t.heap[q]? = some ce ∧ ce.vm = .none ∧ st.vm.findClass E = some ce.cls ∧ st.WarmedH t.vm ∧ st.sameButNew ({ t with vm := st.vm } : State) L mc ms ∧ ∀ z ∈ L, free z.base
def vx_Q (Qc : Array Value → State → Outcome → State → Prop) (XC : String → State → State → Prop) (mc ms : Nat) (free : Addr → Prop) : Array Value → State → Outcome → State → Prop := fun a st o t =>
  (Qc a st o t ∧ ∃ L, FrameEnd st o t L mc ms ∧ ∀ q ∈ L, free q.base) ∨ ∃ q, o = .threw q ∧ vx_T XC st q t mc ms free
/-- a callee that returns or throws -/
def vx_Met (l : Launch) (y : MethodName) (ws : List Cond) (rm : Room) (Pc : Array Value → State → Prop) (Qc : Array Value → State → Outcome → State → Prop) (XC : String → State → State → Prop) (mc ms : Nat) (free : Addr → Prop) : Prop :=
  MetFree l y (headSpec ws rm) Pc (fun _ _ _ _ _ => True) (vx_Q Qc XC mc ms free)
def vx_Post (XC : String → State → State → Prop) (mc ms : Nat) (free : Addr → Prop) : Pt → Array Value → Addr → Pt → Prop := fun A a q B =>
  ∃ (g : JFrame) (mk : MethodId) (t : State) (L : List Loc) (E : String) (ce : Cell), B.U.heap = t.heap ∧ B.U.vm = t.vm ∧ XC E (A.U.calling g mk a) t ∧ t.heap[q]? = some ce ∧ ce.vm = .none ∧ A.U.vm.findClass E = some ce.cls ∧ B.locs = A.locs ++ L ∧ (∀ z ∈ L, free z.base) ∧ B.cells = A.cells + mc ∧ B.slots = A.slots + ms
def vx_Back (l : Launch) (R : Room) (p : Program) (e : Env) (below : List Frame) (s : State) (sargs : Array Value) (y : MethodName) (len W9 : Nat)
    (Pre : Pt → Array Value → Prop) (Post : Pt → Array Value → Option Value → Pt → Prop) (PostX : Pt → Array Value → Addr → Pt → Prop) : Prop :=
  ∀ (m : MethodId) (meth : Method) (c : Code) (A : Pt) (g : JFrame) (ig : Instr) (mk : MethodId) (a : Array Value),
    Stand p l e R s m sargs below meth c A.U A.locs A.cells A.slots → g.method = m → g.locals.size = c.maxLocals → decode c.code g.pc = .ok (ig, len) →
    2 * g.monitorRoom + (g.stack.map fun v => v.category).sum ≤ W9 → A.U.methodNamed? y = some mk → Pre A a →
    (∃ (v : Option Value) (B : Pt), Stand p l e R s m sargs below meth c B.U B.locs B.cells B.slots ∧ Post A a v B ∧
      Steps p.tables e below (doInvoke e (A.U.setTop g) [] mk a).1 (B.U.setTop { g with pc := g.pc + len, stack := v.toList ++ g.stack })) ∨
    (∃ (q : Addr) (B : Pt), Stand p l e R s m sargs below meth c B.U B.locs B.cells B.slots ∧ PostX A a q B ∧
      Steps p.tables e below (doInvoke e (A.U.setTop g) [] mk a).1 ((B.U.setTop g).pushFrame (.throwing q)))
section Payer
variable {l : Launch} {R : Room} {p : Program} {e : Env} {below : List Frame} {s : State} {sargs : Array Value} {y : MethodName} {len W9 : Nat}
theorem vx_back {ws : List Cond} {rm : Room} {Pc : Array Value → State → Prop} {Qc : Array Value → State → Outcome → State → Prop} {XC : String → State → State → Prop} {mc ms : Nat} {free : Addr → Prop} {bytes : ByteArray} {maxL : Nat} {ret : Option FieldType}
    (hM : vx_Met l y ws rm Pc Qc XC mc ms free) (hblind : FrameBlind Pc) (hrc : rm.cells = mc) (hrs : rm.slots = ms)
    (hframes : rm.frames + 1 ≤ R.frames) (hlocals : W9 + (maxL + 11) + rm.locals ≤ R.locals)
    (hws : ∀ w ∈ ws, ∀ a' U, s.WarmedH U.vm → w.before a' U = true) (hcode : Cond.code y bytes maxL ret ∈ ws) (hinit : ∀ a' U, s.WarmedH U.vm → (Cond.initialized y.cls).before a' U = true) :
    vx_Back l R p e below s sargs y len W9 (PreOf R mc ms Pc) (PostOf Qc mc ms free) (vx_Post XC mc ms free) := by
  intro m meth c A g ig mk a X hg hsize hdg hW hn hp
  have h1 : (headSpec ws rm).pre.before a A.U = true := atoms_intro fun w hw => hws w hw _ _ X.warmed
  have h2 : (Cond.code y bytes maxL ret).before a A.U = true := hws _ hcode _ _ X.warmed
  have h3 : (Cond.initialized y.cls).before a A.U = true := hinit _ _ X.warmed
  have h4 : A.cells + (headSpec ws rm).room.cells ≤ R.cells := by rw [show (headSpec ws rm).room.cells = mc from hrc]; exact hp.1
  have h5 : A.slots + (headSpec ws rm).room.slots ≤ R.slots := by rw [show (headSpec ws rm).room.slots = ms from hrs]; exact hp.2.1
  have hPc : Pc a (A.U.calling g mk a) := hblind _ _ _ _ hp.2.2
  obtain ⟨U, Ls, c0, s0⟩ := A
  dsimp only [Pt.U, Pt.locs, Pt.cells, Pt.slots] at h1 h2 h3 h4 h5 X hn hPc ⊢
  obtain ⟨methY, cY, hmY, hcY, -, hlY, -, -, -, -⟩ := Cond.code_spec hn h2
  obtain ⟨kY, hkY, -⟩ := className_of_methodNamed hn
  have hinitY : kY.init = .initialized := Cond.initialized_spec (findClass_of_methodNamed hn) hkY h3
  have h : At U g.method c below := by rw [hg]; exact X.here
  have hlocals9 : W9 + (maxL + 11) + (headSpec ws rm).room.locals ≤ R.locals := hlocals
  have happ : (headSpec ws rm).appliesLoose y e.platform (U.calling g mk a) = true :=
    Spec.appliesLoose_calling (g := g) h hdg hn hkY hinitY
      (X.room_calling (g := g) (R' := (headSpec ws rm).room) hsize hmY hcY hframes (by rw [hlY]; omega) h4 h5) h1
  obtain ⟨mid, hmid⟩ := h.above
  have hfr : (U.setTop g).frames = (.java g :: mid) ++ below := by rw [State.frames_setTop' g h.top, hmid]; rfl
  obtain ⟨o, s₂, hsteps, -, hend, hq⟩ := Steps.callFree hM p X.admits X.cas X.clock (acts := []) hfr happ hPc trivial
  have hq' : vx_Q Qc XC mc ms free a (U.calling g mk a) o s₂ := hq
  rw [State.frames_setTop' g h.top] at hend
  obtain ⟨g₀, hg0⟩ := Option.isSome_iff_exists.mp h.top
  obtain ⟨r, hr⟩ := State.topJava?_eq_some.mp hg0
  have hr' : (({ U with heap := s₂.heap, slotsUsed := s₂.slotsUsed } : State).setVm s₂.vm).frames = .java g₀ :: r := hr
  rcases hq' with ⟨hqc, L, hfe, hL⟩ | ⟨q, rfl, E, ce, L, hx, hce, hcv, hcl, hW₂, hsm, hL⟩
  · obtain ⟨⟨v, rfl⟩, hW₂, e2, q2, q3, q4, q5, q6⟩ := id hfe
    have e3 : s₂ = ({ (U.calling g mk a).setFrames s₂.frames with heap := s₂.heap, slotsUsed := s₂.slotsUsed } : State).setVm s₂.vm := by
      have : s₂ = ({ s₂ with vm := (U.calling g mk a).vm } : State).setVm s₂.vm := rfl
      rw [e2] at this
      exact this
    obtain ⟨c₂, i₂, len₂, hc₂, hd₂, hf₂⟩ := hend
    have hW' : U.WarmedH s₂.vm := hW₂
    have hcc : c₂ = c := by
      have h1 : s₂.code? g.method = U.code? g.method := by
        rw [State.code?_eq, State.code?_eq, hW'.alike.method?]
      exact Option.some.inj (hc₂.symm.trans (h1.trans h.code))
    subst hcc
    have hlen : len₂ = len := by rw [hdg] at hd₂; cases hd₂; rfl
    subst hlen
    have hs₂ : s₂ = (({ U with heap := s₂.heap, slotsUsed := s₂.slotsUsed } : State).setVm s₂.vm).setTop { g with pc := g.pc + len₂, stack := v.toList ++ g.stack } := by
      refine e3.trans ?_
      rw [hf₂, State.calling_eq h.top, State.setFrames_setFrames, State.setTop_of_frames _ hr', hr]
      rfl
    have hsame : U.sameButNew ({ U with heap := s₂.heap, slotsUsed := s₂.slotsUsed } : State) L mc ms := by
      refine ⟨?_, q2, q3, q4, q5, q6⟩
      obtain ⟨t, ht, -⟩ := State.frames_cons hr
      show ({ U with heap := s₂.heap, slotsUsed := s₂.slotsUsed } : State) = { U.setFrames U.frames with heap := s₂.heap, slotsUsed := s₂.slotsUsed }
      rw [State.setFrames_self ht]
    subst hg
    refine Or.inl ⟨v, ⟨(({ U with heap := s₂.heap, slotsUsed := s₂.slotsUsed } : State).setVm s₂.vm), Ls ++ L, c0 + mc, s0 + ms⟩,
      ⟨X.admits, X.cas, X.clock, X.frames, X.room, X.hears, X.method, X.code, (X.here.setHeapUsed s₂.heap s₂.slotsUsed).setVm hW'.alike, X.tail, State.WarmedH.trans X.warmed hW', X.limits, X.bytes, X.same.trans (hsame.setVm s.vm)⟩,
      ⟨g, mk, s₂, L, rfl, rfl, hqc, rfl, hL, rfl, rfl⟩, ?_⟩
    show Steps p.tables e below _ ((({ U with heap := s₂.heap, slotsUsed := s₂.slotsUsed } : State).setVm s₂.vm).setTop { g with pc := g.pc + len₂, stack := v.toList ++ g.stack })
    rw [← hs₂]
    exact hsteps
  · obtain ⟨e2, q2, q3, q4, q5, q6⟩ := id hsm
    have e3 : s₂ = ({ (U.calling g mk a).setFrames s₂.frames with heap := s₂.heap, slotsUsed := s₂.slotsUsed } : State).setVm s₂.vm := by
      have : s₂ = ({ s₂ with vm := (U.calling g mk a).vm } : State).setVm s₂.vm := rfl
      rw [e2] at this
      exact this
    have hf₂ : s₂.frames = .throwing q :: .java g :: U.frames.tail := hend
    have hW' : U.WarmedH s₂.vm := hW₂
    have hs₂ : s₂ = ((({ U with heap := s₂.heap, slotsUsed := s₂.slotsUsed } : State).setVm s₂.vm).setTop g).pushFrame (.throwing q) := by
      refine e3.trans ?_
      rw [hf₂, State.calling_eq h.top, State.setFrames_setFrames, State.pushFrame, State.frames_setTop _ hr', State.setTop_of_frames _ hr', State.setFrames_setFrames, hr]
      rfl
    have hsame : U.sameButNew ({ U with heap := s₂.heap, slotsUsed := s₂.slotsUsed } : State) L mc ms := by
      refine ⟨?_, q2, q3, q4, q5, q6⟩
      obtain ⟨t, ht, -⟩ := State.frames_cons hr
      show ({ U with heap := s₂.heap, slotsUsed := s₂.slotsUsed } : State) = { U.setFrames U.frames with heap := s₂.heap, slotsUsed := s₂.slotsUsed }
      rw [State.setFrames_self ht]
    subst hg
    refine Or.inr ⟨q, ⟨(({ U with heap := s₂.heap, slotsUsed := s₂.slotsUsed } : State).setVm s₂.vm), Ls ++ L, c0 + mc, s0 + ms⟩,
      ⟨X.admits, X.cas, X.clock, X.frames, X.room, X.hears, X.method, X.code, (X.here.setHeapUsed s₂.heap s₂.slotsUsed).setVm hW'.alike, X.tail, State.WarmedH.trans X.warmed hW', X.limits, X.bytes, X.same.trans (hsame.setVm s.vm)⟩,
      ⟨g, mk, s₂, L, E, ce, rfl, rfl, hx, hce, hcv, hcl, rfl, hL, rfl, rfl⟩, ?_⟩
    show Steps p.tables e below _ (((({ U with heap := s₂.heap, slotsUsed := s₂.slotsUsed } : State).setVm s₂.vm).setTop g).pushFrame (.throwing q))
    rw [← hs₂]
    exact hsteps
end Payer
section Calls
variable {p : Program} {l : Launch} {e : Env} {R : Room} {s : State} {m : MethodId} {args : Array Value} {below : List Frame} {meth : Method} {c : Code} {T : State} {locs : List Loc} {cells slots : Nat}
theorem vx_callV (X : Stand p l e R s m args below meth c T locs cells slots) (hexec : p.tables.exec = Jvm.exec) {own C : String} {index : Nat} {y : MethodName} {bytes : ByteArray} {maxL : Nat} {ret : Option FieldType}
    (hown : s.vm.findClass own = some m.cls) (hlink : (Cond.methodLink own index y).before args s = true) (hinst : (Cond.instanceMethod y).before args s = true) (hsel : (Cond.selects C y y).before args s = true)
    (hcode : (Cond.code y bytes maxL ret).before args s = true) (hy : y.cls ≠ "java/lang/invoke/MethodHandle" ∧ y.cls ≠ "java/lang/invoke/VarHandle")
    {W9 : Nat} {Pre : Pt → Array Value → Prop} {Post : Pt → Array Value → Option Value → Pt → Prop} {PostX : Pt → Array Value → Addr → Pt → Prop} (hK : vx_Back l R p e below s args y 3 W9 Pre Post PostX)
    {b : Addr} {cellB : Cell} (hcell : T.heap[b]? = some cellB) (hobj : cellB.vm.isStatics = false) (hcls : s.vm.findClass C = some cellB.cls)
    {g : JFrame} (hg : g.method = m) (hsize : g.locals.size = c.maxLocals) {argsL rest : List Value} (hlen : ∀ sig, parseMethodDescriptor y.desc = some sig → argsL.length = sig.parameters.length)
    (hstack : g.stack = argsL.reverse ++ .ref b :: rest) (hW : 2 * g.monitorRoom + (rest.map fun v => v.category).sum ≤ W9) (hdg : decode c.code g.pc = .ok (.invokevirtual index, 3))
    (hpre : ∀ vm₁, s.WarmedH vm₁ → Pre ⟨T.setVm vm₁, locs, cells, slots⟩ (Value.ref b :: argsL).toArray) :
    (∃ (v : Option Value) (vm₁ : Vm) (B : Pt), s.WarmedH vm₁ ∧ Stand p l e R s m args below meth c B.U B.locs B.cells B.slots ∧ Post ⟨T.setVm vm₁, locs, cells, slots⟩ (Value.ref b :: argsL).toArray v B ∧
      ∀ target, Steps p.tables e below (B.U.setTop { g with pc := g.pc + 3, stack := v.toList ++ rest }) target → Steps p.tables e below (T.setTop g) target) ∨
    (∃ (q : Addr) (vm₁ : Vm) (B : Pt), s.WarmedH vm₁ ∧ Stand p l e R s m args below meth c B.U B.locs B.cells B.slots ∧ PostX ⟨T.setVm vm₁, locs, cells, slots⟩ (Value.ref b :: argsL).toArray q B ∧
      Steps p.tables e below (T.setTop g) ((B.U.setTop { g with stack := rest }).pushFrame (.throwing q))) := by
  obtain ⟨mk, methM, hnamed, hmethM, hstM, habM⟩ := Cond.instanceMethod_spec hinst
  obtain ⟨methM', cM, hmethM', -, -, -, -, -, -, hsigM⟩ := Cond.code_spec hnamed hcode
  cases hmethM.symm.trans hmethM'
  obtain ⟨c2, r2, m2, q1, q2, q3, q4, kP, hkP, hkPi⟩ := Cond.selects_spec hsel
  cases hcls.symm.trans q1
  cases (State.methodFound?_of_named hnamed hy).symm.trans q2
  cases hnamed.symm.trans q3
  have hselP : selectMethod e.platform s.vm cellB.cls mk = .method mk := by rw [Launch.admits_selectMethod X.admits]; exact q4
  obtain ⟨vm₁, X₁, hstep₁⟩ := X.invokevirtual hexec hown hlink hnamed hmethM hstM hkP hkPi hy (a := b) (cell := cellB) hcell
    (fun z h => by rw [h] at hobj; cases hobj) hselP hmethM habM hkP hkPi (g := g) hg (argsL := argsL) (rest := rest) (hlen _ hsigM) hstack hdg
  rcases hK m meth c ⟨T.setVm vm₁, locs, cells, slots⟩ { g with stack := rest } (.invokevirtual index) mk (Value.ref b :: argsL).toArray X₁ hg hsize hdg hW (X₁.named hnamed) (hpre vm₁ X₁.warmed) with ⟨v, B, X', hpost, hsteps⟩ | ⟨q, B, X', hpost, hsteps⟩
  · exact Or.inl ⟨v, vm₁, B, X₁.warmed, X', hpost, fun target h => hstep₁ _ fun acts => by rw [doInvoke_state]; exact hsteps.trans h⟩
  · exact Or.inr ⟨q, vm₁, B, X₁.warmed, X', hpost, hstep₁ _ fun acts => by rw [doInvoke_state]; exact hsteps⟩
theorem vx_callS (X : Stand p l e R s m args below meth c T locs cells slots) (hexec : p.tables.exec = Jvm.exec) {own : String} {index : Nat} {y : MethodName} {bytes : ByteArray} {maxL : Nat} {ret : Option FieldType}
    (hown : s.vm.findClass own = some m.cls) (hlink : (Cond.methodLink own index y).before args s = true) (hstat : (Cond.static y).before args s = true) (hinit : (Cond.initialized y.cls).before args s = true)
    (hcode : (Cond.code y bytes maxL ret).before args s = true) (hy : y.cls ≠ "java/lang/invoke/MethodHandle" ∧ y.cls ≠ "java/lang/invoke/VarHandle")
    {W9 : Nat} {Pre : Pt → Array Value → Prop} {Post : Pt → Array Value → Option Value → Pt → Prop} {PostX : Pt → Array Value → Addr → Pt → Prop} (hK : vx_Back l R p e below s args y 3 W9 Pre Post PostX)
    {g : JFrame} (hg : g.method = m) (hsize : g.locals.size = c.maxLocals) {argsL rest : List Value} (hlen : ∀ sig, parseMethodDescriptor y.desc = some sig → argsL.length = sig.parameters.length)
    (hstack : g.stack = argsL.reverse ++ rest) (hW : 2 * g.monitorRoom + (rest.map fun v => v.category).sum ≤ W9) (hdg : decode c.code g.pc = .ok (.invokestatic index, 3))
    (hpre : ∀ vm₁, s.WarmedH vm₁ → Pre ⟨T.setVm vm₁, locs, cells, slots⟩ argsL.toArray) :
    (∃ (v : Option Value) (vm₁ : Vm) (B : Pt), s.WarmedH vm₁ ∧ Stand p l e R s m args below meth c B.U B.locs B.cells B.slots ∧ Post ⟨T.setVm vm₁, locs, cells, slots⟩ argsL.toArray v B ∧
      ∀ target, Steps p.tables e below (B.U.setTop { g with pc := g.pc + 3, stack := v.toList ++ rest }) target → Steps p.tables e below (T.setTop g) target) ∨
    (∃ (q : Addr) (vm₁ : Vm) (B : Pt), s.WarmedH vm₁ ∧ Stand p l e R s m args below meth c B.U B.locs B.cells B.slots ∧ PostX ⟨T.setVm vm₁, locs, cells, slots⟩ argsL.toArray q B ∧
      Steps p.tables e below (T.setTop g) ((B.U.setTop { g with stack := rest }).pushFrame (.throwing q))) := by
  obtain ⟨mk, hnamed⟩ := Cond.code_named hcode
  obtain ⟨methM, cM, hmethM, -, -, -, -, -, -, hsigM⟩ := Cond.code_spec hnamed hcode
  have hstatic : methM.isStatic = true := Cond.static_spec hnamed hmethM hstat
  obtain ⟨kP, hkP, -⟩ := className_of_methodNamed hnamed
  have hinitP : kP.init = .initialized := Cond.initialized_spec (findClass_of_methodNamed hnamed) hkP hinit
  obtain ⟨vm₁, X₁, hstep₁⟩ := X.invokestatic hexec hown hlink hnamed hmethM hstatic hkP hinitP hy (g := g) hg (argsL := argsL) (rest := rest) (hlen _ hsigM) hstack hdg
  rcases hK m meth c ⟨T.setVm vm₁, locs, cells, slots⟩ { g with stack := rest } (.invokestatic index) mk argsL.toArray X₁ hg hsize hdg hW (X₁.named hnamed) (hpre vm₁ X₁.warmed) with ⟨v, B, X', hpost, hsteps⟩ | ⟨q, B, X', hpost, hsteps⟩
  · exact Or.inl ⟨v, vm₁, B, X₁.warmed, X', hpost, fun target h => hstep₁ _ fun acts => by rw [doInvoke_state]; exact hsteps.trans h⟩
  · exact Or.inr ⟨q, vm₁, B, X₁.warmed, X', hpost, hstep₁ _ fun acts => by rw [doInvoke_state]; exact hsteps⟩
end Calls
theorem vx_cls {s : State} {T : State} {vm₁ : Vm} {E : String} {k : ClassId} (hW : s.WarmedH vm₁) (h : (T.setVm vm₁).vm.findClass E = some k) : s.vm.findClass E = some k := by
  have h1 : vm₁.findClass E = some k := h
  rw [hW.alike.findClass] at h1
  exact h1
/-- the method's frame g, with q thrown over it -/
def vx_W (p : Program) (l : Launch) (e : Env) (R : Room) (s : State) (m : MethodId) (args : Array Value) (below : List Frame) (meth : Method) (c : Code) (H : Heap) (locs : List Loc) (cells slots : Nat) (Q : State → Prop) (g : JFrame) (q : Addr) : Prop :=
  ∀ T : State, T.heap = H → Stand p l e R s m args below meth c T locs cells slots → ∃ t, Steps p.tables e below ((T.setTop g).pushFrame (.throwing q)) t ∧ Q t
def vx_Run (p : Program) (l : Launch) (e : Env) (R : Room) (s : State) (m : MethodId) (args : Array Value) (below : List Frame) (meth : Method) (c : Code) (H : Heap) (locs : List Loc) (cells slots mc ms : Nat) (g : JFrame) (rest : List Value) (Qa : State → Outcome → State → Prop) (XC : String → State → State → Prop) (free : Addr → Prop) : Prop :=
  ∀ T : State, T.heap = H → Stand p l e R s m args below meth c T locs cells slots →
    (∃ (v : Option Value) (st₀ t T' : State) (L : List Loc), st₀.heap = H ∧ Stand p l e R s m args below meth c T' (locs ++ L) (cells + mc) (slots + ms) ∧ (∀ q ∈ L, free q.base) ∧ T'.heap = t.heap ∧ T'.vm = t.vm ∧ Qa st₀ (.returned v) t ∧
      Goes p e below T g T' { g with pc := g.pc + 3, stack := v.toList ++ rest }) ∨
    (∃ (q : Addr) (st₀ t T' : State) (L : List Loc) (E : String) (ce : Cell), st₀.heap = H ∧ Stand p l e R s m args below meth c T' (locs ++ L) (cells + mc) (slots + ms) ∧ (∀ z ∈ L, free z.base) ∧ T'.heap = t.heap ∧ T'.vm = t.vm ∧ XC E st₀ t ∧ t.heap[q]? = some ce ∧ ce.vm = .none ∧ s.vm.findClass E = some ce.cls ∧
      Steps p.tables e below (T.setTop g) ((T'.setTop { g with stack := rest }).pushFrame (.throwing q)))
def vx_X {S : Type} (px : S → Prop) (B : String → S → State → Prop) (A : Nat → Prop) : String → State → State → Prop := fun E st t => ∃ u : S, px u ∧ B E u t ∧ va_F A st t
section Runs
variable {p : Program} {l : Launch} {e : Env} {R : Room} {s : State} {m : MethodId} {args : Array Value} {below : List Frame} {meth : Method} {c : Code} {H : Heap} {locs : List Loc} {cells slots : Nat}
variable {y : MethodName} {bytes cc : ByteArray} {maxL nL mc ms n index : Nat} {ret : Option FieldType} {ws : List Cond} {rm : Room} {Pc : Array Value → State → Prop} {Qc : Array Value → State → Outcome → State → Prop} {XC : String → State → State → Prop} {free : Addr → Prop} {Ts : List Cond} {own C : String} {b : Addr} {As rest : List Value} {g : JFrame}
theorem vx_callBack (cb : CallB R s args own index y bytes maxL ret ws rm mc ms n) (hM : vx_Met l y ws rm Pc Qc XC mc ms free) (hbl : FrameBlind Pc) : vx_Back l R p e below s args y 3 8 (PreOf R mc ms Pc) (PostOf Qc mc ms free) (vx_Post XC mc ms free) := by
  obtain ⟨hrc, hrs, hfr, hlo, hws, hcw, -, hini, -⟩ := cb
  exact vx_back (bytes := bytes) (maxL := maxL) (ret := ret) hM hbl hrc hrs hfr hlo hws hcw (fun a' U hW => word_at hW (Or.inl (by first | rfl | simp [Cond.onTables, Cond.keeps, Cond.steady])) hini)
theorem vx_runV (S : CallFix p m c cc nL s args Ts own) (hM : vx_Met l y ws rm Pc Qc XC mc ms free) (cw : CallW R s args own C index y bytes maxL ret ws rm mc ms n) (hp : PreV s H C b Pc As)
    (hg : g.method = m) (hn : As.length = n) (hsize : g.locals.size = nL) (hstack : g.stack = As.reverse ++ .ref b :: rest) (hW : 2 * g.monitorRoom + (rest.map fun v => v.category).sum ≤ 8) (hdg : decode cc g.pc = .ok (.invokevirtual index, 3)) (hf : cells + mc ≤ R.cells ∧ slots + ms ≤ R.slots) :
    vx_Run p l e R s m args below meth c H locs cells slots mc ms g rest (Qc (Value.ref b :: As).toArray) XC free := by
  have hK : vx_Back l R p e below s args y 3 8 (PreOf R mc ms Pc) (PostOf Qc mc ms free) (vx_Post XC mc ms free) := vx_callBack cw.1 hM hp.1
  obtain ⟨⟨-, -, -, -, -, -, hcode, -, hy, hlen, hl⟩, hin, hse⟩ := cw
  obtain ⟨hx, hb, hml, ho, -⟩ := S
  obtain ⟨-, ⟨cellB, hcB, hoB, hclB⟩, hPc⟩ := hp
  intro T hT X
  rcases vx_callV X hx (C := C) (bytes := bytes) (maxL := maxL) (ret := ret) ho hl hin hse hcode hy hK (by rw [hT]; exact hcB) hoB hclB hg (hsize.trans hml.symm) (argsL := As) (rest := rest) (fun sig h => hn.trans (hlen sig h)) hstack hW (by rw [hb]; exact hdg)
    (fun vm₁ hW₁ => ⟨hf.1, hf.2, hPc (T.setVm vm₁) hT hW₁⟩) with ⟨v, vm₁, ⟨U', l2, c2, s2⟩, hW₁, X', ⟨g', mk, t, L, e1, e2, hq, h1, hL, h2, h3⟩, st⟩ | ⟨q, vm₁, ⟨U', l2, c2, s2⟩, hW₁, X', ⟨g', mk, t, L, E, ce, e1, e2, hq, hce, hcv, hcl, h1, hL, h2, h3⟩, st⟩
  · dsimp only [Pt.U, Pt.locs, Pt.cells, Pt.slots] at X' e1 e2 h1 h2 h3 st
    subst h1; subst h2; subst h3
    exact Or.inl ⟨v, (T.setVm vm₁).calling g' mk (Value.ref b :: As).toArray, t, U', L, hT, X', hL, e1, e2, hq, st⟩
  · dsimp only [Pt.U, Pt.locs, Pt.cells, Pt.slots] at X' e1 e2 h1 h2 h3 st hcl
    subst h1; subst h2; subst h3
    exact Or.inr ⟨q, (T.setVm vm₁).calling g' mk (Value.ref b :: As).toArray, t, U', L, E, ce, hT, X', hL, e1, e2, hq, hce, hcv, vx_cls hW₁ hcl, st⟩
theorem vx_runS (S : CallFix p m c cc nL s args Ts own) (hM : vx_Met l y ws rm Pc Qc XC mc ms free) (cw : CallB R s args own index y bytes maxL ret ws rm mc ms n ∧ (Cond.static y).before args s = true) (hp : PreS s H Pc As)
    (hg : g.method = m) (hn : As.length = n) (hsize : g.locals.size = nL) (hstack : g.stack = As.reverse ++ rest) (hW : 2 * g.monitorRoom + (rest.map fun v => v.category).sum ≤ 8) (hdg : decode cc g.pc = .ok (.invokestatic index, 3)) (hf : cells + mc ≤ R.cells ∧ slots + ms ≤ R.slots) :
    vx_Run p l e R s m args below meth c H locs cells slots mc ms g rest (Qc As.toArray) XC free := by
  have hK : vx_Back l R p e below s args y 3 8 (PreOf R mc ms Pc) (PostOf Qc mc ms free) (vx_Post XC mc ms free) := vx_callBack cw.1 hM hp.1
  obtain ⟨⟨-, -, -, -, -, -, hcode, hini, hy, hlen, hl⟩, hstt⟩ := cw
  obtain ⟨hx, hb, hml, ho, -⟩ := S
  intro T hT X
  rcases vx_callS X hx (bytes := bytes) (maxL := maxL) (ret := ret) ho hl hstt hini hcode hy hK hg (hsize.trans hml.symm) (argsL := As) (rest := rest) (fun sig h => hn.trans (hlen sig h)) hstack hW (by rw [hb]; exact hdg)
    (fun vm₁ hW₁ => ⟨hf.1, hf.2, hp.2 (T.setVm vm₁) hT hW₁⟩) with ⟨v, vm₁, ⟨U', l2, c2, s2⟩, hW₁, X', ⟨g', mk, t, L, e1, e2, hq, h1, hL, h2, h3⟩, st⟩ | ⟨q, vm₁, ⟨U', l2, c2, s2⟩, hW₁, X', ⟨g', mk, t, L, E, ce, e1, e2, hq, hce, hcv, hcl, h1, hL, h2, h3⟩, st⟩
  · dsimp only [Pt.U, Pt.locs, Pt.cells, Pt.slots] at X' e1 e2 h1 h2 h3 st
    subst h1; subst h2; subst h3
    exact Or.inl ⟨v, (T.setVm vm₁).calling g' mk As.toArray, t, U', L, hT, X', hL, e1, e2, hq, st⟩
  · dsimp only [Pt.U, Pt.locs, Pt.cells, Pt.slots] at X' e1 e2 h1 h2 h3 st hcl
    subst h1; subst h2; subst h3
    exact Or.inr ⟨q, (T.setVm vm₁).calling g' mk As.toArray, t, U', L, E, ce, hT, X', hL, e1, e2, hq, hce, hcv, vx_cls hW₁ hcl, st⟩
end Runs
section Rows
variable {p : Program} {l : Launch} {e : Env} {R : Room} {s : State} {m : MethodId} {args : Array Value} {below : List Frame} {meth : Method} {c : Code} {H : Heap} {locs : List Loc} {cells slots : Nat} {Q : State → Prop}
variable {mc ms : Nat} {free : Addr → Prop} {A0 A1 : Nat → Prop} {H0 : Heap} {a : Array Value} {pc : Nat} {ls : Array Slot} {st0 rest : List Value}
theorem vx_keep {st₀ t T' : State} {L : List Loc} (h0 : st₀.heap = H) (e1 : T'.heap = t.heap) (hS : va_S A0 H0 H locs) (hA : ∀ q, q < H.size → A1 q → A0 q) (hf : ∀ q, free q → A0 q) (hL : ∀ q ∈ L, free q.base) (hF : va_F A1 st₀ t) :
    H.size ≤ T'.heap.size ∧ (∀ q : Nat, q < H.size → ¬ A1 q → T'.heap[q]? = H[q]?) ∧ va_S A0 H0 T'.heap (locs ++ L) := by
  obtain ⟨hz, hk⟩ := hF
  rw [h0] at hz hk
  exact ⟨by rw [e1]; exact hz, fun q h1 h2 => by rw [e1]; exact hk q h1 h2,
    ⟨Nat.le_trans hS.1 (by rw [e1]; exact hz), fun q h1 h2 => by rw [e1, hk q (Nat.lt_of_lt_of_le h1 hS.1) (fun z => h2 (hA q (Nat.lt_of_lt_of_le h1 hS.1) z))]; exact hS.2.1 q h1 h2, fun q hq => by
      rcases List.mem_append.mp hq with h | h
      · exact hS.2.2 q h
      · exact hf _ (hL q h)⟩⟩
theorem vx_calli {S SX : Type} {post : Int32 → S → Prop} {px : SX → Prop} {B : S → State → Prop} {BX : String → SX → State → Prop} {AX : Nat → Prop} (hr : vx_Run p l e R s m args below meth c H locs cells slots mc ms (F0 m pc ls st0) rest (va_Qi post B A1 a) (vx_X px BX AX) free) (hS : va_S A0 H0 H locs) (hA : ∀ q, q < H.size → A1 q → A0 q) (hf : ∀ q, free q → A0 q) (hAX : ∀ q, q < H.size → AX q → A0 q)
    (kx : ∀ (E : String) (ce : Cell) (q9 : Addr) (u : SX) (t : State) (H1 : Heap) (locs1 : List Loc), t.heap = H1 → s.vm.Alike t.vm → px u → BX E u t → H.size ≤ H1.size → (∀ q : Nat, q < H.size → ¬ AX q → H1[q]? = H[q]?) → va_S A0 H0 H1 locs1 → H1[q9]? = some ce → ce.vm = .none → s.vm.findClass E = some ce.cls → vx_W p l e R s m args below meth c H1 locs1 (cells + mc) (slots + ms) Q (F0 m pc ls rest) q9)
    (kk : ∀ (r : Int32) (u : S) (t : State) (H1 : Heap) (locs1 : List Loc), t.heap = H1 → s.vm.Alike t.vm → post r u → B u t → H.size ≤ H1.size → (∀ q : Nat, q < H.size → ¬ A1 q → H1[q]? = H[q]?) → va_S A0 H0 H1 locs1 → W p l e R s m args below meth c H1 locs1 (cells + mc) (slots + ms) Q (F0 m (pc + 3) ls (.int r :: rest))) : W p l e R s m args below meth c H locs cells slots Q (F0 m pc ls st0) := by
  intro T hT X
  rcases hr T hT X with ⟨v, st₀, t, T', L, h0, X', hL, e1, e2, ⟨⟨r, u, hv, hp, hb⟩, hF⟩, st⟩ | ⟨q, st₀, t, T', L, E, ce, h0, X', hL, e1, e2, ⟨u, hp, hb, hF⟩, hce, hcv, hcl, st⟩
  · cases hv
    obtain ⟨k1, k2, k3⟩ := vx_keep h0 e1 hS hA hf hL hF
    obtain ⟨t2, a1, b1⟩ := kk r u t T'.heap (locs ++ L) e1.symm (by rw [← e2]; exact X'.warmed.alike) hp hb k1 k2 k3 T' rfl X'
    exact ⟨t2, st t2 a1, b1⟩
  · obtain ⟨k1, k2, k3⟩ := vx_keep h0 e1 hS hAX hf hL hF
    obtain ⟨t2, a1, b1⟩ := kx E ce q u t T'.heap (locs ++ L) e1.symm (by rw [← e2]; exact X'.warmed.alike) hp hb k1 k2 k3 (by rw [e1]; exact hce) hcv hcl T' rfl X'
    exact ⟨t2, st.trans a1, b1⟩
theorem vx_calll {S SX : Type} {post : Int64 → S → Prop} {px : SX → Prop} {B : S → State → Prop} {BX : String → SX → State → Prop} {AX : Nat → Prop} (hr : vx_Run p l e R s m args below meth c H locs cells slots mc ms (F0 m pc ls st0) rest (va_Ql post B A1 a) (vx_X px BX AX) free) (hS : va_S A0 H0 H locs) (hA : ∀ q, q < H.size → A1 q → A0 q) (hf : ∀ q, free q → A0 q) (hAX : ∀ q, q < H.size → AX q → A0 q)
    (kx : ∀ (E : String) (ce : Cell) (q9 : Addr) (u : SX) (t : State) (H1 : Heap) (locs1 : List Loc), t.heap = H1 → s.vm.Alike t.vm → px u → BX E u t → H.size ≤ H1.size → (∀ q : Nat, q < H.size → ¬ AX q → H1[q]? = H[q]?) → va_S A0 H0 H1 locs1 → H1[q9]? = some ce → ce.vm = .none → s.vm.findClass E = some ce.cls → vx_W p l e R s m args below meth c H1 locs1 (cells + mc) (slots + ms) Q (F0 m pc ls rest) q9)
    (kk : ∀ (r : Int64) (u : S) (t : State) (H1 : Heap) (locs1 : List Loc), t.heap = H1 → s.vm.Alike t.vm → post r u → B u t → H.size ≤ H1.size → (∀ q : Nat, q < H.size → ¬ A1 q → H1[q]? = H[q]?) → va_S A0 H0 H1 locs1 → W p l e R s m args below meth c H1 locs1 (cells + mc) (slots + ms) Q (F0 m (pc + 3) ls (.long r :: rest))) : W p l e R s m args below meth c H locs cells slots Q (F0 m pc ls st0) := by
  intro T hT X
  rcases hr T hT X with ⟨v, st₀, t, T', L, h0, X', hL, e1, e2, ⟨⟨r, u, hv, hp, hb⟩, hF⟩, st⟩ | ⟨q, st₀, t, T', L, E, ce, h0, X', hL, e1, e2, ⟨u, hp, hb, hF⟩, hce, hcv, hcl, st⟩
  · cases hv
    obtain ⟨k1, k2, k3⟩ := vx_keep h0 e1 hS hA hf hL hF
    obtain ⟨t2, a1, b1⟩ := kk r u t T'.heap (locs ++ L) e1.symm (by rw [← e2]; exact X'.warmed.alike) hp hb k1 k2 k3 T' rfl X'
    exact ⟨t2, st t2 a1, b1⟩
  · obtain ⟨k1, k2, k3⟩ := vx_keep h0 e1 hS hAX hf hL hF
    obtain ⟨t2, a1, b1⟩ := kx E ce q u t T'.heap (locs ++ L) e1.symm (by rw [← e2]; exact X'.warmed.alike) hp hb k1 k2 k3 (by rw [e1]; exact hce) hcv hcl T' rfl X'
    exact ⟨t2, st.trans a1, b1⟩
theorem vx_callf {S SX : Type} {post : UInt32 → S → Prop} {px : SX → Prop} {B : S → State → Prop} {BX : String → SX → State → Prop} {AX : Nat → Prop} (hr : vx_Run p l e R s m args below meth c H locs cells slots mc ms (F0 m pc ls st0) rest (va_Qf post B A1 a) (vx_X px BX AX) free) (hS : va_S A0 H0 H locs) (hA : ∀ q, q < H.size → A1 q → A0 q) (hf : ∀ q, free q → A0 q) (hAX : ∀ q, q < H.size → AX q → A0 q)
    (kx : ∀ (E : String) (ce : Cell) (q9 : Addr) (u : SX) (t : State) (H1 : Heap) (locs1 : List Loc), t.heap = H1 → s.vm.Alike t.vm → px u → BX E u t → H.size ≤ H1.size → (∀ q : Nat, q < H.size → ¬ AX q → H1[q]? = H[q]?) → va_S A0 H0 H1 locs1 → H1[q9]? = some ce → ce.vm = .none → s.vm.findClass E = some ce.cls → vx_W p l e R s m args below meth c H1 locs1 (cells + mc) (slots + ms) Q (F0 m pc ls rest) q9)
    (kk : ∀ (r : UInt32) (u : S) (t : State) (H1 : Heap) (locs1 : List Loc), t.heap = H1 → s.vm.Alike t.vm → post r u → B u t → H.size ≤ H1.size → (∀ q : Nat, q < H.size → ¬ A1 q → H1[q]? = H[q]?) → va_S A0 H0 H1 locs1 → W p l e R s m args below meth c H1 locs1 (cells + mc) (slots + ms) Q (F0 m (pc + 3) ls (.float r :: rest))) : W p l e R s m args below meth c H locs cells slots Q (F0 m pc ls st0) := by
  intro T hT X
  rcases hr T hT X with ⟨v, st₀, t, T', L, h0, X', hL, e1, e2, ⟨⟨r, u, hv, hp, hb⟩, hF⟩, st⟩ | ⟨q, st₀, t, T', L, E, ce, h0, X', hL, e1, e2, ⟨u, hp, hb, hF⟩, hce, hcv, hcl, st⟩
  · cases hv
    obtain ⟨k1, k2, k3⟩ := vx_keep h0 e1 hS hA hf hL hF
    obtain ⟨t2, a1, b1⟩ := kk r u t T'.heap (locs ++ L) e1.symm (by rw [← e2]; exact X'.warmed.alike) hp hb k1 k2 k3 T' rfl X'
    exact ⟨t2, st t2 a1, b1⟩
  · obtain ⟨k1, k2, k3⟩ := vx_keep h0 e1 hS hAX hf hL hF
    obtain ⟨t2, a1, b1⟩ := kx E ce q u t T'.heap (locs ++ L) e1.symm (by rw [← e2]; exact X'.warmed.alike) hp hb k1 k2 k3 (by rw [e1]; exact hce) hcv hcl T' rfl X'
    exact ⟨t2, st.trans a1, b1⟩
theorem vx_calld {S SX : Type} {post : UInt64 → S → Prop} {px : SX → Prop} {B : S → State → Prop} {BX : String → SX → State → Prop} {AX : Nat → Prop} (hr : vx_Run p l e R s m args below meth c H locs cells slots mc ms (F0 m pc ls st0) rest (va_Qd post B A1 a) (vx_X px BX AX) free) (hS : va_S A0 H0 H locs) (hA : ∀ q, q < H.size → A1 q → A0 q) (hf : ∀ q, free q → A0 q) (hAX : ∀ q, q < H.size → AX q → A0 q)
    (kx : ∀ (E : String) (ce : Cell) (q9 : Addr) (u : SX) (t : State) (H1 : Heap) (locs1 : List Loc), t.heap = H1 → s.vm.Alike t.vm → px u → BX E u t → H.size ≤ H1.size → (∀ q : Nat, q < H.size → ¬ AX q → H1[q]? = H[q]?) → va_S A0 H0 H1 locs1 → H1[q9]? = some ce → ce.vm = .none → s.vm.findClass E = some ce.cls → vx_W p l e R s m args below meth c H1 locs1 (cells + mc) (slots + ms) Q (F0 m pc ls rest) q9)
    (kk : ∀ (r : UInt64) (u : S) (t : State) (H1 : Heap) (locs1 : List Loc), t.heap = H1 → s.vm.Alike t.vm → post r u → B u t → H.size ≤ H1.size → (∀ q : Nat, q < H.size → ¬ A1 q → H1[q]? = H[q]?) → va_S A0 H0 H1 locs1 → W p l e R s m args below meth c H1 locs1 (cells + mc) (slots + ms) Q (F0 m (pc + 3) ls (.double r :: rest))) : W p l e R s m args below meth c H locs cells slots Q (F0 m pc ls st0) := by
  intro T hT X
  rcases hr T hT X with ⟨v, st₀, t, T', L, h0, X', hL, e1, e2, ⟨⟨r, u, hv, hp, hb⟩, hF⟩, st⟩ | ⟨q, st₀, t, T', L, E, ce, h0, X', hL, e1, e2, ⟨u, hp, hb, hF⟩, hce, hcv, hcl, st⟩
  · cases hv
    obtain ⟨k1, k2, k3⟩ := vx_keep h0 e1 hS hA hf hL hF
    obtain ⟨t2, a1, b1⟩ := kk r u t T'.heap (locs ++ L) e1.symm (by rw [← e2]; exact X'.warmed.alike) hp hb k1 k2 k3 T' rfl X'
    exact ⟨t2, st t2 a1, b1⟩
  · obtain ⟨k1, k2, k3⟩ := vx_keep h0 e1 hS hAX hf hL hF
    obtain ⟨t2, a1, b1⟩ := kx E ce q u t T'.heap (locs ++ L) e1.symm (by rw [← e2]; exact X'.warmed.alike) hp hb k1 k2 k3 (by rw [e1]; exact hce) hcv hcl T' rfl X'
    exact ⟨t2, st.trans a1, b1⟩
theorem vx_callv {S SX : Type} {post : S → Prop} {px : SX → Prop} {B : S → State → Prop} {BX : String → SX → State → Prop} {AX : Nat → Prop} (hr : vx_Run p l e R s m args below meth c H locs cells slots mc ms (F0 m pc ls st0) rest (va_Qv post B A1 a) (vx_X px BX AX) free) (hS : va_S A0 H0 H locs) (hA : ∀ q, q < H.size → A1 q → A0 q) (hf : ∀ q, free q → A0 q) (hAX : ∀ q, q < H.size → AX q → A0 q)
    (kx : ∀ (E : String) (ce : Cell) (q9 : Addr) (u : SX) (t : State) (H1 : Heap) (locs1 : List Loc), t.heap = H1 → s.vm.Alike t.vm → px u → BX E u t → H.size ≤ H1.size → (∀ q : Nat, q < H.size → ¬ AX q → H1[q]? = H[q]?) → va_S A0 H0 H1 locs1 → H1[q9]? = some ce → ce.vm = .none → s.vm.findClass E = some ce.cls → vx_W p l e R s m args below meth c H1 locs1 (cells + mc) (slots + ms) Q (F0 m pc ls rest) q9)
    (kk : ∀ (u : S) (t : State) (H1 : Heap) (locs1 : List Loc), t.heap = H1 → s.vm.Alike t.vm → post u → B u t → H.size ≤ H1.size → (∀ q : Nat, q < H.size → ¬ A1 q → H1[q]? = H[q]?) → va_S A0 H0 H1 locs1 → W p l e R s m args below meth c H1 locs1 (cells + mc) (slots + ms) Q (F0 m (pc + 3) ls (rest))) : W p l e R s m args below meth c H locs cells slots Q (F0 m pc ls st0) := by
  intro T hT X
  rcases hr T hT X with ⟨v, st₀, t, T', L, h0, X', hL, e1, e2, ⟨⟨u, hv, hp, hb⟩, hF⟩, st⟩ | ⟨q, st₀, t, T', L, E, ce, h0, X', hL, e1, e2, ⟨u, hp, hb, hF⟩, hce, hcv, hcl, st⟩
  · cases hv
    obtain ⟨k1, k2, k3⟩ := vx_keep h0 e1 hS hA hf hL hF
    obtain ⟨t2, a1, b1⟩ := kk u t T'.heap (locs ++ L) e1.symm (by rw [← e2]; exact X'.warmed.alike) hp hb k1 k2 k3 T' rfl X'
    exact ⟨t2, st t2 a1, b1⟩
  · obtain ⟨k1, k2, k3⟩ := vx_keep h0 e1 hS hAX hf hL hF
    obtain ⟨t2, a1, b1⟩ := kx E ce q u t T'.heap (locs ++ L) e1.symm (by rw [← e2]; exact X'.warmed.alike) hp hb k1 k2 k3 (by rw [e1]; exact hce) hcv hcl T' rfl X'
    exact ⟨t2, st.trans a1, b1⟩
/-- caught by the row x of this method's table; the rows ahead don't take it -/
theorem vx_catch {own name : String} {E : String} {ce : Cell} {q : Addr} (hown : s.vm.findClass own = some m.cls) (pre : List ExceptionTableEntry) (x : ExceptionTableEntry) (suf : List ExceptionTableEntry) (hsplit : c.exceptionTable.toList = pre ++ x :: suf)
    (hpass : ∀ z ∈ pre, covers z pc = false ∨ (z.catchType ≠ 0 ∧ ∃ nm : String, (Cond.classLink own z.catchType nm).before args s = true ∧ va_Nc E nm s)) (hx : covers x pc = true) (h0 : x.catchType ≠ 0)
    (hlink : (Cond.classLink own x.catchType name).before args s = true) (hcast : (Cond.castable E name).before args s = true) (hcell : H[q]? = some ce) (hv : ce.vm = .none) (hcl : s.vm.findClass E = some ce.cls)
    (kk : W p l e R s m args below meth c H locs cells slots Q (F0 m x.handlerPc ls [.ref q])) : vx_W p l e R s m args below meth c H locs cells slots Q (F0 m pc ls rest) q := by
  intro T hT X
  have hpl : e.platform.magicAccessors = ({} : Platform).magicAccessors := by rw [X.admits.platform]
  obtain ⟨c3, c4, hc3, hc4, hasg⟩ := Cond.castable_spec hcast
  cases Option.some.inj (hc3.symm.trans hcl)
  obtain ⟨c5, hc5, hcl5⟩ := Cond.classLink_spec hown hlink e.platform hpl
  cases Option.some.inj (hc4.symm.trans hc5)
  obtain ⟨vm', X', st⟩ := X.thenCaughtThrough q (g := F0 m pc ls rest) rfl (Steps.refl _) (by rw [hT]; exact hcell) (by rw [hv]; rfl) (by obtain ⟨k9, h9, -⟩ := Vm.findClass_spec hcl; exact ⟨k9, h9⟩) pre x suf hsplit
    (fun z hz => by
      rcases hpass z hz with h | ⟨hz0, nm, hl1, hn1⟩
      · exact Or.inl h
      · obtain ⟨c6, hc6, hcl6⟩ := Cond.classLink_spec hown hl1 e.platform hpl
        obtain ⟨a8, b8, h1, h2, h3⟩ := hn1
        cases Option.some.inj (h1.symm.trans hcl)
        cases Option.some.inj (h2.symm.trans hc6)
        exact Or.inr ⟨hz0, _, hcl6, h3⟩) hx (Or.inr ⟨h0, c4, hcl5, hasg⟩)
  obtain ⟨t, a1, b1⟩ := kk (T.setVm vm') hT X'
  exact ⟨t, st.trans a1, b1⟩
end Rows
section Ends
variable {p : Program} {l : Launch} {e : Env} {R : Room} {s : State} {m : MethodId} {args : Array Value} {below : List Frame} {meth : Method} {c : Code} {H : Heap} {locs : List Loc} {cells slots : Nat} {Q : State → Prop}
variable {mc ms : Nat} {free : Addr → Prop} {A0 A1 : Nat → Prop} {H0 : Heap} {a : Array Value} {ls : Array Slot} {st0 rest : List Value}
variable {Qc : Array Value → State → Outcome → State → Prop} {XC : String → State → State → Prop}
/-- what a body that may throw owes at its end -/
def vx_MQ (below : List Frame) (Qc : Array Value → State → Outcome → State → Prop) (XC : String → State → State → Prop) (a : Array Value) (s : State) (mc ms : Nat) (free : Addr → Prop) : State → Prop := fun t =>
  ∃ o, t.status = .running ∧ Ended t below o ∧ vx_Q Qc XC mc ms free a s o t
theorem vx_ret {g : JFrame} {mc ms : Nat} (k : W p l e R s m args below meth c H locs cells slots (MQ below Qc args s mc ms free) g) : W p l e R s m args below meth c H locs cells slots (vx_MQ below Qc XC args s mc ms free) g := by
  intro T hT X
  obtain ⟨t, a1, o, b1, b2, b3, b4⟩ := k T hT X
  exact ⟨t, a1, o, b1, b2, Or.inl ⟨b3, b4⟩⟩
/-- not caught here: it goes on to the caller -/
theorem vx_widen {g : JFrame} {q : Addr} {k n : Nat} (h1 : cells ≤ k) (h2 : slots ≤ n) (kk : vx_W p l e R s m args below meth c H locs k n Q g q) : vx_W p l e R s m args below meth c H locs cells slots Q g q := fun T hT X => kk T hT (stand_widen X h1 h2)
theorem vx_out {pc : Nat} {E : String} {ce : Cell} {q : Addr} {mc ms : Nat} (hout : ∀ x ∈ c.exceptionTable.toList, covers x pc = false) (hlocks : meth.locks = false) (hcell : H[q]? = some ce) (hv : ce.vm = .none) (hcl : s.vm.findClass E = some ce.cls)
    (hx : ∀ t : State, t.heap = H → s.vm.Alike t.vm → XC E s t) (hf : ∀ z ∈ locs, free z.base) (hc : cells ≤ mc) (hs : slots ≤ ms) :
    vx_W p l e R s m args below meth c H locs cells slots (vx_MQ below Qc XC args s mc ms free) (F0 m pc ls rest) q := by
  intro T hT X
  obtain ⟨st1, hrun, hend, hW, hsm⟩ := X.leaveThrown q (g := F0 m pc ls rest) rfl rfl rfl hout hlocks
  have hcell9 : (T.setFrames (.throwing q :: below)).heap[q]? = some ce := by
    show T.heap[q]? = some ce
    rw [hT]; exact hcell
  exact ⟨_, st1, .threw q, hrun, hend, Or.inr ⟨q, rfl, E, ce, locs, hx _ hT hW.alike, hcell9, hv, hcl, hW, hsm.mono hc hs, hf⟩⟩
theorem vx_frame {U : State} {k n : Nat} (h : s.sameButNew ({ U with vm := s.vm } : State) locs k n) : s.heap.size ≤ U.heap.size ∧ ∀ q : Nat, q < s.heap.size → (∀ z ∈ locs, z.base ≠ q) → U.heap[q]? = s.heap[q]? := by
  obtain ⟨-, h2, -, -, -, h6⟩ := h
  refine ⟨h2, fun q hq hz => ?_⟩
  obtain ⟨c9, e1, e2, e3, e4⟩ := h6 q _ (Array.getElem?_eq_getElem hq)
  have hs : c9.slots = (s.heap[q]).slots := Array.ext_getElem? fun i => e4 i fun hm => hz _ hm rfl
  have h9 : c9 = s.heap[q] := by
    rw [hs] at e2
    exact e2
  have e5 : U.heap[q]? = some c9 := e1
  rw [e5, h9, Array.getElem?_eq_getElem hq]
/-- the words of a throw but the four that speak of the heap -/
def vx_no (w : Cond) : Bool := decide (w ≠ .isRef (.static Bundle.tN "UNASSIGNED_STACK" Bundle.steD)) && decide (w ≠ .isRef (.static Bundle.tN "SUPPRESSED_SENTINEL" Bundle.listD)) && decide (w ≠ .laysStatic Bundle.tN "UNASSIGNED_STACK" Bundle.steD) && decide (w ≠ .laysStatic Bundle.tN "SUPPRESSED_SENTINEL" Bundle.listD)
def vx_at0 (own : String) (ic : Nat) (X : String) (names : List String) : List Cond := (Bundle.ownAtoms0 own ic X names).filter vx_no
def vx_atS (own : String) (ic : Nat) (X : String) (names : List String) : List Cond := (Bundle.ownAtoms own ic X names).filter vx_no
/-- a word that the tables alone decide, or a good one -/
def vx_ot (w : Cond) : Bool := w.onTables || goodWord w
theorem vx_ot_at {args a' : Array Value} {s U : State} {w : Cond} (hW : s.WarmedH U.vm) (hvm : s.vm = U.vm) (hg : vx_ot w = true) (h : w.before args s = true) : w.before a' U = true := by
  simp only [vx_ot, Bool.or_eq_true] at hg
  rcases hg with hg | hg
  · exact va_tabs hg hvm h
  · exact word_at hW (good_of_word hg) h
/-- a list's words: the good ones out of the method's own list, the others by premises of their own -/
theorem vx_hat {args : Array Value} {s : State} {L B : List Cond} (h1 : ∀ w ∈ L.filter goodWord, w.before args s = true) (h2 : ∀ w ∈ L.filter (fun w => !goodWord w), w ∈ B) (h3 : ∀ w ∈ B, w.before args s = true) : ∀ w ∈ L, w.before args s = true := by
  intro w hw
  by_cases g : goodWord w = true
  · exact h1 w (List.mem_filter.mpr ⟨hw, g⟩)
  · refine h3 w (h2 w (List.mem_filter.mpr ⟨hw, ?_⟩))
    show (!goodWord w) = true
    cases hgw : goodWord w
    · rfl
    · exact absurd hgw g
theorem vx_c {args : Array Value} {s : State} {w : Cond} {B : List Cond} (h : w.before args s = true) (t : ∀ w ∈ B, w.before args s = true) : ∀ w' ∈ w :: B, w'.before args s = true := fun w' h' => (List.mem_cons.mp h').elim (fun e => by rw [e]; exact h) (t w')
theorem vx_n {args : Array Value} {s : State} : ∀ w ∈ ([] : List Cond), w.before args s = true := fun _ h => nomatch h
theorem vx_own {args : Array Value} {s : State} {L : List Cond} (h1 : ∀ w ∈ L.filter vx_no, w.before args s = true)
    (hU : (Cond.isRef (.static Bundle.tN "UNASSIGNED_STACK" Bundle.steD)).before args s = true) (hN : (Cond.isRef (.static Bundle.tN "SUPPRESSED_SENTINEL" Bundle.listD)).before args s = true)
    (lU : (Cond.laysStatic Bundle.tN "UNASSIGNED_STACK" Bundle.steD).before args s = true) (lN : (Cond.laysStatic Bundle.tN "SUPPRESSED_SENTINEL" Bundle.listD).before args s = true) : ∀ w ∈ L, w.before args s = true := by
  intro w hw
  by_cases e1 : w = .isRef (.static Bundle.tN "UNASSIGNED_STACK" Bundle.steD)
  · rw [e1]; exact hU
  · by_cases e2 : w = .isRef (.static Bundle.tN "SUPPRESSED_SENTINEL" Bundle.listD)
    · rw [e2]; exact hN
    · by_cases e3 : w = .laysStatic Bundle.tN "UNASSIGNED_STACK" Bundle.steD
      · rw [e3]; exact lU
      · by_cases e4 : w = .laysStatic Bundle.tN "SUPPRESSED_SENTINEL" Bundle.listD
        · rw [e4]; exact lN
        · exact h1 w (List.mem_filter.mpr ⟨hw, by unfold vx_no; rw [decide_eq_true e1, decide_eq_true e2, decide_eq_true e3, decide_eq_true e4]; rfl⟩)
/-- where a static field lies, its class's statics cell in H -/
def vx_L (C n d : String) (A : Nat → Prop) (U : State) (H : Heap) : Prop := ∃ (c : ClassId) (k : Class) (i : Nat) (f : Field) (a : Nat) (cell : Cell), U.vm.findClass C = some c ∧ U.fieldFound? C n d = some (c, k, i, f) ∧ f.isStatic = true ∧ k.statics = some a ∧ H[a]? = some cell ∧ cell.vm.isStatics = true ∧ cell.cls = c ∧ f.slot < cell.slots.size ∧ k.staticTypes[f.slot]? = some f.type ∧ ¬ A a
theorem vx_L.moved {C n d : String} {A : Nat → Prop} {u U : State} {H : Heap} (hvm : u.vm.Alike U.vm) (h : vx_L C n d A u H) : vx_L C n d A U H := by
  obtain ⟨c, k, i, f, a, cell, h1, h2, h3, h4, h5, h6, h7, h8, h9, h10⟩ := h
  obtain ⟨k', hi', he⟩ := State.fieldFound?_setVm hvm h2
  exact ⟨c, k', i, f, a, cell, by rw [hvm.findClass]; exact h1, hi', h3, by rw [he]; exact h4, h5, h6, h7, h8, by rw [he]; exact h9, h10⟩
theorem vx_L.kept {C n d : String} {A : Nat → Prop} {U : State} {H H1 : Heap} (h : vx_L C n d A U H) (hq : ∀ a : Nat, a < H.size → ¬ A a → H1[a]? = H[a]?) : vx_L C n d A U H1 := by
  obtain ⟨c, k, i, f, a, cell, h1, h2, h3, h4, h5, h6, h7, h8, h9, h10⟩ := h
  exact ⟨c, k, i, f, a, cell, h1, h2, h3, h4, by rw [hq a (Array.getElem?_eq_some_iff.mp h5).1 h10]; exact h5, h6, h7, h8, h9, h10⟩
theorem vx_L.narrow {C n d : String} {A B : Nat → Prop} {U : State} {H : Heap} (h : vx_L C n d A U H) (hAB : ∀ q, B q → A q) : vx_L C n d B U H := by
  obtain ⟨c, k, i, f, a, cell, h1, h2, h3, h4, h5, h6, h7, h8, h9, h10⟩ := h
  exact ⟨c, k, i, f, a, cell, h1, h2, h3, h4, h5, h6, h7, h8, h9, fun z => h10 (hAB _ z)⟩
theorem vx_L.word {C n d : String} {A : Nat → Prop} {s : State} {args : Array Value} (h : vx_L C n d A s s.heap) : (Cond.laysStatic C n d).before args s = true := by
  obtain ⟨c, k, i, f, a, cell, h1, h2, h3, h4, h5, h6, h7, h8, h9, -⟩ := h
  show (Cond.laysStatic C n d).holds args s none s [] = true
  exact Cond.laysStatic_of h1 h2 h3 h4 h5 h6 h7 h8 h9
/-- .. and what it holds: null or some reference -/
def vx_Zq (C n d : String) (A : Nat → Prop) (U : State) (H : Heap) : Prop := va_Zq C n d A U H ∧ vx_L C n d A U H
theorem vx_Zq.moved {C n d : String} {A : Nat → Prop} {u U : State} {H : Heap} (hvm : u.vm.Alike U.vm) (h : vx_Zq C n d A u H) : vx_Zq C n d A U H := ⟨va_Zq.moved hvm h.1, vx_L.moved hvm h.2⟩
theorem vx_Zq.kept {C n d : String} {A : Nat → Prop} {U : State} {H H1 : Heap} (h : vx_Zq C n d A U H) (hq : ∀ a : Nat, a < H.size → ¬ A a → H1[a]? = H[a]?) : vx_Zq C n d A U H1 := ⟨va_Zq.kept h.1 hq, vx_L.kept h.2 hq⟩
theorem vx_Zq.narrow {C n d : String} {A B : Nat → Prop} {U : State} {H : Heap} (h : vx_Zq C n d A U H) (hAB : ∀ q, B q → A q) : vx_Zq C n d B U H := ⟨va_Zq.narrow h.1 hAB, vx_L.narrow h.2 hAB⟩
theorem vx_Zqof {args : Array Value} {s : State} {C n d : String} {A : Nat → Prop} (hl : (Cond.laysStatic C n d).before args s = true) (hini : (Cond.initialized C).before args s = true) (h : (Cond.isRef (.static C n d)).before args s = true) (hA : ∀ a : Nat, a < s.heap.size → ¬ A a) : vx_Zq C n d A s s.heap := by
  refine ⟨va_Zqof hl hini h hA, ?_⟩
  obtain ⟨c, k, i, f, a, cell, h1, h2, h3, h4, h5, h6, h7, h8, h9⟩ := Cond.laysStatic_spec hl
  exact ⟨c, k, i, f, a, cell, h1, h2, h3, h4, h5, h6, h7, h8, h9, hA a (Array.getElem?_eq_some_iff.mp h5).1⟩
theorem vx_isRef {C n d : String} {v : Value} {A : Nat → Prop} {s : State} {args : Array Value} (h : va_Z C n d v A s s.heap) (hv : v.isRef = true) : (Cond.isRef (.static C n d)).before args s = true := by
  obtain ⟨cf, kf, fi, f, a, cell, h1, h2, h3, h4, h5, h6, h7, -⟩ := h
  have he : (Term.static C n d).eval args s none [] s = some v := by
    simp [Term.eval, State.fieldNamed?, h1, h2, h4, h5, h6, h7]
  simp only [Cond.before, Cond.holds, Cond.value, he]
  cases v <;> simp_all [Value.isRef]
theorem vx_isRefq {C n d : String} {A : Nat → Prop} {s : State} {args : Array Value} (h : va_Zq C n d A s s.heap) : (Cond.isRef (.static C n d)).before args s = true := by
  rcases h with h | ⟨t, h⟩
  · exact vx_isRef h rfl
  · exact vx_isRef h rfl
/-- the same frame, seen from here: as if the method were called anew in this heap -/
theorem vx_rebase {T : State} (X : Stand p l e R s m args below meth c T locs cells slots) {R' : Room} (hf : R'.frames ≤ R.frames) (hl : R'.locals ≤ R.locals) (hc : cells + R'.cells ≤ R.cells) (hs : slots + R'.slots ≤ R.slots) :
    Stand p l e R' ((T.setVm s.vm).setFrames (.invoking m args :: below)) m args below meth c T [] 0 0 := by
  have htop : (T.setVm s.vm).topJava?.isSome := X.here.top
  have hF : ((T.setVm s.vm).setFrames (.invoking m args :: below)).frames = .invoking m args :: below := State.frames_setFrames _ (State.cur_lt_of_top htop)
  obtain ⟨g₀, hg0⟩ := Option.isSome_iff_exists.mp htop
  obtain ⟨r, hr⟩ := State.topJava?_eq_some.mp hg0
  have hl9 : e.platform.stackLimits (T.setVm s.vm).me = e.platform.stackLimits s.me := X.limits
  have hb9 : (T.setVm s.vm).me.stackBytes = s.me.stackBytes := X.bytes
  refine ⟨X.admits, X.cas, X.clock, hF, ?_, X.hears, X.method, X.code, X.here, X.tail, X.warmed, ?_, ?_, ?_⟩
  · have h := X.room
    have hU : ((T.setVm s.vm).setFrames (.invoking m args :: below)).localsInUse = s.localsInUse := by
      rw [State.localsInUse_invoking hF (meth := meth) (c := c) X.method X.code, State.localsInUse_invoking X.frames X.method X.code]
    simp only [State.hasRoom, Bool.and_eq_true, decide_eq_true_eq] at h ⊢
    obtain ⟨⟨⟨⟨h1, h2, h3, h4, h5, h6⟩, h7⟩, h8⟩, h9⟩ := h
    rw [X.frames, List.length_cons] at h2 h3
    have q1 := X.heapSize
    have q2 := X.used
    simp only [hF, hU, List.length_cons, State.stackLimits_setFrames, State.stackBytes_setFrames, hl9, hb9]
    refine ⟨⟨⟨⟨by omega, by omega, by omega, by omega, by omega, h6⟩, ?_⟩, ?_⟩, X.book⟩
    · show T.heap.size + R'.cells ≤ e.platform.maxCells
      omega
    · show T.slotsUsed + R'.slots ≤ e.platform.maxSlots
      omega
  · rw [State.stackLimits_setFrames]; rfl
  · rw [State.stackBytes_setFrames]; rfl
  · refine ⟨?_, Nat.le_refl _, Nat.le_refl _, ?_, ?_, fun a c9 h9 => ⟨c9, h9, rfl, rfl, fun _ _ => rfl⟩⟩
    · obtain ⟨t, ht, -⟩ := State.frames_cons hr
      show T.setVm s.vm = { ((T.setVm s.vm).setFrames (.invoking m args :: below)).setFrames (T.setVm s.vm).frames with heap := T.heap, slotsUsed := T.slotsUsed }
      rw [State.setFrames_setFrames, State.setFrames_self ht]
      rfl
    · show T.slotsUsed = T.slotsUsed + ((T.heap.toList.drop T.heap.size).map (·.slots.size)).sum
      rw [List.drop_eq_nil_of_le (Nat.le_of_eq Array.length_toList)]
      rfl
    · show ((T.heap.toList.drop T.heap.size).map (·.slots.size)).sum ≤ 0
      rw [List.drop_eq_nil_of_le (Nat.le_of_eq Array.length_toList)]
      exact Nat.le_refl _
/-- 'throw new E()': new; dup; invokespecial; athrow -/
theorem vx_throw0 {cc : ByteArray} {pc : Nat} (hexec : p.tables.exec = Jvm.exec) (hb : c.code = cc) (hl : l.stackTraces = false) {own cls : String} {names : List String} {ik ic mc ms : Nat} {A : Nat → Prop}
    (hown : s.vm.findClass own = some m.cls) (hcls : Bundle.fit cls = true) (hnames : ∀ n ∈ names, Bundle.fit n = true)
    (hk : (Cond.classLink own ik cls).before args s = true) (hini : (Cond.initialized cls).before args s = true) (hat : ∀ w ∈ vx_at0 own ic cls names, w.before args s = true)
    (hgood : ∀ w ∈ Cond.classLink own ik cls :: Cond.initialized cls :: vx_at0 own ic cls names, vx_ot w = true)
    (hU : vx_Zq Bundle.tN "UNASSIGNED_STACK" Bundle.steD A s s.heap) (hN : vx_Zq Bundle.tN "SUPPRESSED_SENTINEL" Bundle.listD A s s.heap) (hS : va_S A s.heap H locs) (hsize : ls.size = c.maxLocals)
    (d0 : decode cc pc = .ok (.new ik, 3)) (d3 : decode cc (pc + 3) = .ok (.dup, 1)) (d4 : decode cc (pc + 4) = .ok (.invokespecial ic, 3)) (d7 : decode cc (pc + 7) = .ok (.athrow, 1))
    (hout : ∀ x ∈ c.exceptionTable.toList, covers x (pc + 7) = false)
    (hRframes : names.length + 3 < R.frames) (hRlocals : (rest.map fun v => v.category).sum + (13 * (names.length + 1) + 42) ≤ R.locals) (hRcells : cells + 1 ≤ R.cells) (hRslots : slots + 6 ≤ R.slots) (hlocks : meth.locks = false)
    (hx : ∀ t : State, s.vm.Alike t.vm → H.size ≤ t.heap.size → (∀ q : Nat, q < H.size → t.heap[q]? = H[q]?) → XC cls s t)
    (hf : ∀ z ∈ locs, free z.base) (hc : cells + 1 ≤ mc) (hs : slots + 6 ≤ ms) :
    W p l e R s m args below meth c H locs cells slots (vx_MQ below Qc XC args s mc ms free) (F0 m pc ls rest) := by
  intro T hT X
  have htr : e.platform.stackTraces = false := (show e.platform.stackTraces = l.stackTraces by rw [X.admits.platform]).trans hl
  have Y := vx_rebase X (R' := { frames := R.frames, locals := R.locals, cells := 1, slots := 6 }) (Nat.le_refl _) (Nat.le_refl _) hRcells hRslots
  obtain ⟨s', hA⟩ : ∃ z, z = (T.setVm s.vm).setFrames (.invoking m args :: below) := ⟨_, rfl⟩
  rw [← hA] at Y
  have hvm : s'.vm = s.vm := by rw [hA]; rfl
  have hhp : s'.heap = H := by rw [hA]; exact hT
  have hW0 : s.WarmedH s'.vm := by rw [hvm]; exact State.WarmedH.refl s
  have hat' : ∀ w ∈ vx_at0 own ic cls names, w.before args s' = true := fun w hw => vx_ot_at hW0 hvm.symm (hgood w (List.mem_cons_of_mem _ (List.mem_cons_of_mem _ hw))) (hat w hw)
  have hk' : (Cond.classLink own ik cls).before args s' = true := vx_ot_at hW0 hvm.symm (hgood _ List.mem_cons_self) hk
  have hini' : (Cond.initialized cls).before args s' = true := vx_ot_at hW0 hvm.symm (hgood _ (List.mem_cons_of_mem _ List.mem_cons_self)) hini
  have hU' : vx_Zq Bundle.tN "UNASSIGNED_STACK" Bundle.steD A s' s'.heap := by rw [hhp]; exact vx_Zq.moved hW0.alike (hU.kept hS.2.1)
  have hN' : vx_Zq Bundle.tN "SUPPRESSED_SENTINEL" Bundle.listD A s' s'.heap := by rw [hhp]; exact vx_Zq.moved hW0.alike (hN.kept hS.2.1)
  have h : ∀ w ∈ Bundle.ownAtoms0 own ic cls names, w.before args s' = true := vx_own hat' (vx_isRefq hU'.1) (vx_isRefq hN'.1) hU'.2.word hN'.2.word
  have hown' : s'.vm.findClass own = some m.cls := by rw [hvm]; exact hown
  have hins : (Cond.instantiable cls 6).before args s' = true := h _ (by simp [Bundle.ownAtoms0])
  obtain ⟨vm₁, cX, kX, hfX, hkX, -, -, X₁, st1⟩ := Y.newCold hexec (own := own) (C := cls) (index := ik) (n := 6) hown' hk' hins hini'
    (g := F0 m pc ls rest) rfl (by rw [hb]; exact d0) (Nat.le_refl _) (Nat.le_refl _)
  generalize hT1 : (T.setVm vm₁).pushCell { cls := cX, slots := kX.instanceTypes.map defaultValue, vm := .none } = T1 at X₁ st1
  have hcat : (Value.ref T.heap.size).category = 1 := rfl
  have hcellA : T1.heap[T.heap.size]? = some (freshCell cX kX) := by rw [← hT1]; exact State.heap_pushCell_size _ _
  have d3' : decode c.code (pc + 3) = .ok (.dup, 1) := by rw [hb]; exact d3
  obtain ⟨U, hsteps, hrun, hend, hW, hsame, ce, hce, hO⟩ := X₁.ctorThrow0 hexec htr (own := own) (cls := cls) (names := names) (ic := ic) hown' hcls hnames h (fun x hx => nomatch hx) hfX hkX hcellA (by rw [hhp, hT]; exact Nat.le_refl _)
    (g := { method := m, pc := pc + 4, locals := ls, stack := .ref T.heap.size :: .ref T.heap.size :: rest, locked := none }) rfl hsize rfl rfl (rest := rest) rfl
    (by rw [hb]; exact d4) (by rw [hb]; exact d7) hout hRframes (by simp only [List.map_cons, List.sum_cons, hcat]; omega) hlocks
  obtain ⟨f1, f2⟩ := vx_frame hsame
  rw [hhp] at f1 f2
  have hWs : s.WarmedH U.vm := State.WarmedH.trans hW0 hW
  have hcl : s.vm.findClass cls = some ce.cls := by
    have h9 := hO.cls
    rw [hvm] at h9
    exact h9
  have hall : s.sameButNew ({ U with vm := s.vm } : State) locs mc ms := by
    subst hA
    obtain ⟨e1, e2⟩ := hsame
    rw [State.setFrames_setFrames] at e1
    have h2 : (T.setVm s.vm).sameButNew ({ U with vm := s.vm } : State) [] (0 + 1) (0 + 6) := ⟨e1, e2⟩
    have h3 := X.same.trans h2
    rw [List.append_nil] at h3
    exact h3.mono hc hs
  refine ⟨U, ?_, .threw T.heap.size, hrun, hend, Or.inr ⟨T.heap.size, rfl, cls, ce, locs, hx U hWs.alike f1 (fun q hq => f2 q hq (fun z hz => nomatch hz)), hce, hO.vm, hcl, hWs, hall, hf⟩⟩
  refine st1 _ ?_
  show Steps p.tables e below (T1.setTop { method := m, pc := pc + 3, locals := ls, stack := .ref T.heap.size :: rest, locked := none }) _
  jvm_step X₁.here [X₁.here.top, hexec, d3', Value.category]
  exact hsteps
/-- 'throw new E("text")': new; dup; ldc; invokespecial; athrow -/
theorem vx_throwS {cc : ByteArray} {pc : Nat} (hexec : p.tables.exec = Jvm.exec) (hb : c.code = cc) (hl : l.stackTraces = false) {own cls text : String} {names : List String} {ik is ic mc ms sa : Nat} {A : Nat → Prop}
    (hown : s.vm.findClass own = some m.cls) (hcls : Bundle.fit cls = true) (hnames : ∀ n ∈ names, Bundle.fit n = true)
    (hk : (Cond.classLink own ik cls).before args s = true) (hini : (Cond.initialized cls).before args s = true) (hstr : vk_R own is text sa s) (hat : ∀ w ∈ vx_atS own ic cls names, w.before args s = true)
    (hgood : ∀ w ∈ Cond.classLink own ik cls :: Cond.initialized cls :: vx_atS own ic cls names, vx_ot w = true)
    (hU : vx_Zq Bundle.tN "UNASSIGNED_STACK" Bundle.steD A s s.heap) (hN : vx_Zq Bundle.tN "SUPPRESSED_SENTINEL" Bundle.listD A s s.heap) (hS : va_S A s.heap H locs) (hsize : ls.size = c.maxLocals)
    (d0 : decode cc pc = .ok (.new ik, 3)) (d3 : decode cc (pc + 3) = .ok (.dup, 1)) (d4 : decode cc (pc + 4) = .ok (.ldc is, 2)) (d6 : decode cc (pc + 6) = .ok (.invokespecial ic, 3)) (d9 : decode cc (pc + 9) = .ok (.athrow, 1))
    (hout : ∀ x ∈ c.exceptionTable.toList, covers x (pc + 9) = false)
    (hRframes : names.length + 3 < R.frames) (hRlocals : (rest.map fun v => v.category).sum + (13 * (names.length + 1) + 43) ≤ R.locals) (hRcells : cells + 1 ≤ R.cells) (hRslots : slots + 6 ≤ R.slots) (hlocks : meth.locks = false)
    (hx : ∀ t : State, s.vm.Alike t.vm → H.size ≤ t.heap.size → (∀ q : Nat, q < H.size → t.heap[q]? = H[q]?) → XC cls s t)
    (hf : ∀ z ∈ locs, free z.base) (hc : cells + 1 ≤ mc) (hs : slots + 6 ≤ ms) :
    W p l e R s m args below meth c H locs cells slots (vx_MQ below Qc XC args s mc ms free) (F0 m pc ls rest) := by
  intro T hT X
  have htr : e.platform.stackTraces = false := (show e.platform.stackTraces = l.stackTraces by rw [X.admits.platform]).trans hl
  have Y := vx_rebase X (R' := { frames := R.frames, locals := R.locals, cells := 1, slots := 6 }) (Nat.le_refl _) (Nat.le_refl _) hRcells hRslots
  obtain ⟨s', hA⟩ : ∃ z, z = (T.setVm s.vm).setFrames (.invoking m args :: below) := ⟨_, rfl⟩
  rw [← hA] at Y
  have hvm : s'.vm = s.vm := by rw [hA]; rfl
  have hhp : s'.heap = H := by rw [hA]; exact hT
  have hW0 : s.WarmedH s'.vm := by rw [hvm]; exact State.WarmedH.refl s
  have hat' : ∀ w ∈ vx_atS own ic cls names, w.before args s' = true := fun w hw => vx_ot_at hW0 hvm.symm (hgood w (List.mem_cons_of_mem _ (List.mem_cons_of_mem _ hw))) (hat w hw)
  have hk' : (Cond.classLink own ik cls).before args s' = true := vx_ot_at hW0 hvm.symm (hgood _ List.mem_cons_self) hk
  have hini' : (Cond.initialized cls).before args s' = true := vx_ot_at hW0 hvm.symm (hgood _ (List.mem_cons_of_mem _ List.mem_cons_self)) hini
  have hU' : vx_Zq Bundle.tN "UNASSIGNED_STACK" Bundle.steD A s' s'.heap := by rw [hhp]; exact vx_Zq.moved hW0.alike (hU.kept hS.2.1)
  have hN' : vx_Zq Bundle.tN "SUPPRESSED_SENTINEL" Bundle.listD A s' s'.heap := by rw [hhp]; exact vx_Zq.moved hW0.alike (hN.kept hS.2.1)
  have h : ∀ w ∈ Bundle.ownAtoms own ic cls names, w.before args s' = true := vx_own hat' (vx_isRefq hU'.1) (vx_isRefq hN'.1) hU'.2.word hN'.2.word
  have hown' : s'.vm.findClass own = some m.cls := by rw [hvm]; exact hown
  have hins : (Cond.instantiable cls 6).before args s' = true := h _ (by simp [Bundle.ownAtoms])
  obtain ⟨vm₁, cX, kX, hfX, hkX, -, -, X₁, st1⟩ := Y.newCold hexec (own := own) (C := cls) (index := ik) (n := 6) hown' hk' hins hini'
    (g := F0 m pc ls rest) rfl (by rw [hb]; exact d0) (Nat.le_refl _) (Nat.le_refl _)
  generalize hT1 : (T.setVm vm₁).pushCell { cls := cX, slots := kX.instanceTypes.map defaultValue, vm := .none } = T1 at X₁ st1
  have hcat : (Value.ref T.heap.size).category = 1 := rfl
  have hcellA : T1.heap[T.heap.size]? = some (freshCell cX kX) := by rw [← hT1]; exact State.heap_pushCell_size _ _
  have d3' : decode c.code (pc + 3) = .ok (.dup, 1) := by rw [hb]; exact d3
  have d4' : decode c.code (pc + 4) = .ok (.ldc is, 2) := by rw [hb]; exact d4
  have hstr' : vk_R own is text sa s' := vk_R.warm hW0 hstr
  obtain ⟨U, hsteps, hrun, hend, hW, hsame, ce, hce, hO⟩ := X₁.ctorThrowS hexec htr (own := own) (cls := cls) (names := names) (ic := ic) hown' hcls hnames h (fun x hx => nomatch hx) hfX hkX hcellA (by rw [hhp, hT]; exact Nat.le_refl _) (msg := .ref sa) rfl
    (g := { method := m, pc := pc + 6, locals := ls, stack := .ref sa :: .ref T.heap.size :: .ref T.heap.size :: rest, locked := none }) rfl hsize rfl rfl (rest := rest) rfl
    (by rw [hb]; exact d6) (by rw [hb]; exact d9) hout hRframes (by simp only [List.map_cons, List.sum_cons, hcat]; omega) hlocks
  obtain ⟨f1, f2⟩ := vx_frame hsame
  rw [hhp] at f1 f2
  have hWs : s.WarmedH U.vm := State.WarmedH.trans hW0 hW
  have hcl : s.vm.findClass cls = some ce.cls := by
    have h9 := hO.cls
    rw [hvm] at h9
    exact h9
  have hall : s.sameButNew ({ U with vm := s.vm } : State) locs mc ms := by
    subst hA
    obtain ⟨e1, e2⟩ := hsame
    rw [State.setFrames_setFrames] at e1
    have h2 : (T.setVm s.vm).sameButNew ({ U with vm := s.vm } : State) [] (0 + 1) (0 + 6) := ⟨e1, e2⟩
    have h3 := X.same.trans h2
    rw [List.append_nil] at h3
    exact h3.mono hc hs
  refine ⟨U, ?_, .threw T.heap.size, hrun, hend, Or.inr ⟨T.heap.size, rfl, cls, ce, locs, hx U hWs.alike f1 (fun q hq => f2 q hq (fun z hz => nomatch hz)), hce, hO.vm, hcl, hWs, hall, hf⟩⟩
  refine st1 _ ?_
  show Steps p.tables e below (T1.setTop { method := m, pc := pc + 3, locals := ls, stack := .ref T.heap.size :: rest, locked := none }) _
  jvm_step X₁.here [X₁.here.top, hexec, d3', Value.category]
  exact X₁.ldcString hexec (own := own) (text := text) (index := is) (a := sa) hown' hstr'.1 hstr'.2
    (g := { method := m, pc := pc + 4, locals := ls, stack := .ref T.heap.size :: .ref T.heap.size :: rest, locked := none }) rfl d4' _ hsteps
/-- 'throw new E("text")', the text by a wide index -/
theorem vx_throwSW {cc : ByteArray} {pc : Nat} (hexec : p.tables.exec = Jvm.exec) (hb : c.code = cc) (hl : l.stackTraces = false) {own cls text : String} {names : List String} {ik is ic mc ms sa : Nat} {A : Nat → Prop}
    (hown : s.vm.findClass own = some m.cls) (hcls : Bundle.fit cls = true) (hnames : ∀ n ∈ names, Bundle.fit n = true)
    (hk : (Cond.classLink own ik cls).before args s = true) (hini : (Cond.initialized cls).before args s = true) (hstr : vk_R own is text sa s) (hat : ∀ w ∈ vx_atS own ic cls names, w.before args s = true)
    (hgood : ∀ w ∈ Cond.classLink own ik cls :: Cond.initialized cls :: vx_atS own ic cls names, vx_ot w = true)
    (hU : vx_Zq Bundle.tN "UNASSIGNED_STACK" Bundle.steD A s s.heap) (hN : vx_Zq Bundle.tN "SUPPRESSED_SENTINEL" Bundle.listD A s s.heap) (hS : va_S A s.heap H locs) (hsize : ls.size = c.maxLocals)
    (d0 : decode cc pc = .ok (.new ik, 3)) (d3 : decode cc (pc + 3) = .ok (.dup, 1)) (d4 : decode cc (pc + 4) = .ok (.ldc_w is, 3)) (d7 : decode cc (pc + 7) = .ok (.invokespecial ic, 3)) (d10 : decode cc (pc + 10) = .ok (.athrow, 1))
    (hout : ∀ x ∈ c.exceptionTable.toList, covers x (pc + 10) = false)
    (hRframes : names.length + 3 < R.frames) (hRlocals : (rest.map fun v => v.category).sum + (13 * (names.length + 1) + 43) ≤ R.locals) (hRcells : cells + 1 ≤ R.cells) (hRslots : slots + 6 ≤ R.slots) (hlocks : meth.locks = false)
    (hx : ∀ t : State, s.vm.Alike t.vm → H.size ≤ t.heap.size → (∀ q : Nat, q < H.size → t.heap[q]? = H[q]?) → XC cls s t)
    (hf : ∀ z ∈ locs, free z.base) (hc : cells + 1 ≤ mc) (hs : slots + 6 ≤ ms) :
    W p l e R s m args below meth c H locs cells slots (vx_MQ below Qc XC args s mc ms free) (F0 m pc ls rest) := by
  intro T hT X
  have htr : e.platform.stackTraces = false := (show e.platform.stackTraces = l.stackTraces by rw [X.admits.platform]).trans hl
  have Y := vx_rebase X (R' := { frames := R.frames, locals := R.locals, cells := 1, slots := 6 }) (Nat.le_refl _) (Nat.le_refl _) hRcells hRslots
  obtain ⟨s', hA⟩ : ∃ z, z = (T.setVm s.vm).setFrames (.invoking m args :: below) := ⟨_, rfl⟩
  rw [← hA] at Y
  have hvm : s'.vm = s.vm := by rw [hA]; rfl
  have hhp : s'.heap = H := by rw [hA]; exact hT
  have hW0 : s.WarmedH s'.vm := by rw [hvm]; exact State.WarmedH.refl s
  have hat' : ∀ w ∈ vx_atS own ic cls names, w.before args s' = true := fun w hw => vx_ot_at hW0 hvm.symm (hgood w (List.mem_cons_of_mem _ (List.mem_cons_of_mem _ hw))) (hat w hw)
  have hk' : (Cond.classLink own ik cls).before args s' = true := vx_ot_at hW0 hvm.symm (hgood _ List.mem_cons_self) hk
  have hini' : (Cond.initialized cls).before args s' = true := vx_ot_at hW0 hvm.symm (hgood _ (List.mem_cons_of_mem _ List.mem_cons_self)) hini
  have hU' : vx_Zq Bundle.tN "UNASSIGNED_STACK" Bundle.steD A s' s'.heap := by rw [hhp]; exact vx_Zq.moved hW0.alike (hU.kept hS.2.1)
  have hN' : vx_Zq Bundle.tN "SUPPRESSED_SENTINEL" Bundle.listD A s' s'.heap := by rw [hhp]; exact vx_Zq.moved hW0.alike (hN.kept hS.2.1)
  have h : ∀ w ∈ Bundle.ownAtoms own ic cls names, w.before args s' = true := vx_own hat' (vx_isRefq hU'.1) (vx_isRefq hN'.1) hU'.2.word hN'.2.word
  have hown' : s'.vm.findClass own = some m.cls := by rw [hvm]; exact hown
  have hins : (Cond.instantiable cls 6).before args s' = true := h _ (by simp [Bundle.ownAtoms])
  obtain ⟨vm₁, cX, kX, hfX, hkX, -, -, X₁, st1⟩ := Y.newCold hexec (own := own) (C := cls) (index := ik) (n := 6) hown' hk' hins hini'
    (g := F0 m pc ls rest) rfl (by rw [hb]; exact d0) (Nat.le_refl _) (Nat.le_refl _)
  generalize hT1 : (T.setVm vm₁).pushCell { cls := cX, slots := kX.instanceTypes.map defaultValue, vm := .none } = T1 at X₁ st1
  have hcat : (Value.ref T.heap.size).category = 1 := rfl
  have hcellA : T1.heap[T.heap.size]? = some (freshCell cX kX) := by rw [← hT1]; exact State.heap_pushCell_size _ _
  have d3' : decode c.code (pc + 3) = .ok (.dup, 1) := by rw [hb]; exact d3
  have d4' : decode c.code (pc + 4) = .ok (.ldc_w is, 3) := by rw [hb]; exact d4
  have hstr' : vk_R own is text sa s' := vk_R.warm hW0 hstr
  obtain ⟨U, hsteps, hrun, hend, hW, hsame, ce, hce, hO⟩ := X₁.ctorThrowS hexec htr (own := own) (cls := cls) (names := names) (ic := ic) hown' hcls hnames h (fun x hx => nomatch hx) hfX hkX hcellA (by rw [hhp, hT]; exact Nat.le_refl _) (msg := .ref sa) rfl
    (g := { method := m, pc := pc + 7, locals := ls, stack := .ref sa :: .ref T.heap.size :: .ref T.heap.size :: rest, locked := none }) rfl hsize rfl rfl (rest := rest) rfl
    (by rw [hb]; exact d7) (by rw [hb]; exact d10) hout hRframes (by simp only [List.map_cons, List.sum_cons, hcat]; omega) hlocks
  obtain ⟨f1, f2⟩ := vx_frame hsame
  rw [hhp] at f1 f2
  have hWs : s.WarmedH U.vm := State.WarmedH.trans hW0 hW
  have hcl : s.vm.findClass cls = some ce.cls := by
    have h9 := hO.cls
    rw [hvm] at h9
    exact h9
  have hall : s.sameButNew ({ U with vm := s.vm } : State) locs mc ms := by
    subst hA
    obtain ⟨e1, e2⟩ := hsame
    rw [State.setFrames_setFrames] at e1
    have h2 : (T.setVm s.vm).sameButNew ({ U with vm := s.vm } : State) [] (0 + 1) (0 + 6) := ⟨e1, e2⟩
    have h3 := X.same.trans h2
    rw [List.append_nil] at h3
    exact h3.mono hc hs
  refine ⟨U, ?_, .threw T.heap.size, hrun, hend, Or.inr ⟨T.heap.size, rfl, cls, ce, locs, hx U hWs.alike f1 (fun q hq => f2 q hq (fun z hz => nomatch hz)), hce, hO.vm, hcl, hWs, hall, hf⟩⟩
  refine st1 _ ?_
  show Steps p.tables e below (T1.setTop { method := m, pc := pc + 3, locals := ls, stack := .ref T.heap.size :: rest, locked := none }) _
  jvm_step X₁.here [X₁.here.top, hexec, d3', Value.category]
  exact X₁.ldcStringW hexec (own := own) (text := text) (index := is) (a := sa) hown' hstr'.1 hstr'.2
    (g := { method := m, pc := pc + 4, locals := ls, stack := .ref T.heap.size :: .ref T.heap.size :: rest, locked := none }) rfl d4' _ hsteps
end Ends
section Bodies
variable {l : Launch}
theorem vx_ofW {y : MethodName} {ws ws' : List Cond} {rm : Room} {Pc : Array Value → State → Prop} {Qc : Array Value → State → Outcome → State → Prop} {XC : String → State → State → Prop} {mc ms : Nat} {free : Addr → Prop} {cc : ByteArray} {maxL : Nat} {ret : Option FieldType}
    (hy : plainName y.cls = true) (hw : ws = Cond.code y cc maxL ret :: ws')
    (body : ∀ p e s m args below meth c s₁, BodyLoose p l y (headSpec ws rm) cc maxL ret e s m args below meth c s₁ → c.maxLocals = maxL → (∀ x ∈ c.exceptionTable.toList, False) → Pc args s →
      W p l e (headSpec ws rm).room s m args below meth c s.heap [] 0 0 (vx_MQ below Qc XC args s mc ms free) (entryFrame m args maxL)) : vx_Met l y ws rm Pc Qc XC mc ms free := by
  refine MetFree.of_bodyS (code := cc) (maxLocals := maxL) (ret := ret) hy ?_ ?_
  · intro args s m h hn
    obtain ⟨meth, c, h1, h2, h3, h4, h5, h6, -, -⟩ := Cond.code_spec hn (atoms_spec (ws := ws) h _ (by rw [hw]; exact List.mem_cons_self))
    exact ⟨meth, c, h1, h2, h3, h4, h5, h6⟩
  · intro p e s m args below meth c s₁ B hml hP _
    have hh0 : s₁.heap = s.heap := by rw [B.state]; rfl
    have ht : ∀ x ∈ c.exceptionTable.toList, False := by
      obtain ⟨meth9, c9, h1, h2, -, -, -, -, h7, -⟩ := Cond.code_spec B.named (atoms_spec (ws := ws) B.pre _ (by rw [hw]; exact List.mem_cons_self))
      cases Option.some.inj (h1.symm.trans B.method)
      cases Option.some.inj (h2.symm.trans (Stand.of_body B).code)
      intro x hx
      rw [Array.isEmpty_iff.mp h7] at hx
      cases hx
    obtain ⟨t, a1, o, b1, b2, b3⟩ := body p e s m args below meth c s₁ B hml ht hP s₁ hh0 (Stand.of_body B)
    exact ⟨t, o, a1, b1, b2, b3⟩
/-- the table of a body with handlers -/
theorem vx_table {p : Program} {x y : MethodName} {S : Spec} {cc bytes : ByteArray} {maxL maxL' : Nat} {ret ret' : Option FieldType} {e : Env} {s s₁ : State} {m : MethodId} {args : Array Value} {below : List Frame} {meth : Method} {c : Code} {hh : List (Nat × Nat × Nat × Nat)}
    (B : BodyLoose p l y S cc maxL ret e s m args below meth c s₁) (h : (Cond.codeWith y bytes maxL' ret' hh).before args s = true) : c.exceptionTable.toList = tableOf hh := by
  obtain ⟨m9, meth9, c9, hn9, h1, h2, -, -, h6, -⟩ := Cond.codeWith_spec h
  cases Option.some.inj (hn9.symm.trans B.named)
  cases Option.some.inj (h1.symm.trans B.method)
  cases Option.some.inj (h2.symm.trans (Stand.of_body B).code)
  rw [← h6, table_eq]
end Bodies
end VXA
/-! ===== END ===== -/
/-! ===== BEGIN a static call of a method with an exception table ===== -/
section VXS
variable {p : Program} {l : Launch} {e : Env} {R : Room} {s : State} {m : MethodId} {args : Array Value} {below : List Frame} {meth : Method} {c : Code} {T : State} {H : Heap} {locs : List Loc} {cells slots : Nat}
abbrev vx_CSW (R : Room) (s : State) (args : Array Value) (own : String) (index : Nat) (y : MethodName) (bytes : ByteArray) (maxL : Nat) (ret : Option FieldType) (hh : List (Nat × Nat × Nat × Nat)) (ws : List Cond) (rm : Room) (mc ms n : Nat) : Prop :=
  (rm.cells = mc ∧ rm.slots = ms ∧ rm.frames + 1 ≤ R.frames ∧ 8 + (maxL + 11) + rm.locals ≤ R.locals ∧ (∀ w ∈ ws, ∀ (a' : Array Value) (U : State), s.WarmedH U.vm → w.before a' U = true) ∧ Cond.codeWith y bytes maxL ret hh ∈ ws) ∧
  (Cond.codeWith y bytes maxL ret hh).before args s = true ∧ (Cond.initialized y.cls).before args s = true ∧ (y.cls ≠ "java/lang/invoke/MethodHandle" ∧ y.cls ≠ "java/lang/invoke/VarHandle") ∧
  (∀ sig, parseMethodDescriptor y.desc = some sig → n = sig.parameters.length) ∧ (Cond.methodLink own index y).before args s = true ∧ (Cond.static y).before args s = true
theorem vx_cwSW {own : String} {index maxL mc ms : Nat} {y : MethodName} {bytes : ByteArray} {ret : Option FieldType} {hh : List (Nat × Nat × Nat × Nat)} {Ts ws ws' : List Cond} {rm : Room} (n : Nat) (ht : ∀ w ∈ Ts, w.before args s = true) (hT : GoodIn Ts (va_wsS own index y ws)) (hw : ws = Cond.codeWith y bytes maxL ret hh :: ws') (hrc : rm.cells = mc) (hrs : rm.slots = ms)
    (hd : y.cls ≠ "java/lang/invoke/MethodHandle" ∧ y.cls ≠ "java/lang/invoke/VarHandle" ∧ (parseMethodDescriptor y.desc).map (fun d => d.parameters.length) = some n) (hR : rm.frames + 1 ≤ R.frames ∧ 8 + (maxL + 11) + rm.locals ≤ R.locals) :
    vx_CSW R s args own index y bytes maxL ret hh ws rm mc ms n := by
  have ok : ∀ w ∈ va_wsS own index y ws, w.before args s = true := fun w h => ht w (hT w h).1
  have hG : GoodIn Ts ws := fun w h => hT w (by unfold va_wsS; exact List.mem_append_right _ h)
  have hc : Cond.codeWith y bytes maxL ret hh ∈ ws := by rw [hw]; exact List.mem_cons_self
  refine ⟨⟨hrc, hrs, hR.1, hR.2, pay_in ht hG, hc⟩, ht _ (hG _ hc).1, ok _ (by simp [va_wsS]), ⟨hd.1, hd.2.1⟩, fun sig h => ?_, ok _ (by simp [va_wsS]), ok _ (by simp [va_wsS])⟩
  have h2 := hd.2.2
  rw [h] at h2
  exact (Option.some.inj h2).symm
theorem vx_callSW (X : Stand p l e R s m args below meth c T locs cells slots) (hexec : p.tables.exec = Jvm.exec) {own : String} {index : Nat} {y : MethodName} {bytes : ByteArray} {maxL : Nat} {ret : Option FieldType} {hh : List (Nat × Nat × Nat × Nat)}
    (hown : s.vm.findClass own = some m.cls) (hlink : (Cond.methodLink own index y).before args s = true) (hstat : (Cond.static y).before args s = true) (hinit : (Cond.initialized y.cls).before args s = true)
    (hcode : (Cond.codeWith y bytes maxL ret hh).before args s = true) (hy : y.cls ≠ "java/lang/invoke/MethodHandle" ∧ y.cls ≠ "java/lang/invoke/VarHandle")
    {W9 : Nat} {Pre : Pt → Array Value → Prop} {Post : Pt → Array Value → Option Value → Pt → Prop} (hK : Back l R p e below s args y 3 W9 Pre Post)
    {g : JFrame} (hg : g.method = m) (hsize : g.locals.size = c.maxLocals) {argsL rest : List Value} (hlen : ∀ sig, parseMethodDescriptor y.desc = some sig → argsL.length = sig.parameters.length)
    (hstack : g.stack = argsL.reverse ++ rest) (hW : 2 * g.monitorRoom + (rest.map fun v => v.category).sum ≤ W9) (hdg : decode c.code g.pc = .ok (.invokestatic index, 3))
    (hpre : ∀ vm₁, s.WarmedH vm₁ → Pre ⟨T.setVm vm₁, locs, cells, slots⟩ argsL.toArray) :
    ∃ (v : Option Value) (vm₁ : Vm) (B : Pt), s.WarmedH vm₁ ∧ Stand p l e R s m args below meth c B.U B.locs B.cells B.slots ∧ Post ⟨T.setVm vm₁, locs, cells, slots⟩ argsL.toArray v B ∧
      ∀ target, Steps p.tables e below (B.U.setTop { g with pc := g.pc + 3, stack := v.toList ++ rest }) target → Steps p.tables e below (T.setTop g) target := by
  obtain ⟨mk, methM, cM, hnamed, hmethM, -, -, -, -, -, -, hsigM⟩ := Cond.codeWith_spec hcode
  have hstatic : methM.isStatic = true := Cond.static_spec hnamed hmethM hstat
  obtain ⟨kP, hkP, -⟩ := className_of_methodNamed hnamed
  have hinitP : kP.init = .initialized := Cond.initialized_spec (findClass_of_methodNamed hnamed) hkP hinit
  obtain ⟨vm₁, X₁, hstep₁⟩ := X.invokestatic hexec hown hlink hnamed hmethM hstatic hkP hinitP hy (g := g) hg (argsL := argsL) (rest := rest) (hlen _ hsigM) hstack hdg
  obtain ⟨v, B, X', hpost, hsteps⟩ := hK m meth c ⟨T.setVm vm₁, locs, cells, slots⟩ { g with stack := rest } (.invokestatic index) mk argsL.toArray X₁ hg hsize hdg hW (X₁.named hnamed) (hpre vm₁ X₁.warmed)
  exact ⟨v, vm₁, B, X₁.warmed, X', hpost, fun target h => hstep₁ _ fun acts => by rw [doInvoke_state]; exact hsteps.trans h⟩
theorem vx_runSW {y : MethodName} {bytes cc : ByteArray} {maxL nL mc ms n index : Nat} {ret : Option FieldType} {hh : List (Nat × Nat × Nat × Nat)} {ws : List Cond} {rm : Room} {Pc : Array Value → State → Prop} {Qc : Array Value → State → Outcome → State → Prop} {free : Addr → Prop} {Ts : List Cond} {own : String} {As rest : List Value} {g : JFrame}
    (S : CallFix p m c cc nL s args Ts own) (hM : Met l y ws rm Pc Qc mc ms free) (cw : vx_CSW R s args own index y bytes maxL ret hh ws rm mc ms n) (hp : PreS s H Pc As)
    (hg : g.method = m) (hn : As.length = n) (hsize : g.locals.size = nL) (hstack : g.stack = As.reverse ++ rest) (hW : 2 * g.monitorRoom + (rest.map fun v => v.category).sum ≤ 8) (hdg : decode cc g.pc = .ok (.invokestatic index, 3)) (hf : cells + mc ≤ R.cells ∧ slots + ms ≤ R.slots) :
    va_Run p l e R s m args below meth c H locs cells slots mc ms g rest (Qc As.toArray) (free) := by
  obtain ⟨⟨hrc, hrs, hfr, hlo, hws, hcw⟩, hcode, hini, hy, hlen, hl, hstt⟩ := cw
  have hK : Back l R p e below s args y 3 8 (PreOf R mc ms Pc) (PostOf Qc mc ms free) := va_backW (hh := hh) (bytes := bytes) (maxL := maxL) (ret := ret) hM hp.1 hrc hrs hfr hlo hws hcw (fun a' U hW => word_at hW (Or.inl (by first | rfl | simp [Cond.onTables, Cond.keeps, Cond.steady])) hini)
  obtain ⟨hx, hb, hml, ho, -⟩ := S
  intro T hT X
  obtain ⟨v, vm₁, ⟨U', l2, c2, s2⟩, hW₁, X', ⟨g', mk, t, L, e1, e2, hq, h1, hL, h2, h3⟩, st⟩ := vx_callSW X hx (hh := hh) (bytes := bytes) (maxL := maxL) (ret := ret) ho hl hstt hini hcode hy hK hg (hsize.trans hml.symm) (argsL := As) (rest := rest) (fun sig h => hn.trans (hlen sig h)) hstack hW (by rw [hb]; exact hdg)
    (fun vm₁ hW₁ => ⟨hf.1, hf.2, hp.2 (T.setVm vm₁) hT hW₁⟩)
  dsimp only [Pt.U, Pt.locs, Pt.cells, Pt.slots] at X' e1 e2 h1 h2 h3 st
  subst h1; subst h2; subst h3
  exact ⟨v, (T.setVm vm₁).calling g' mk As.toArray, t, U', L, hT, X', hL, e1, e2, hq, st⟩
/-- not caught here, past rows that name other classes: it goes on to the caller -/
theorem vx_outP {p : Program} {l : Launch} {e : Env} {R : Room} {s : State} {m : MethodId} {args : Array Value} {below : List Frame} {meth : Method} {c : Code} {H : Heap} {locs : List Loc} {cells slots : Nat} {free : Addr → Prop} {ls : Array Slot} {rest : List Value} {Qc : Array Value → State → Outcome → State → Prop} {XC : String → State → State → Prop}
    {pc : Nat} {own E : String} {ce : Cell} {q : Addr} {mc ms : Nat} (hown : s.vm.findClass own = some m.cls) (hlocks : meth.locks = false)
    (hpass : ∀ z ∈ c.exceptionTable.toList, covers z pc = false ∨ (z.catchType ≠ 0 ∧ ∃ nm : String, (Cond.classLink own z.catchType nm).before args s = true ∧ va_Nc E nm s)) (hcell : H[q]? = some ce) (hv : ce.vm = .none) (hcl : s.vm.findClass E = some ce.cls)
    (hx : ∀ t : State, t.heap = H → s.vm.Alike t.vm → XC E s t) (hf : ∀ z ∈ locs, free z.base) (hc : cells ≤ mc) (hs : slots ≤ ms) :
    vx_W p l e R s m args below meth c H locs cells slots (vx_MQ below Qc XC args s mc ms free) (F0 m pc ls rest) q := by
  intro T hT X
  have hpl : e.platform.magicAccessors = ({} : Platform).magicAccessors := by rw [X.admits.platform]
  obtain ⟨vm', hW', X', st⟩ := X.outThrough hlocks q (g := F0 m pc ls rest) rfl rfl rfl (cell := ce) (by rw [hT]; exact hcell) (by rw [hv]; rfl)
    (by obtain ⟨k9, h9, -⟩ := Vm.findClass_spec hcl; exact ⟨k9, h9⟩) (fun z hz => by
      rcases hpass z hz with h | ⟨hz0, nm, hl1, hn1⟩
      · exact Or.inl h
      · obtain ⟨c6, hc6, hcl6⟩ := Cond.classLink_spec hown hl1 e.platform hpl
        obtain ⟨a8, b8, h1, h2, h3⟩ := hn1
        cases Option.some.inj (h1.symm.trans hcl)
        cases Option.some.inj (h2.symm.trans hc6)
        exact Or.inr ⟨hz0, _, hcl6, h3⟩)
  obtain ⟨g₀, hfr⟩ := X'.frames_eq
  have hcell9 : ((T.setVm vm').setFrames (.throwing q :: below)).heap[q]? = some ce := by
    show T.heap[q]? = some ce
    rw [hT]; exact hcell
  have hend : Ended ((T.setVm vm').setFrames (.throwing q :: below)) below (.threw q) := State.frames_setFrames _ (State.cur_lt_of_frames hfr)
  refine ⟨(T.setVm vm').setFrames (.throwing q :: below), ?_, .threw q, X'.here.running, hend, Or.inr ⟨q, rfl, E, ce, locs, hx _ hT (X'.ends _).1.alike, hcell9, hv, hcl, (X'.ends _).1, (X'.ends _).2.mono hc hs, hf⟩⟩
  rw [X.pushThrowing_eq]
  exact st
/-- a thing of a world lies in the heap -/
theorem vx_lt {D : va_G} {cl : List vw_C} {ws : va_W} {H1 : Heap} (h : va_P D cl ws H1) {k : Nat} {q : Nat × va_E} (hk : ws[k]? = some q) : q.1 < H1.size := (h k q hk).lt
end VXS
/-! ===== END ===== -/
/-! ===== BEGIN methods with a table of their own: called by a name, returning or throwing ===== -/
section VXH
/-! vx_backW, vx_callVX, vx_callSX, vx_callVW, vx_runVW, vx_runVX, vx_runSX, vx_ofWH follow the same proofs as their sisters above (Free/Laws.lean, Shelf42/LK1.lean); vx_outP calls Shelf42/NT130.lean (outThrough). -/
section
variable {l : Launch} {R : Room} {p : Program} {e : Env} {below : List Frame} {s : State} {sargs : Array Value} {y : MethodName} {len W9 : Nat}
theorem vx_backW {ws : List Cond} {rm : Room} {Pc : Array Value → State → Prop} {Qc : Array Value → State → Outcome → State → Prop} {XC : String → State → State → Prop} {mc ms : Nat} {free : Addr → Prop} {bytes : ByteArray} {maxL : Nat} {ret : Option FieldType} {hh : List (Nat × Nat × Nat × Nat)}
    (hM : vx_Met l y ws rm Pc Qc XC mc ms free) (hblind : FrameBlind Pc) (hrc : rm.cells = mc) (hrs : rm.slots = ms)
    (hframes : rm.frames + 1 ≤ R.frames) (hlocals : W9 + (maxL + 11) + rm.locals ≤ R.locals)
    (hws : ∀ w ∈ ws, ∀ a' U, s.WarmedH U.vm → w.before a' U = true) (hcode : Cond.codeWith y bytes maxL ret hh ∈ ws) (hinit : ∀ a' U, s.WarmedH U.vm → (Cond.initialized y.cls).before a' U = true) :
    vx_Back l R p e below s sargs y len W9 (PreOf R mc ms Pc) (PostOf Qc mc ms free) (vx_Post XC mc ms free) := by
  intro m meth c A g ig mk a X hg hsize hdg hW hn hp
  have h1 : (headSpec ws rm).pre.before a A.U = true := atoms_intro fun w hw => hws w hw _ _ X.warmed
  have h2 : (Cond.codeWith y bytes maxL ret hh).before a A.U = true := hws _ hcode _ _ X.warmed
  have h3 : (Cond.initialized y.cls).before a A.U = true := hinit _ _ X.warmed
  have h4 : A.cells + (headSpec ws rm).room.cells ≤ R.cells := by rw [show (headSpec ws rm).room.cells = mc from hrc]; exact hp.1
  have h5 : A.slots + (headSpec ws rm).room.slots ≤ R.slots := by rw [show (headSpec ws rm).room.slots = ms from hrs]; exact hp.2.1
  have hPc : Pc a (A.U.calling g mk a) := hblind _ _ _ _ hp.2.2
  obtain ⟨U, Ls, c0, s0⟩ := A
  dsimp only [Pt.U, Pt.locs, Pt.cells, Pt.slots] at h1 h2 h3 h4 h5 X hn hPc ⊢
  obtain ⟨m9, methY, cY, hn9, hmY, hcY, -, hlY, -⟩ := Cond.codeWith_spec h2
  cases Option.some.inj (hn9.symm.trans hn)
  obtain ⟨kY, hkY, -⟩ := className_of_methodNamed hn
  have hinitY : kY.init = .initialized := Cond.initialized_spec (findClass_of_methodNamed hn) hkY h3
  have h : At U g.method c below := by rw [hg]; exact X.here
  have hlocals9 : W9 + (maxL + 11) + (headSpec ws rm).room.locals ≤ R.locals := hlocals
  have happ : (headSpec ws rm).appliesLoose y e.platform (U.calling g mk a) = true :=
    Spec.appliesLoose_calling (g := g) h hdg hn hkY hinitY
      (X.room_calling (g := g) (R' := (headSpec ws rm).room) hsize hmY hcY hframes (by rw [hlY]; omega) h4 h5) h1
  obtain ⟨mid, hmid⟩ := h.above
  have hfr : (U.setTop g).frames = (.java g :: mid) ++ below := by rw [State.frames_setTop' g h.top, hmid]; rfl
  obtain ⟨o, s₂, hsteps, -, hend, hq⟩ := Steps.callFree hM p X.admits X.cas X.clock (acts := []) hfr happ hPc trivial
  have hq' : vx_Q Qc XC mc ms free a (U.calling g mk a) o s₂ := hq
  rw [State.frames_setTop' g h.top] at hend
  obtain ⟨g₀, hg0⟩ := Option.isSome_iff_exists.mp h.top
  obtain ⟨r, hr⟩ := State.topJava?_eq_some.mp hg0
  have hr' : (({ U with heap := s₂.heap, slotsUsed := s₂.slotsUsed } : State).setVm s₂.vm).frames = .java g₀ :: r := hr
  rcases hq' with ⟨hqc, L, hfe, hL⟩ | ⟨q, rfl, E, ce, L, hx, hce, hcv, hcl, hW₂, hsm, hL⟩
  · obtain ⟨⟨v, rfl⟩, hW₂, e2, q2, q3, q4, q5, q6⟩ := id hfe
    have e3 : s₂ = ({ (U.calling g mk a).setFrames s₂.frames with heap := s₂.heap, slotsUsed := s₂.slotsUsed } : State).setVm s₂.vm := by
      have : s₂ = ({ s₂ with vm := (U.calling g mk a).vm } : State).setVm s₂.vm := rfl
      rw [e2] at this
      exact this
    obtain ⟨c₂, i₂, len₂, hc₂, hd₂, hf₂⟩ := hend
    have hW' : U.WarmedH s₂.vm := hW₂
    have hcc : c₂ = c := by
      have h1 : s₂.code? g.method = U.code? g.method := by
        rw [State.code?_eq, State.code?_eq, hW'.alike.method?]
      exact Option.some.inj (hc₂.symm.trans (h1.trans h.code))
    subst hcc
    have hlen : len₂ = len := by rw [hdg] at hd₂; cases hd₂; rfl
    subst hlen
    have hs₂ : s₂ = (({ U with heap := s₂.heap, slotsUsed := s₂.slotsUsed } : State).setVm s₂.vm).setTop { g with pc := g.pc + len₂, stack := v.toList ++ g.stack } := by
      refine e3.trans ?_
      rw [hf₂, State.calling_eq h.top, State.setFrames_setFrames, State.setTop_of_frames _ hr', hr]
      rfl
    have hsame : U.sameButNew ({ U with heap := s₂.heap, slotsUsed := s₂.slotsUsed } : State) L mc ms := by
      refine ⟨?_, q2, q3, q4, q5, q6⟩
      obtain ⟨t, ht, -⟩ := State.frames_cons hr
      show ({ U with heap := s₂.heap, slotsUsed := s₂.slotsUsed } : State) = { U.setFrames U.frames with heap := s₂.heap, slotsUsed := s₂.slotsUsed }
      rw [State.setFrames_self ht]
    subst hg
    refine Or.inl ⟨v, ⟨(({ U with heap := s₂.heap, slotsUsed := s₂.slotsUsed } : State).setVm s₂.vm), Ls ++ L, c0 + mc, s0 + ms⟩,
      ⟨X.admits, X.cas, X.clock, X.frames, X.room, X.hears, X.method, X.code, (X.here.setHeapUsed s₂.heap s₂.slotsUsed).setVm hW'.alike, X.tail, State.WarmedH.trans X.warmed hW', X.limits, X.bytes, X.same.trans (hsame.setVm s.vm)⟩,
      ⟨g, mk, s₂, L, rfl, rfl, hqc, rfl, hL, rfl, rfl⟩, ?_⟩
    show Steps p.tables e below _ ((({ U with heap := s₂.heap, slotsUsed := s₂.slotsUsed } : State).setVm s₂.vm).setTop { g with pc := g.pc + len₂, stack := v.toList ++ g.stack })
    rw [← hs₂]
    exact hsteps
  · obtain ⟨e2, q2, q3, q4, q5, q6⟩ := id hsm
    have e3 : s₂ = ({ (U.calling g mk a).setFrames s₂.frames with heap := s₂.heap, slotsUsed := s₂.slotsUsed } : State).setVm s₂.vm := by
      have : s₂ = ({ s₂ with vm := (U.calling g mk a).vm } : State).setVm s₂.vm := rfl
      rw [e2] at this
      exact this
    have hf₂ : s₂.frames = .throwing q :: .java g :: U.frames.tail := hend
    have hW' : U.WarmedH s₂.vm := hW₂
    have hs₂ : s₂ = ((({ U with heap := s₂.heap, slotsUsed := s₂.slotsUsed } : State).setVm s₂.vm).setTop g).pushFrame (.throwing q) := by
      refine e3.trans ?_
      rw [hf₂, State.calling_eq h.top, State.setFrames_setFrames, State.pushFrame, State.frames_setTop _ hr', State.setTop_of_frames _ hr', State.setFrames_setFrames, hr]
      rfl
    have hsame : U.sameButNew ({ U with heap := s₂.heap, slotsUsed := s₂.slotsUsed } : State) L mc ms := by
      refine ⟨?_, q2, q3, q4, q5, q6⟩
      obtain ⟨t, ht, -⟩ := State.frames_cons hr
      show ({ U with heap := s₂.heap, slotsUsed := s₂.slotsUsed } : State) = { U.setFrames U.frames with heap := s₂.heap, slotsUsed := s₂.slotsUsed }
      rw [State.setFrames_self ht]
    subst hg
    refine Or.inr ⟨q, ⟨(({ U with heap := s₂.heap, slotsUsed := s₂.slotsUsed } : State).setVm s₂.vm), Ls ++ L, c0 + mc, s0 + ms⟩,
      ⟨X.admits, X.cas, X.clock, X.frames, X.room, X.hears, X.method, X.code, (X.here.setHeapUsed s₂.heap s₂.slotsUsed).setVm hW'.alike, X.tail, State.WarmedH.trans X.warmed hW', X.limits, X.bytes, X.same.trans (hsame.setVm s.vm)⟩,
      ⟨g, mk, s₂, L, E, ce, rfl, rfl, hx, hce, hcv, hcl, rfl, hL, rfl, rfl⟩, ?_⟩
    show Steps p.tables e below _ (((({ U with heap := s₂.heap, slotsUsed := s₂.slotsUsed } : State).setVm s₂.vm).setTop g).pushFrame (.throwing q))
    rw [← hs₂]
    exact hsteps
end
variable {p : Program} {l : Launch} {e : Env} {R : Room} {s : State} {m : MethodId} {args : Array Value} {below : List Frame} {meth : Method} {c : Code} {T : State} {H : Heap} {locs : List Loc} {cells slots : Nat}
theorem vx_callVX (X : Stand p l e R s m args below meth c T locs cells slots) (hexec : p.tables.exec = Jvm.exec) {own C : String} {index : Nat} {y : MethodName} {bytes : ByteArray} {maxL : Nat} {ret : Option FieldType} {hh : List (Nat × Nat × Nat × Nat)}
    (hown : s.vm.findClass own = some m.cls) (hlink : (Cond.methodLink own index y).before args s = true) (hinst : (Cond.instanceMethod y).before args s = true) (hsel : (Cond.selects C y y).before args s = true)
    (hcode : (Cond.codeWith y bytes maxL ret hh).before args s = true) (hy : y.cls ≠ "java/lang/invoke/MethodHandle" ∧ y.cls ≠ "java/lang/invoke/VarHandle")
    {W9 : Nat} {Pre : Pt → Array Value → Prop} {Post : Pt → Array Value → Option Value → Pt → Prop} {PostX : Pt → Array Value → Addr → Pt → Prop} (hK : vx_Back l R p e below s args y 3 W9 Pre Post PostX)
    {b : Addr} {cellB : Cell} (hcell : T.heap[b]? = some cellB) (hobj : cellB.vm.isStatics = false) (hcls : s.vm.findClass C = some cellB.cls)
    {g : JFrame} (hg : g.method = m) (hsize : g.locals.size = c.maxLocals) {argsL rest : List Value} (hlen : ∀ sig, parseMethodDescriptor y.desc = some sig → argsL.length = sig.parameters.length)
    (hstack : g.stack = argsL.reverse ++ .ref b :: rest) (hW : 2 * g.monitorRoom + (rest.map fun v => v.category).sum ≤ W9) (hdg : decode c.code g.pc = .ok (.invokevirtual index, 3))
    (hpre : ∀ vm₁, s.WarmedH vm₁ → Pre ⟨T.setVm vm₁, locs, cells, slots⟩ (Value.ref b :: argsL).toArray) :
    (∃ (v : Option Value) (vm₁ : Vm) (B : Pt), s.WarmedH vm₁ ∧ Stand p l e R s m args below meth c B.U B.locs B.cells B.slots ∧ Post ⟨T.setVm vm₁, locs, cells, slots⟩ (Value.ref b :: argsL).toArray v B ∧
      ∀ target, Steps p.tables e below (B.U.setTop { g with pc := g.pc + 3, stack := v.toList ++ rest }) target → Steps p.tables e below (T.setTop g) target) ∨
    (∃ (q : Addr) (vm₁ : Vm) (B : Pt), s.WarmedH vm₁ ∧ Stand p l e R s m args below meth c B.U B.locs B.cells B.slots ∧ PostX ⟨T.setVm vm₁, locs, cells, slots⟩ (Value.ref b :: argsL).toArray q B ∧
      Steps p.tables e below (T.setTop g) ((B.U.setTop { g with stack := rest }).pushFrame (.throwing q))) := by
  obtain ⟨mk, methM, hnamed, hmethM, hstM, habM⟩ := Cond.instanceMethod_spec hinst
  obtain ⟨m8, methM', cM, hn8, hmethM', -, -, -, -, -, -, hsigM⟩ := Cond.codeWith_spec hcode
  cases Option.some.inj (hn8.symm.trans hnamed)
  cases hmethM.symm.trans hmethM'
  obtain ⟨c2, r2, m2, q1, q2, q3, q4, kP, hkP, hkPi⟩ := Cond.selects_spec hsel
  cases hcls.symm.trans q1
  cases (State.methodFound?_of_named hnamed hy).symm.trans q2
  cases hnamed.symm.trans q3
  have hselP : selectMethod e.platform s.vm cellB.cls mk = .method mk := by rw [Launch.admits_selectMethod X.admits]; exact q4
  obtain ⟨vm₁, X₁, hstep₁⟩ := X.invokevirtual hexec hown hlink hnamed hmethM hstM hkP hkPi hy (a := b) (cell := cellB) hcell
    (fun z h => by rw [h] at hobj; cases hobj) hselP hmethM habM hkP hkPi (g := g) hg (argsL := argsL) (rest := rest) (hlen _ hsigM) hstack hdg
  rcases hK m meth c ⟨T.setVm vm₁, locs, cells, slots⟩ { g with stack := rest } (.invokevirtual index) mk (Value.ref b :: argsL).toArray X₁ hg hsize hdg hW (X₁.named hnamed) (hpre vm₁ X₁.warmed) with ⟨v, B, X', hpost, hsteps⟩ | ⟨q, B, X', hpost, hsteps⟩
  · exact Or.inl ⟨v, vm₁, B, X₁.warmed, X', hpost, fun target h => hstep₁ _ fun acts => by rw [doInvoke_state]; exact hsteps.trans h⟩
  · exact Or.inr ⟨q, vm₁, B, X₁.warmed, X', hpost, hstep₁ _ fun acts => by rw [doInvoke_state]; exact hsteps⟩
theorem vx_callSX (X : Stand p l e R s m args below meth c T locs cells slots) (hexec : p.tables.exec = Jvm.exec) {own : String} {index : Nat} {y : MethodName} {bytes : ByteArray} {maxL : Nat} {ret : Option FieldType} {hh : List (Nat × Nat × Nat × Nat)}
    (hown : s.vm.findClass own = some m.cls) (hlink : (Cond.methodLink own index y).before args s = true) (hstat : (Cond.static y).before args s = true) (hinit : (Cond.initialized y.cls).before args s = true)
    (hcode : (Cond.codeWith y bytes maxL ret hh).before args s = true) (hy : y.cls ≠ "java/lang/invoke/MethodHandle" ∧ y.cls ≠ "java/lang/invoke/VarHandle")
    {W9 : Nat} {Pre : Pt → Array Value → Prop} {Post : Pt → Array Value → Option Value → Pt → Prop} {PostX : Pt → Array Value → Addr → Pt → Prop} (hK : vx_Back l R p e below s args y 3 W9 Pre Post PostX)
    {g : JFrame} (hg : g.method = m) (hsize : g.locals.size = c.maxLocals) {argsL rest : List Value} (hlen : ∀ sig, parseMethodDescriptor y.desc = some sig → argsL.length = sig.parameters.length)
    (hstack : g.stack = argsL.reverse ++ rest) (hW : 2 * g.monitorRoom + (rest.map fun v => v.category).sum ≤ W9) (hdg : decode c.code g.pc = .ok (.invokestatic index, 3))
    (hpre : ∀ vm₁, s.WarmedH vm₁ → Pre ⟨T.setVm vm₁, locs, cells, slots⟩ argsL.toArray) :
    (∃ (v : Option Value) (vm₁ : Vm) (B : Pt), s.WarmedH vm₁ ∧ Stand p l e R s m args below meth c B.U B.locs B.cells B.slots ∧ Post ⟨T.setVm vm₁, locs, cells, slots⟩ argsL.toArray v B ∧
      ∀ target, Steps p.tables e below (B.U.setTop { g with pc := g.pc + 3, stack := v.toList ++ rest }) target → Steps p.tables e below (T.setTop g) target) ∨
    (∃ (q : Addr) (vm₁ : Vm) (B : Pt), s.WarmedH vm₁ ∧ Stand p l e R s m args below meth c B.U B.locs B.cells B.slots ∧ PostX ⟨T.setVm vm₁, locs, cells, slots⟩ argsL.toArray q B ∧
      Steps p.tables e below (T.setTop g) ((B.U.setTop { g with stack := rest }).pushFrame (.throwing q))) := by
  obtain ⟨mk, methM, cM, hnamed, hmethM, -, -, -, -, -, -, hsigM⟩ := Cond.codeWith_spec hcode
  have hstatic : methM.isStatic = true := Cond.static_spec hnamed hmethM hstat
  obtain ⟨kP, hkP, -⟩ := className_of_methodNamed hnamed
  have hinitP : kP.init = .initialized := Cond.initialized_spec (findClass_of_methodNamed hnamed) hkP hinit
  obtain ⟨vm₁, X₁, hstep₁⟩ := X.invokestatic hexec hown hlink hnamed hmethM hstatic hkP hinitP hy (g := g) hg (argsL := argsL) (rest := rest) (hlen _ hsigM) hstack hdg
  rcases hK m meth c ⟨T.setVm vm₁, locs, cells, slots⟩ { g with stack := rest } (.invokestatic index) mk argsL.toArray X₁ hg hsize hdg hW (X₁.named hnamed) (hpre vm₁ X₁.warmed) with ⟨v, B, X', hpost, hsteps⟩ | ⟨q, B, X', hpost, hsteps⟩
  · exact Or.inl ⟨v, vm₁, B, X₁.warmed, X', hpost, fun target h => hstep₁ _ fun acts => by rw [doInvoke_state]; exact hsteps.trans h⟩
  · exact Or.inr ⟨q, vm₁, B, X₁.warmed, X', hpost, hstep₁ _ fun acts => by rw [doInvoke_state]; exact hsteps⟩
theorem vx_callVW (X : Stand p l e R s m args below meth c T locs cells slots) (hexec : p.tables.exec = Jvm.exec) {own C : String} {index : Nat} {y : MethodName} {bytes : ByteArray} {maxL : Nat} {ret : Option FieldType} {hh : List (Nat × Nat × Nat × Nat)}
    (hown : s.vm.findClass own = some m.cls) (hlink : (Cond.methodLink own index y).before args s = true) (hinst : (Cond.instanceMethod y).before args s = true) (hsel : (Cond.selects C y y).before args s = true)
    (hcode : (Cond.codeWith y bytes maxL ret hh).before args s = true) (hy : y.cls ≠ "java/lang/invoke/MethodHandle" ∧ y.cls ≠ "java/lang/invoke/VarHandle")
    {W9 : Nat} {Pre : Pt → Array Value → Prop} {Post : Pt → Array Value → Option Value → Pt → Prop} (hK : Back l R p e below s args y 3 W9 Pre Post)
    {b : Addr} {cellB : Cell} (hcell : T.heap[b]? = some cellB) (hobj : cellB.vm.isStatics = false) (hcls : s.vm.findClass C = some cellB.cls)
    {g : JFrame} (hg : g.method = m) (hsize : g.locals.size = c.maxLocals) {argsL rest : List Value} (hlen : ∀ sig, parseMethodDescriptor y.desc = some sig → argsL.length = sig.parameters.length)
    (hstack : g.stack = argsL.reverse ++ .ref b :: rest) (hW : 2 * g.monitorRoom + (rest.map fun v => v.category).sum ≤ W9) (hdg : decode c.code g.pc = .ok (.invokevirtual index, 3))
    (hpre : ∀ vm₁, s.WarmedH vm₁ → Pre ⟨T.setVm vm₁, locs, cells, slots⟩ (Value.ref b :: argsL).toArray) :
    ∃ (v : Option Value) (vm₁ : Vm) (B : Pt), s.WarmedH vm₁ ∧ Stand p l e R s m args below meth c B.U B.locs B.cells B.slots ∧ Post ⟨T.setVm vm₁, locs, cells, slots⟩ (Value.ref b :: argsL).toArray v B ∧
      ∀ target, Steps p.tables e below (B.U.setTop { g with pc := g.pc + 3, stack := v.toList ++ rest }) target → Steps p.tables e below (T.setTop g) target := by
  obtain ⟨mk, methM, hnamed, hmethM, hstM, habM⟩ := Cond.instanceMethod_spec hinst
  obtain ⟨m8, methM', cM, hn8, hmethM', -, -, -, -, -, -, hsigM⟩ := Cond.codeWith_spec hcode
  cases Option.some.inj (hn8.symm.trans hnamed)
  cases hmethM.symm.trans hmethM'
  obtain ⟨c2, r2, m2, q1, q2, q3, q4, kP, hkP, hkPi⟩ := Cond.selects_spec hsel
  cases hcls.symm.trans q1
  cases (State.methodFound?_of_named hnamed hy).symm.trans q2
  cases hnamed.symm.trans q3
  have hselP : selectMethod e.platform s.vm cellB.cls mk = .method mk := by rw [Launch.admits_selectMethod X.admits]; exact q4
  obtain ⟨vm₁, X₁, hstep₁⟩ := X.invokevirtual hexec hown hlink hnamed hmethM hstM hkP hkPi hy (a := b) (cell := cellB) hcell
    (fun z h => by rw [h] at hobj; cases hobj) hselP hmethM habM hkP hkPi (g := g) hg (argsL := argsL) (rest := rest) (hlen _ hsigM) hstack hdg
  obtain ⟨v, B, X', hpost, hsteps⟩ := hK m meth c ⟨T.setVm vm₁, locs, cells, slots⟩ { g with stack := rest } (.invokevirtual index) mk (Value.ref b :: argsL).toArray X₁ hg hsize hdg hW (X₁.named hnamed) (hpre vm₁ X₁.warmed)
  exact ⟨v, vm₁, B, X₁.warmed, X', hpost, fun target h => hstep₁ _ fun acts => by rw [doInvoke_state]; exact hsteps.trans h⟩
abbrev vx_CVW (R : Room) (s : State) (args : Array Value) (own C : String) (index : Nat) (y : MethodName) (bytes : ByteArray) (maxL : Nat) (ret : Option FieldType) (hh : List (Nat × Nat × Nat × Nat)) (ws : List Cond) (rm : Room) (mc ms n : Nat) : Prop :=
  (rm.cells = mc ∧ rm.slots = ms ∧ rm.frames + 1 ≤ R.frames ∧ 8 + (maxL + 11) + rm.locals ≤ R.locals ∧ (∀ w ∈ ws, ∀ (a' : Array Value) (U : State), s.WarmedH U.vm → w.before a' U = true) ∧ Cond.codeWith y bytes maxL ret hh ∈ ws) ∧
  (Cond.codeWith y bytes maxL ret hh).before args s = true ∧ (Cond.initialized y.cls).before args s = true ∧ (y.cls ≠ "java/lang/invoke/MethodHandle" ∧ y.cls ≠ "java/lang/invoke/VarHandle") ∧
  (∀ sig, parseMethodDescriptor y.desc = some sig → n = sig.parameters.length) ∧ (Cond.methodLink own index y).before args s = true ∧ (Cond.instanceMethod y).before args s = true ∧ (Cond.selects C y y).before args s = true
theorem vx_cwVW {own C : String} {index maxL mc ms : Nat} {y : MethodName} {bytes : ByteArray} {ret : Option FieldType} {hh : List (Nat × Nat × Nat × Nat)} {Ts ws ws' : List Cond} {rm : Room} (n : Nat) (ht : ∀ w ∈ Ts, w.before args s = true) (hT : GoodIn Ts (wsV own index C y ws)) (hw : ws = Cond.codeWith y bytes maxL ret hh :: ws') (hrc : rm.cells = mc) (hrs : rm.slots = ms)
    (hd : y.cls = C ∧ y.cls ≠ "java/lang/invoke/MethodHandle" ∧ y.cls ≠ "java/lang/invoke/VarHandle" ∧ (parseMethodDescriptor y.desc).map (fun d => d.parameters.length) = some n) (hR : rm.frames + 1 ≤ R.frames ∧ 8 + (maxL + 11) + rm.locals ≤ R.locals) :
    vx_CVW R s args own C index y bytes maxL ret hh ws rm mc ms n := by
  obtain ⟨hC, hd⟩ := hd
  subst hC
  have ok : ∀ w ∈ wsV own index y.cls y ws, w.before args s = true := fun w h => ht w (hT w h).1
  have hG : GoodIn Ts ws := fun w h => hT w (by unfold wsV; exact List.mem_append_right _ h)
  have hc : Cond.codeWith y bytes maxL ret hh ∈ ws := by rw [hw]; exact List.mem_cons_self
  refine ⟨⟨hrc, hrs, hR.1, hR.2, pay_in ht hG, hc⟩, ht _ (hG _ hc).1, ok _ (by simp [wsV]), ⟨hd.1, hd.2.1⟩, fun sig h => ?_, ok _ (by simp [wsV]), ok _ (by simp [wsV]), ok _ (by simp [wsV])⟩
  have h2 := hd.2.2
  rw [h] at h2
  exact (Option.some.inj h2).symm
theorem vx_runVW {y : MethodName} {bytes cc : ByteArray} {maxL nL mc ms n index : Nat} {ret : Option FieldType} {hh : List (Nat × Nat × Nat × Nat)} {ws : List Cond} {rm : Room} {Pc : Array Value → State → Prop} {Qc : Array Value → State → Outcome → State → Prop} {free : Addr → Prop} {Ts : List Cond} {own C : String} {b : Addr} {As rest : List Value} {g : JFrame}
    (S : CallFix p m c cc nL s args Ts own) (hM : Met l y ws rm Pc Qc mc ms free) (cw : vx_CVW R s args own C index y bytes maxL ret hh ws rm mc ms n) (hp : PreV s H C b Pc As)
    (hg : g.method = m) (hn : As.length = n) (hsize : g.locals.size = nL) (hstack : g.stack = As.reverse ++ .ref b :: rest) (hW : 2 * g.monitorRoom + (rest.map fun v => v.category).sum ≤ 8) (hdg : decode cc g.pc = .ok (.invokevirtual index, 3)) (hf : cells + mc ≤ R.cells ∧ slots + ms ≤ R.slots) :
    va_Run p l e R s m args below meth c H locs cells slots mc ms g rest (Qc (Value.ref b :: As).toArray) free := by
  obtain ⟨⟨hrc, hrs, hfr, hlo, hws, hcw⟩, hcode, hini, hy, hlen, hl, hin, hse⟩ := cw
  have hK : Back l R p e below s args y 3 8 (PreOf R mc ms Pc) (PostOf Qc mc ms free) := va_backW (hh := hh) (bytes := bytes) (maxL := maxL) (ret := ret) hM hp.1 hrc hrs hfr hlo hws hcw (fun a' U hW => word_at hW (Or.inl (by first | rfl | simp [Cond.onTables, Cond.keeps, Cond.steady])) hini)
  obtain ⟨hx, hb, hml, ho, -⟩ := S
  obtain ⟨-, ⟨cellB, hcB, hoB, hclB⟩, hPc⟩ := hp
  intro T hT X
  obtain ⟨v, vm₁, ⟨U', l2, c2, s2⟩, hW₁, X', ⟨g', mk, t, L, e1, e2, hq, h1, hL, h2, h3⟩, st⟩ := vx_callVW X hx (C := C) (hh := hh) (bytes := bytes) (maxL := maxL) (ret := ret) ho hl hin hse hcode hy hK (by rw [hT]; exact hcB) hoB hclB hg (hsize.trans hml.symm) (argsL := As) (rest := rest) (fun sig h => hn.trans (hlen sig h)) hstack hW (by rw [hb]; exact hdg)
    (fun vm₁ hW₁ => ⟨hf.1, hf.2, hPc (T.setVm vm₁) hT hW₁⟩)
  dsimp only [Pt.U, Pt.locs, Pt.cells, Pt.slots] at X' e1 e2 h1 h2 h3 st
  subst h1; subst h2; subst h3
  exact ⟨v, (T.setVm vm₁).calling g' mk (Value.ref b :: As).toArray, t, U', L, hT, X', hL, e1, e2, hq, st⟩
section
variable {y : MethodName} {bytes cc : ByteArray} {maxL nL mc ms n index : Nat} {ret : Option FieldType} {ws : List Cond} {rm : Room} {Pc : Array Value → State → Prop} {Qc : Array Value → State → Outcome → State → Prop} {XC : String → State → State → Prop} {free : Addr → Prop} {Ts : List Cond} {own C : String} {b : Addr} {As rest : List Value} {g : JFrame}
theorem vx_runVX {hh : List (Nat × Nat × Nat × Nat)} (S : CallFix p m c cc nL s args Ts own) (hM : vx_Met l y ws rm Pc Qc XC mc ms free) (cw : vx_CVW R s args own C index y bytes maxL ret hh ws rm mc ms n) (hp : PreV s H C b Pc As)
    (hg : g.method = m) (hn : As.length = n) (hsize : g.locals.size = nL) (hstack : g.stack = As.reverse ++ .ref b :: rest) (hW : 2 * g.monitorRoom + (rest.map fun v => v.category).sum ≤ 8) (hdg : decode cc g.pc = .ok (.invokevirtual index, 3)) (hf : cells + mc ≤ R.cells ∧ slots + ms ≤ R.slots) :
    vx_Run p l e R s m args below meth c H locs cells slots mc ms g rest (Qc (Value.ref b :: As).toArray) XC free := by
  obtain ⟨⟨hrc, hrs, hfr, hlo, hws, hcw⟩, hcode, hini, hy, hlen, hl, hin, hse⟩ := cw
  have hK : vx_Back l R p e below s args y 3 8 (PreOf R mc ms Pc) (PostOf Qc mc ms free) (vx_Post XC mc ms free) := vx_backW (hh := hh) (bytes := bytes) (maxL := maxL) (ret := ret) hM hp.1 hrc hrs hfr hlo hws hcw (fun a' U hW => word_at hW (Or.inl (by first | rfl | simp [Cond.onTables, Cond.keeps, Cond.steady])) hini)
  obtain ⟨hx, hb, hml, ho, -⟩ := S
  obtain ⟨-, ⟨cellB, hcB, hoB, hclB⟩, hPc⟩ := hp
  intro T hT X
  rcases vx_callVX X hx (C := C) (hh := hh) (bytes := bytes) (maxL := maxL) (ret := ret) ho hl hin hse hcode hy hK (by rw [hT]; exact hcB) hoB hclB hg (hsize.trans hml.symm) (argsL := As) (rest := rest) (fun sig h => hn.trans (hlen sig h)) hstack hW (by rw [hb]; exact hdg)
    (fun vm₁ hW₁ => ⟨hf.1, hf.2, hPc (T.setVm vm₁) hT hW₁⟩) with ⟨v, vm₁, ⟨U', l2, c2, s2⟩, hW₁, X', ⟨g', mk, t, L, e1, e2, hq, h1, hL, h2, h3⟩, st⟩ | ⟨q, vm₁, ⟨U', l2, c2, s2⟩, hW₁, X', ⟨g', mk, t, L, E, ce, e1, e2, hq, hce, hcv, hcl, h1, hL, h2, h3⟩, st⟩
  · dsimp only [Pt.U, Pt.locs, Pt.cells, Pt.slots] at X' e1 e2 h1 h2 h3 st
    subst h1; subst h2; subst h3
    exact Or.inl ⟨v, (T.setVm vm₁).calling g' mk (Value.ref b :: As).toArray, t, U', L, hT, X', hL, e1, e2, hq, st⟩
  · dsimp only [Pt.U, Pt.locs, Pt.cells, Pt.slots] at X' e1 e2 h1 h2 h3 st hcl
    subst h1; subst h2; subst h3
    exact Or.inr ⟨q, (T.setVm vm₁).calling g' mk (Value.ref b :: As).toArray, t, U', L, E, ce, hT, X', hL, e1, e2, hq, hce, hcv, vx_cls hW₁ hcl, st⟩
theorem vx_runSX {hh : List (Nat × Nat × Nat × Nat)} (S : CallFix p m c cc nL s args Ts own) (hM : vx_Met l y ws rm Pc Qc XC mc ms free) (cw : vx_CSW R s args own index y bytes maxL ret hh ws rm mc ms n) (hp : PreS s H Pc As)
    (hg : g.method = m) (hn : As.length = n) (hsize : g.locals.size = nL) (hstack : g.stack = As.reverse ++ rest) (hW : 2 * g.monitorRoom + (rest.map fun v => v.category).sum ≤ 8) (hdg : decode cc g.pc = .ok (.invokestatic index, 3)) (hf : cells + mc ≤ R.cells ∧ slots + ms ≤ R.slots) :
    vx_Run p l e R s m args below meth c H locs cells slots mc ms g rest (Qc As.toArray) XC free := by
  obtain ⟨⟨hrc, hrs, hfr, hlo, hws, hcw⟩, hcode, hini, hy, hlen, hl, hstt⟩ := cw
  have hK : vx_Back l R p e below s args y 3 8 (PreOf R mc ms Pc) (PostOf Qc mc ms free) (vx_Post XC mc ms free) := vx_backW (hh := hh) (bytes := bytes) (maxL := maxL) (ret := ret) hM hp.1 hrc hrs hfr hlo hws hcw (fun a' U hW => word_at hW (Or.inl (by first | rfl | simp [Cond.onTables, Cond.keeps, Cond.steady])) hini)
  obtain ⟨hx, hb, hml, ho, -⟩ := S
  intro T hT X
  rcases vx_callSX X hx (hh := hh) (bytes := bytes) (maxL := maxL) (ret := ret) ho hl hstt hini hcode hy hK hg (hsize.trans hml.symm) (argsL := As) (rest := rest) (fun sig h => hn.trans (hlen sig h)) hstack hW (by rw [hb]; exact hdg)
    (fun vm₁ hW₁ => ⟨hf.1, hf.2, hp.2 (T.setVm vm₁) hT hW₁⟩) with ⟨v, vm₁, ⟨U', l2, c2, s2⟩, hW₁, X', ⟨g', mk, t, L, e1, e2, hq, h1, hL, h2, h3⟩, st⟩ | ⟨q, vm₁, ⟨U', l2, c2, s2⟩, hW₁, X', ⟨g', mk, t, L, E, ce, e1, e2, hq, hce, hcv, hcl, h1, hL, h2, h3⟩, st⟩
  · dsimp only [Pt.U, Pt.locs, Pt.cells, Pt.slots] at X' e1 e2 h1 h2 h3 st
    subst h1; subst h2; subst h3
    exact Or.inl ⟨v, (T.setVm vm₁).calling g' mk As.toArray, t, U', L, hT, X', hL, e1, e2, hq, st⟩
  · dsimp only [Pt.U, Pt.locs, Pt.cells, Pt.slots] at X' e1 e2 h1 h2 h3 st hcl
    subst h1; subst h2; subst h3
    exact Or.inr ⟨q, (T.setVm vm₁).calling g' mk As.toArray, t, U', L, E, ce, hT, X', hL, e1, e2, hq, hce, hcv, vx_cls hW₁ hcl, st⟩
end
end VXH
theorem vx_ofWH {l : Launch} {y : MethodName} {ws ws' : List Cond} {rm : Room} {Pc : Array Value → State → Prop} {Qc : Array Value → State → Outcome → State → Prop} {XC : String → State → State → Prop} {mc ms : Nat} {free : Addr → Prop} {cc : ByteArray} {maxL : Nat} {ret : Option FieldType} {hh : List (Nat × Nat × Nat × Nat)}
    (hy : plainName y.cls = true) (hw : ws = Cond.codeWith y cc maxL ret hh :: ws')
    (body : ∀ p e s m args below meth c s₁, BodyLoose p l y (headSpec ws rm) cc maxL ret e s m args below meth c s₁ → c.maxLocals = maxL → Pc args s →
      W p l e (headSpec ws rm).room s m args below meth c s.heap [] 0 0 (vx_MQ below Qc XC args s mc ms free) (entryFrame m args maxL)) : vx_Met l y ws rm Pc Qc XC mc ms free := by
  refine MetFree.of_bodyS (code := cc) (maxLocals := maxL) (ret := ret) hy ?_ ?_
  · intro args s m h hn
    obtain ⟨m9, meth, c, hn9, h1, h2, h3, h4, -, h5, h6, -⟩ := Cond.codeWith_spec (atoms_spec (ws := ws) h _ (by rw [hw]; exact List.mem_cons_self))
    cases hn.symm.trans hn9
    exact ⟨meth, c, h1, h2, h3, h4, h5, h6⟩
  · intro p e s m args below meth c s₁ B hml hP _
    have hh0 : s₁.heap = s.heap := by rw [B.state]; rfl
    obtain ⟨t, a1, o, b1, b2, b3⟩ := body p e s m args below meth c s₁ B hml hP s₁ hh0 (Stand.of_body B)
    exact ⟨t, o, a1, b1, b2, b3⟩
/-! ===== END ===== -/
end
section
/-! ===== BEGIN printed: names, fields, word lists, decode rows ===== -/
def RX0 : String := "CrashDesk$Car"
def TX0 : u_T := fun k => match k with
  | 0 => ("CrashDesk$Car", "mass", "I", false)
  | 1 => ("CrashDesk$Car", "first", "LCrashDesk$Speed;", true)
  | 2 => ("CrashDesk$Car", "at", "LCrashDesk$Speed;", true)
  | 3 => ("CrashDesk$Car", "after", "LCrashDesk$Speed;", true)
  | 4 => ("CrashDesk$Car", "firstCounts", "[I", true)
  | 5 => ("CrashDesk$Car", "aheadLeast", "I", false)
  | 6 => ("CrashDesk$Car", "aheadGreatest", "I", false)
  | 7 => ("CrashDesk$Car", "behindLeast", "I", false)
  | 8 => ("CrashDesk$Car", "behindGreatest", "I", false)
  | _ => ("CrashDesk$Car", "skidsBehind", "Z", false)
def tyX0 : Nat → FieldType := fun k => match k with
  | 0 => .int
  | 1 => .object "CrashDesk$Speed"
  | 2 => .object "CrashDesk$Speed"
  | 3 => .object "CrashDesk$Speed"
  | 4 => .array .int
  | 5 => .int
  | 6 => .int
  | 7 => .int
  | 8 => .int
  | _ => .boolean
abbrev wsX00 : List Cond := u_ws RX0 TX0 10
theorem nmX0 : ∀ a, a < 10 → ∀ b, b < 10 → a ≠ b → (TX0 a).2.1 ≠ (TX0 b).2.1 := by decide +kernel
theorem tyX0_ok : ∀ k, k < 10 → parseFieldDescriptor (TX0 k).2.2.1 = some (tyX0 k) := by decide +kernel
abbrev cX0_init : ByteArray := prog_2_method_1_code
def yX0_init : MethodName := ⟨RX0, "<init>", "()V"⟩
abbrev cX0_pick : ByteArray := prog_2_method_2_code
def yX0_pick : MethodName := ⟨RX0, "pick", "(I)LCrashDesk$Speed;"⟩
abbrev cX0_clear : ByteArray := prog_2_method_3_code
def yX0_clear : MethodName := ⟨RX0, "clear", "()V"⟩
abbrev cX0_add : ByteArray := prog_2_method_4_code
def yX0_add : MethodName := ⟨RX0, "add", "(LCrashDesk$Skid;)V"⟩
abbrev cX0_settle : ByteArray := prog_2_method_5_code
def yX0_settle : MethodName := ⟨RX0, "settle", "()V"⟩
abbrev cX0_firstCount : ByteArray := prog_2_method_6_code
def yX0_firstCount : MethodName := ⟨RX0, "firstCount", "(I)I"⟩
abbrev cX0_seeFirsts : ByteArray := prog_2_method_7_code
def yX0_seeFirsts : MethodName := ⟨RX0, "seeFirsts", "()V"⟩
abbrev cX0_joinFirsts : ByteArray := prog_2_method_8_code
def yX0_joinFirsts : MethodName := ⟨RX0, "joinFirsts", "(I)V"⟩
abbrev cX0_firstFor : ByteArray := prog_2_method_9_code
def yX0_firstFor : MethodName := ⟨RX0, "firstFor", "(II)I"⟩
abbrev cX0_isTakenAhead : ByteArray := prog_2_method_10_code
def yX0_isTakenAhead : MethodName := ⟨RX0, "isTakenAhead", "(II)Z"⟩
abbrev cX0_isTakenBehind : ByteArray := prog_2_method_11_code
def yX0_isTakenBehind : MethodName := ⟨RX0, "isTakenBehind", "(I)Z"⟩
def RX1 : String := "CrashDesk$Meeting"
def TX1 : u_T := fun k => match k with
  | 0 => ("CrashDesk$Meeting", "zero", "LCrashDesk$Car;", true)
  | 1 => ("CrashDesk$Meeting", "one", "LCrashDesk$Car;", true)
  | 2 => ("CrashDesk$Meeting", "wayCount", "J", false)
  | 3 => ("CrashDesk$Meeting", "cheapest", "I", false)
  | 4 => ("CrashDesk$Meeting", "loss", "I", false)
  | _ => ("CrashDesk$Meeting", "gain", "I", false)
def tyX1 : Nat → FieldType := fun k => match k with
  | 0 => .object "CrashDesk$Car"
  | 1 => .object "CrashDesk$Car"
  | 2 => .long
  | 3 => .int
  | 4 => .int
  | _ => .int
abbrev wsX10 : List Cond := u_ws RX1 TX1 6
theorem nmX1 : ∀ a, a < 6 → ∀ b, b < 6 → a ≠ b → (TX1 a).2.1 ≠ (TX1 b).2.1 := by decide +kernel
theorem tyX1_ok : ∀ k, k < 6 → parseFieldDescriptor (TX1 k).2.2.1 = some (tyX1 k) := by decide +kernel
abbrev cX1_init : ByteArray := prog_3_method_1_code
def yX1_init : MethodName := ⟨RX1, "<init>", "()V"⟩
abbrev cX1_pick : ByteArray := prog_3_method_2_code
def yX1_pick : MethodName := ⟨RX1, "pick", "(I)LCrashDesk$Car;"⟩
abbrev cX1_reckon : ByteArray := prog_3_method_3_code
def yX1_reckon : MethodName := ⟨RX1, "reckon", "()V"⟩
abbrev cX1_lowestShare : ByteArray := prog_3_method_4_code
def yX1_lowestShare : MethodName := ⟨RX1, "lowestShare", "(II)I"⟩
abbrev cX1_pushFrom : ByteArray := prog_3_method_5_code
def yX1_pushFrom : MethodName := ⟨RX1, "pushFrom", "(I)V"⟩
abbrev cX1_meet : ByteArray := prog_3_method_6_code
def yX1_meet : MethodName := ⟨RX1, "meet", "(II)V"⟩
def RX2 : String := "CrashDesk$Skid"
def TX2 : u_T := fun k => match k with
  | 0 => ("CrashDesk$Skid", "car", "I", false)
  | 1 => ("CrashDesk$Skid", "behind", "Z", false)
  | 2 => ("CrashDesk$Skid", "least", "I", false)
  | 3 => ("CrashDesk$Skid", "greatest", "I", false)
  | _ => ("CrashDesk$Skid", "counts", "Z", false)
def tyX2 : Nat → FieldType := fun k => match k with
  | 0 => .int
  | 1 => .boolean
  | 2 => .int
  | 3 => .int
  | _ => .boolean
abbrev wsX20 : List Cond := u_ws RX2 TX2 5
theorem nmX2 : ∀ a, a < 5 → ∀ b, b < 5 → a ≠ b → (TX2 a).2.1 ≠ (TX2 b).2.1 := by decide +kernel
theorem tyX2_ok : ∀ k, k < 5 → parseFieldDescriptor (TX2 k).2.2.1 = some (tyX2 k) := by decide +kernel
abbrev cX2_init : ByteArray := prog_4_method_1_code
def yX2_init : MethodName := ⟨RX2, "<init>", "()V"⟩
def RX3 : String := "CrashDesk$Speed"
def TX3 : u_T := fun k => match k with
  | 0 => ("CrashDesk$Speed", "low", "I", false)
  | 1 => ("CrashDesk$Speed", "high", "I", false)
  | 2 => ("CrashDesk$Speed", "bottom", "I", false)
  | 3 => ("CrashDesk$Speed", "top", "I", false)
  | 4 => ("CrashDesk$Speed", "prices", "[I", true)
  | _ => ("CrashDesk$Speed", "seen", "[Z", true)
def tyX3 : Nat → FieldType := fun k => match k with
  | 0 => .int
  | 1 => .int
  | 2 => .int
  | 3 => .int
  | 4 => .array .int
  | _ => .array .boolean
abbrev wsX30 : List Cond := u_ws RX3 TX3 6
theorem nmX3 : ∀ a, a < 6 → ∀ b, b < 6 → a ≠ b → (TX3 a).2.1 ≠ (TX3 b).2.1 := by decide +kernel
theorem tyX3_ok : ∀ k, k < 6 → parseFieldDescriptor (TX3 k).2.2.1 = some (tyX3 k) := by decide +kernel
abbrev cX3_init : ByteArray := prog_5_method_1_code
def yX3_init : MethodName := ⟨RX3, "<init>", "()V"⟩
abbrev cX3_clear : ByteArray := prog_5_method_2_code
def yX3_clear : MethodName := ⟨RX3, "clear", "()V"⟩
abbrev cX3_hear : ByteArray := prog_5_method_3_code
def yX3_hear : MethodName := ⟨RX3, "hear", "(LCrashDesk$Tale;I)V"⟩
abbrev cX3_priceOf : ByteArray := prog_5_method_4_code
def yX3_priceOf : MethodName := ⟨RX3, "priceOf", "(I)I"⟩
abbrev cX3_isOpen : ByteArray := prog_5_method_5_code
def yX3_isOpen : MethodName := ⟨RX3, "isOpen", "(I)Z"⟩
abbrev cX3_setPrice : ByteArray := prog_5_method_6_code
def yX3_setPrice : MethodName := ⟨RX3, "setPrice", "(II)V"⟩
abbrev cX3_bound : ByteArray := prog_5_method_7_code
def yX3_bound : MethodName := ⟨RX3, "bound", "()V"⟩
abbrev cX3_see : ByteArray := prog_5_method_8_code
def yX3_see : MethodName := ⟨RX3, "see", "(I)V"⟩
abbrev cX3_isSeen : ByteArray := prog_5_method_9_code
def yX3_isSeen : MethodName := ⟨RX3, "isSeen", "(I)Z"⟩
abbrev cX3_leastSeen : ByteArray := prog_5_method_10_code
def yX3_leastSeen : MethodName := ⟨RX3, "leastSeen", "()I"⟩
abbrev cX3_greatestSeen : ByteArray := prog_5_method_11_code
def yX3_greatestSeen : MethodName := ⟨RX3, "greatestSeen", "()I"⟩
def RX4 : String := "CrashDesk$Tale"
def TX4 : u_T := fun k => match k with
  | 0 => ("CrashDesk$Tale", "car", "I", false)
  | 1 => ("CrashDesk$Tale", "speed", "I", false)
  | 2 => ("CrashDesk$Tale", "low", "I", false)
  | _ => ("CrashDesk$Tale", "high", "I", false)
def tyX4 : Nat → FieldType := fun k => match k with
  | 0 => .int
  | 1 => .int
  | 2 => .int
  | _ => .int
abbrev wsX40 : List Cond := u_ws RX4 TX4 4
theorem nmX4 : ∀ a, a < 4 → ∀ b, b < 4 → a ≠ b → (TX4 a).2.1 ≠ (TX4 b).2.1 := by decide +kernel
theorem tyX4_ok : ∀ k, k < 4 → parseFieldDescriptor (TX4 k).2.2.1 = some (tyX4 k) := by decide +kernel
abbrev cX4_init : ByteArray := prog_6_method_1_code
def yX4_init : MethodName := ⟨RX4, "<init>", "()V"⟩
def RX5 : String := "CrashDesk"
def TX5 : u_T := fun k => match k with
  | 0 => ("CrashDesk", "skids", "[LCrashDesk$Skid;", true)
  | 1 => ("CrashDesk", "tales", "[LCrashDesk$Tale;", true)
  | 2 => ("CrashDesk", "skidCount", "I", false)
  | 3 => ("CrashDesk", "taleCount", "I", false)
  | 4 => ("CrashDesk", "meeting", "LCrashDesk$Meeting;", true)
  | 5 => ("CrashDesk", "reckoned", "Z", false)
  | 6 => ("CrashDesk", "reckonedTales", "I", false)
  | _ => ("CrashDesk", "reckonedWithout", "I", false)
def tyX5 : Nat → FieldType := fun k => match k with
  | 0 => .array (.object "CrashDesk$Skid")
  | 1 => .array (.object "CrashDesk$Tale")
  | 2 => .int
  | 3 => .int
  | 4 => .object "CrashDesk$Meeting"
  | 5 => .boolean
  | 6 => .int
  | _ => .int
abbrev wsX50 : List Cond := u_ws RX5 TX5 8
theorem nmX5 : ∀ a, a < 8 → ∀ b, b < 8 → a ≠ b → (TX5 a).2.1 ≠ (TX5 b).2.1 := by decide +kernel
theorem tyX5_ok : ∀ k, k < 8 → parseFieldDescriptor (TX5 k).2.2.1 = some (tyX5 k) := by decide +kernel
abbrev cX5_init : ByteArray := prog_1_method_1_code
def yX5_init : MethodName := ⟨RX5, "<init>", "()V"⟩
abbrev cX5_mass : ByteArray := prog_1_method_2_code
def yX5_mass : MethodName := ⟨RX5, "mass", "(II)V"⟩
abbrev cX5_skid : ByteArray := prog_1_method_3_code
def yX5_skid : MethodName := ⟨RX5, "skid", "(IZIIII)I"⟩
abbrev cX5_drop : ByteArray := prog_1_method_4_code
def yX5_drop : MethodName := ⟨RX5, "drop", "(IZ)Z"⟩
abbrev cX5_sure : ByteArray := prog_1_method_5_code
def yX5_sure : MethodName := ⟨RX5, "sure", "(IIII)V"⟩
abbrev cX5_tale : ByteArray := prog_1_method_6_code
def yX5_tale : MethodName := ⟨RX5, "tale", "(IIII)I"⟩
abbrev cX5_hush : ByteArray := prog_1_method_7_code
def yX5_hush : MethodName := ⟨RX5, "hush", "()I"⟩
abbrev cX5_ways : ByteArray := prog_1_method_8_code
def yX5_ways : MethodName := ⟨RX5, "ways", "()J"⟩
abbrev cX5_span : ByteArray := prog_1_method_9_code
def yX5_span : MethodName := ⟨RX5, "span", "(IIZZ)I"⟩
abbrev cX5_fit : ByteArray := prog_1_method_10_code
def yX5_fit : MethodName := ⟨RX5, "fit", "(I)Z"⟩
abbrev cX5_wrong : ByteArray := prog_1_method_11_code
def yX5_wrong : MethodName := ⟨RX5, "wrong", "()I"⟩
abbrev cX5_which : ByteArray := prog_1_method_12_code
def yX5_which : MethodName := ⟨RX5, "which", "()I"⟩
abbrev cX5_odds : ByteArray := prog_1_method_13_code
def yX5_odds : MethodName := ⟨RX5, "odds", "()I"⟩
abbrev cX5_avoided : ByteArray := prog_1_method_14_code
def yX5_avoided : MethodName := ⟨RX5, "avoided", "(III)I"⟩
abbrev cX5_look : ByteArray := prog_1_method_15_code
def yX5_look : MethodName := ⟨RX5, "look", "(II)I"⟩
abbrev cX5_can : ByteArray := prog_1_method_16_code
def yX5_can : MethodName := ⟨RX5, "can", "(III)Z"⟩
abbrev cX5_count : ByteArray := prog_1_method_17_code
def yX5_count : MethodName := ⟨RX5, "count", "(I)I"⟩
abbrev cX5_countingSkids : ByteArray := prog_1_method_18_code
def yX5_countingSkids : MethodName := ⟨RX5, "countingSkids", "()I"⟩
abbrev cX5_allTales : ByteArray := prog_1_method_19_code
def yX5_allTales : MethodName := ⟨RX5, "allTales", "()I"⟩
abbrev cX5_testCar : ByteArray := prog_1_method_20_code
def yX5_testCar : MethodName := ⟨RX5, "testCar", "(I)V"⟩
abbrev cX5_testSpeed : ByteArray := prog_1_method_21_code
def yX5_testSpeed : MethodName := ⟨RX5, "testSpeed", "(II)V"⟩
abbrev cX5_testNumber : ByteArray := prog_1_method_22_code
def yX5_testNumber : MethodName := ⟨RX5, "testNumber", "(III)V"⟩
abbrev cX5_testSpan : ByteArray := prog_1_method_23_code
def yX5_testSpan : MethodName := ⟨RX5, "testSpan", "(IIII)V"⟩
abbrev cX5_testWay : ByteArray := prog_1_method_24_code
def yX5_testWay : MethodName := ⟨RX5, "testWay", "()V"⟩
abbrev cX5_carOf : ByteArray := prog_1_method_25_code
def yX5_carOf : MethodName := ⟨RX5, "carOf", "(I)LCrashDesk$Car;"⟩
abbrev cX5_speedOf : ByteArray := prog_1_method_26_code
def yX5_speedOf : MethodName := ⟨RX5, "speedOf", "(II)LCrashDesk$Speed;"⟩
abbrev cX5_skidOf : ByteArray := prog_1_method_27_code
def yX5_skidOf : MethodName := ⟨RX5, "skidOf", "(I)LCrashDesk$Skid;"⟩
abbrev cX5_reckon : ByteArray := prog_1_method_28_code
def yX5_reckon : MethodName := ⟨RX5, "reckon", "(II)V"⟩
abbrev cX5_cheaper : ByteArray := prog_1_method_29_code
def yX5_cheaper : MethodName := ⟨RX5, "cheaper", "(II)I"⟩
def RX6 : String := "CrashDeskModel"
def TX6 : u_T := fun k => match k with
  | 0 => ("CrashDeskModel", "thrown", "I", false)
  | 1 => ("CrashDeskModel", "mass", "[I", true)
  | 2 => ("CrashDeskModel", "sCar", "[I", true)
  | 3 => ("CrashDeskModel", "sBehind", "[Z", true)
  | 4 => ("CrashDeskModel", "sLeast", "[I", true)
  | 5 => ("CrashDeskModel", "sMost", "[I", true)
  | 6 => ("CrashDeskModel", "isDropped", "[Z", true)
  | 7 => ("CrashDeskModel", "skids", "I", false)
  | 8 => ("CrashDeskModel", "low", "[I", true)
  | 9 => ("CrashDeskModel", "high", "[I", true)
  | 10 => ("CrashDeskModel", "tRow", "[I", true)
  | 11 => ("CrashDeskModel", "tLow", "[I", true)
  | 12 => ("CrashDeskModel", "tHigh", "[I", true)
  | 13 => ("CrashDeskModel", "tales", "I", false)
  | 14 => ("CrashDeskModel", "isLet", "[Z", true)
  | 15 => ("CrashDeskModel", "isThere", "[Z", true)
  | 16 => ("CrashDeskModel", "firsts", "[I", true)
  | 17 => ("CrashDeskModel", "many", "J", false)
  | 18 => ("CrashDeskModel", "wanted", "Z", false)
  | 19 => ("CrashDeskModel", "isMask", "[Z", true)
  | 20 => ("CrashDeskModel", "isMade", "[Z", true)
  | 21 => ("CrashDeskModel", "made", "[I", true)
  | _ => ("CrashDeskModel", "mades", "[I", true)
def tyX6 : Nat → FieldType := fun k => match k with
  | 0 => .int
  | 1 => .array .int
  | 2 => .array .int
  | 3 => .array .boolean
  | 4 => .array .int
  | 5 => .array .int
  | 6 => .array .boolean
  | 7 => .int
  | 8 => .array .int
  | 9 => .array .int
  | 10 => .array .int
  | 11 => .array .int
  | 12 => .array .int
  | 13 => .int
  | 14 => .array .boolean
  | 15 => .array .boolean
  | 16 => .array .int
  | 17 => .long
  | 18 => .boolean
  | 19 => .array .boolean
  | 20 => .array .boolean
  | 21 => .array .int
  | _ => .array .int
abbrev wsX60 : List Cond := u_ws RX6 TX6 23
theorem nmX6 : ∀ a, a < 23 → ∀ b, b < 23 → a ≠ b → (TX6 a).2.1 ≠ (TX6 b).2.1 := by decide +kernel
theorem tyX6_ok : ∀ k, k < 23 → parseFieldDescriptor (TX6 k).2.2.1 = some (tyX6 k) := by decide +kernel
abbrev cX6_init : ByteArray := prog_8_method_1_code
def yX6_init : MethodName := ⟨RX6, "<init>", "()V"⟩
abbrev cX6_thrown : ByteArray := prog_8_method_2_code
def yX6_thrown : MethodName := ⟨RX6, "thrown", "()I"⟩
abbrev cX6_throwsIf : ByteArray := prog_8_method_3_code
def yX6_throwsIf : MethodName := ⟨RX6, "throwsIf", "(ZI)Z"⟩
abbrev cX6_in : ByteArray := prog_8_method_4_code
def yX6_in : MethodName := ⟨RX6, "in", "(III)Z"⟩
abbrev cX6_noCar : ByteArray := prog_8_method_5_code
def yX6_noCar : MethodName := ⟨RX6, "noCar", "(I)Z"⟩
abbrev cX6_noSpeed : ByteArray := prog_8_method_6_code
def yX6_noSpeed : MethodName := ⟨RX6, "noSpeed", "(II)Z"⟩
abbrev cX6_noSpan : ByteArray := prog_8_method_7_code
def yX6_noSpan : MethodName := ⟨RX6, "noSpan", "(II)Z"⟩
abbrev cX6_mass : ByteArray := prog_8_method_8_code
def yX6_mass : MethodName := ⟨RX6, "mass", "(II)V"⟩
abbrev cX6_skid : ByteArray := prog_8_method_9_code
def yX6_skid : MethodName := ⟨RX6, "skid", "(IZIIII)I"⟩
abbrev cX6_drop : ByteArray := prog_8_method_10_code
def yX6_drop : MethodName := ⟨RX6, "drop", "(IZ)Z"⟩
abbrev cX6_sure : ByteArray := prog_8_method_11_code
def yX6_sure : MethodName := ⟨RX6, "sure", "(IIII)V"⟩
abbrev cX6_tale : ByteArray := prog_8_method_12_code
def yX6_tale : MethodName := ⟨RX6, "tale", "(IIII)I"⟩
abbrev cX6_hush : ByteArray := prog_8_method_13_code
def yX6_hush : MethodName := ⟨RX6, "hush", "()I"⟩
abbrev cX6_cell : ByteArray := prog_8_method_14_code
def yX6_cell : MethodName := ⟨RX6, "cell", "(II)I"⟩
abbrev cX6_falses : ByteArray := prog_8_method_15_code
def yX6_falses : MethodName := ⟨RX6, "falses", "(II)I"⟩
abbrev cX6_lets : ByteArray := prog_8_method_16_code
def yX6_lets : MethodName := ⟨RX6, "lets", "(I)V"⟩
abbrev cX6_takes : ByteArray := prog_8_method_17_code
def yX6_takes : MethodName := ⟨RX6, "takes", "(IZII)Z"⟩
abbrev cX6_isFirst : ByteArray := prog_8_method_18_code
def yX6_isFirst : MethodName := ⟨RX6, "isFirst", "(IIII)Z"⟩
abbrev cX6_counts : ByteArray := prog_8_method_19_code
def yX6_counts : MethodName := ⟨RX6, "counts", "(I)V"⟩
abbrev cX6_goes : ByteArray := prog_8_method_20_code
def yX6_goes : MethodName := ⟨RX6, "goes", "(II)Z"⟩
abbrev cX6_makes : ByteArray := prog_8_method_21_code
def yX6_makes : MethodName := ⟨RX6, "makes", "()V"⟩
abbrev cX6_masks : ByteArray := prog_8_method_22_code
def yX6_masks : MethodName := ⟨RX6, "masks", "(III)V"⟩
abbrev cX6_fewest : ByteArray := prog_8_method_23_code
def yX6_fewest : MethodName := ⟨RX6, "fewest", "()I"⟩
abbrev cX6_all : ByteArray := prog_8_method_24_code
def yX6_all : MethodName := ⟨RX6, "all", "()I"⟩
abbrev cX6_ways : ByteArray := prog_8_method_25_code
def yX6_ways : MethodName := ⟨RX6, "ways", "()J"⟩
abbrev cX6_span : ByteArray := prog_8_method_26_code
def yX6_span : MethodName := ⟨RX6, "span", "(IIZZ)I"⟩
abbrev cX6_fit : ByteArray := prog_8_method_27_code
def yX6_fit : MethodName := ⟨RX6, "fit", "(I)Z"⟩
abbrev cX6_wrong : ByteArray := prog_8_method_28_code
def yX6_wrong : MethodName := ⟨RX6, "wrong", "()I"⟩
abbrev cX6_which : ByteArray := prog_8_method_29_code
def yX6_which : MethodName := ⟨RX6, "which", "()I"⟩
abbrev cX6_odds : ByteArray := prog_8_method_30_code
def yX6_odds : MethodName := ⟨RX6, "odds", "()I"⟩
abbrev cX6_avoided : ByteArray := prog_8_method_31_code
def yX6_avoided : MethodName := ⟨RX6, "avoided", "(III)I"⟩
abbrev cX6_look : ByteArray := prog_8_method_32_code
def yX6_look : MethodName := ⟨RX6, "look", "(II)I"⟩
abbrev cX6_can : ByteArray := prog_8_method_33_code
def yX6_can : MethodName := ⟨RX6, "can", "(III)Z"⟩
abbrev cX6_count : ByteArray := prog_8_method_34_code
def yX6_count : MethodName := ⟨RX6, "count", "(I)I"⟩
def RJx145de : String := "java/io/Serializable"
def TJx145de : u_T := fun k => match k with
  | _ => ("", "", "", false)
def tyJx145de : Nat → FieldType := fun k => match k with
  | _ => .int
abbrev wsJx145de0 : List Cond := u_ws RJx145de TJx145de 0
theorem nmJx145de : ∀ a, a < 0 → ∀ b, b < 0 → a ≠ b → (TJx145de a).2.1 ≠ (TJx145de b).2.1 := by decide +kernel
theorem tyJx145de_ok : ∀ k, k < 0 → parseFieldDescriptor (TJx145de k).2.2.1 = some (tyJx145de k) := by decide +kernel
def RJ6 : String := "java/lang/Integer"
def TJ6 : u_T := fun k => match k with
  | _ => ("", "", "", false)
def tyJ6 : Nat → FieldType := fun k => match k with
  | _ => .int
abbrev wsJ60 : List Cond := u_ws RJ6 TJ6 0
theorem nmJ6 : ∀ a, a < 0 → ∀ b, b < 0 → a ≠ b → (TJ6 a).2.1 ≠ (TJ6 b).2.1 := by decide +kernel
theorem tyJ6_ok : ∀ k, k < 0 → parseFieldDescriptor (TJ6 k).2.2.1 = some (tyJ6 k) := by decide +kernel
abbrev cJ6_bitCount_0f7a4 : ByteArray := prog_13_method_49_code
def yJ6_bitCount_0f7a4 : MethodName := ⟨RJ6, "bitCount", "(I)I"⟩
def RJ9 : String := "java/lang/Math"
def TJ9 : u_T := fun k => match k with
  | _ => ("", "", "", false)
def tyJ9 : Nat → FieldType := fun k => match k with
  | _ => .int
abbrev wsJ90 : List Cond := u_ws RJ9 TJ9 0
theorem nmJ9 : ∀ a, a < 0 → ∀ b, b < 0 → a ≠ b → (TJ9 a).2.1 ≠ (TJ9 b).2.1 := by decide +kernel
theorem tyJ9_ok : ∀ k, k < 0 → parseFieldDescriptor (TJ9 k).2.2.1 = some (tyJ9 k) := by decide +kernel
abbrev cJ9_abs_0f7a4 : ByteArray := prog_14_method_59_code
def yJ9_abs_0f7a4 : MethodName := ⟨RJ9, "abs", "(I)I"⟩
abbrev cJ9_max_7cf53 : ByteArray := prog_14_method_65_code
def yJ9_max_7cf53 : MethodName := ⟨RJ9, "max", "(II)I"⟩
abbrev cJ9_min_7cf53 : ByteArray := prog_14_method_69_code
def yJ9_min_7cf53 : MethodName := ⟨RJ9, "min", "(II)I"⟩
def RJ0 : String := "java/lang/String"
def TJ0 : u_T := fun k => match k with
  | _ => ("", "", "", false)
def tyJ0 : Nat → FieldType := fun k => match k with
  | _ => .int
abbrev wsJ00 : List Cond := u_ws RJ0 TJ0 0
theorem nmJ0 : ∀ a, a < 0 → ∀ b, b < 0 → a ≠ b → (TJ0 a).2.1 ≠ (TJ0 b).2.1 := by decide +kernel
theorem tyJ0_ok : ∀ k, k < 0 → parseFieldDescriptor (TJ0 k).2.2.1 = some (tyJ0 k) := by decide +kernel
def RL : String := "CrashDeskLaw"
abbrev cL_mass : ByteArray := method_3_code
def yL_mass : MethodName := ⟨RL, "mass", "(LCrashDesk;II)I"⟩
abbrev cL_skid : ByteArray := method_4_code
def yL_skid : MethodName := ⟨RL, "skid", "(LCrashDesk;IZIIII[J)I"⟩
abbrev cL_drop : ByteArray := method_5_code
def yL_drop : MethodName := ⟨RL, "drop", "(LCrashDesk;IZ[J)I"⟩
abbrev cL_sure : ByteArray := method_6_code
def yL_sure : MethodName := ⟨RL, "sure", "(LCrashDesk;IIII)I"⟩
abbrev cL_tale : ByteArray := method_7_code
def yL_tale : MethodName := ⟨RL, "tale", "(LCrashDesk;IIII[J)I"⟩
abbrev cL_span : ByteArray := method_8_code
def yL_span : MethodName := ⟨RL, "span", "(LCrashDesk;IIZZ[J)I"⟩
abbrev cL_avoided : ByteArray := method_9_code
def yL_avoided : MethodName := ⟨RL, "avoided", "(LCrashDesk;III[J)I"⟩
abbrev cL_look : ByteArray := method_10_code
def yL_look : MethodName := ⟨RL, "look", "(LCrashDesk;II[J)I"⟩
abbrev cL_can : ByteArray := method_11_code
def yL_can : MethodName := ⟨RL, "can", "(LCrashDesk;III[J)I"⟩
abbrev cL_law : ByteArray := code
def yL_law : MethodName := ⟨RL, "law", "([I)Z"⟩
def wsX3_init : List Cond := .code yX3_init cX3_init 1 none :: ([.methodLink RX3 3 objectInit, .instanceMethod objectInit, .code objectInit ⟨#[0xb1]⟩ 1 none, .fieldLink RX3 9 "CrashDesk$Speed" "low" "I", .fieldLink RX3 15 "CrashDesk$Speed" "high" "I", .fieldLink RX3 18 "CrashDesk$Speed" "bottom" "I", .fieldLink RX3 21 "CrashDesk$Speed" "top" "I", .arrayClass .int, .fieldLink RX3 24 "CrashDesk$Speed" "prices" "[I", .arrayClass .boolean, .fieldLink RX3 28 "CrashDesk$Speed" "seen" "[Z"] ++ wsX30)
def wsX0_init_r1 : List Cond := [Cond.methodLink RX0 3 objectInit, Cond.instanceMethod objectInit, Cond.code objectInit ⟨#[0xb1]⟩ 1 none, Cond.fieldLink RX0 9 "CrashDesk$Car" "mass" "I", Cond.classLink RX0 15 RX3, Cond.instantiable RX3 6, Cond.initialized RX3, Cond.fieldLink RX0 18 "CrashDesk$Car" "first" "LCrashDesk$Speed;", Cond.fieldLink RX0 22 "CrashDesk$Car" "at" "LCrashDesk$Speed;", Cond.fieldLink RX0 25 "CrashDesk$Car" "after" "LCrashDesk$Speed;", Cond.arrayClass .int, Cond.fieldLink RX0 28 "CrashDesk$Car" "firstCounts" "[I", Cond.fieldLink RX0 32 "CrashDesk$Car" "aheadLeast" "I", Cond.fieldLink RX0 35 "CrashDesk$Car" "aheadGreatest" "I", Cond.fieldLink RX0 38 "CrashDesk$Car" "behindLeast" "I", Cond.fieldLink RX0 41 "CrashDesk$Car" "behindGreatest" "I", Cond.fieldLink RX0 44 "CrashDesk$Car" "skidsBehind" "Z", Cond.instanceMethod yX3_init, Cond.code yX3_init cX3_init 1 none, Cond.methodLink RX3 3 objectInit, Cond.fieldLink RX3 9 "CrashDesk$Speed" "low" "I", Cond.fieldLink RX3 15 "CrashDesk$Speed" "high" "I", Cond.fieldLink RX3 18 "CrashDesk$Speed" "bottom" "I", Cond.fieldLink RX3 21 "CrashDesk$Speed" "top" "I"]
def wsX0_init_r2 : List Cond := [Cond.fieldLink RX3 24 "CrashDesk$Speed" "prices" "[I", Cond.arrayClass .boolean, Cond.fieldLink RX3 28 "CrashDesk$Speed" "seen" "[Z"]
def wsX0_init : List Cond := .code yX0_init cX0_init 1 none :: ((wsX0_init_r1 ++ wsX0_init_r2) ++ wsX00 ++ wsX30)
def wsX0_pick : List Cond := .code yX0_pick cX0_pick 2 (some (.object "CrashDesk$Speed")) :: ([.fieldLink RX0 18 "CrashDesk$Car" "first" "LCrashDesk$Speed;", .fieldLink RX0 22 "CrashDesk$Car" "at" "LCrashDesk$Speed;", .fieldLink RX0 25 "CrashDesk$Car" "after" "LCrashDesk$Speed;"] ++ wsX00)
def wsX3_setPrice : List Cond := .code yX3_setPrice cX3_setPrice 3 none :: ([.fieldLink RX3 24 "CrashDesk$Speed" "prices" "[I"] ++ wsX30)
def wsX3_clear : List Cond := .code yX3_clear cX3_clear 2 none :: ([.fieldLink RX3 9 "CrashDesk$Speed" "low" "I", .fieldLink RX3 15 "CrashDesk$Speed" "high" "I", .fieldLink RX3 28 "CrashDesk$Speed" "seen" "[Z", .methodLink RX3 32 yX3_setPrice, .instanceMethod yX3_setPrice, .selects RX3 yX3_setPrice yX3_setPrice, .initialized RX3, .code yX3_setPrice cX3_setPrice 3 none, .fieldLink RX3 24 "CrashDesk$Speed" "prices" "[I"] ++ wsX30)
def wsX0_clear : List Cond := .code yX0_clear cX0_clear 1 none :: ([.fieldLink RX0 18 "CrashDesk$Car" "first" "LCrashDesk$Speed;", .fieldLink RX0 22 "CrashDesk$Car" "at" "LCrashDesk$Speed;", .fieldLink RX0 25 "CrashDesk$Car" "after" "LCrashDesk$Speed;", .fieldLink RX0 32 "CrashDesk$Car" "aheadLeast" "I", .fieldLink RX0 35 "CrashDesk$Car" "aheadGreatest" "I", .fieldLink RX0 38 "CrashDesk$Car" "behindLeast" "I", .fieldLink RX0 41 "CrashDesk$Car" "behindGreatest" "I", .fieldLink RX0 44 "CrashDesk$Car" "skidsBehind" "Z", .methodLink RX0 48 yX3_clear, .instanceMethod yX3_clear, .selects RX3 yX3_clear yX3_clear, .initialized RX3, .code yX3_clear cX3_clear 2 none, .fieldLink RX3 9 "CrashDesk$Speed" "low" "I", .fieldLink RX3 15 "CrashDesk$Speed" "high" "I", .fieldLink RX3 28 "CrashDesk$Speed" "seen" "[Z", .methodLink RX3 32 yX3_setPrice, .instanceMethod yX3_setPrice, .selects RX3 yX3_setPrice yX3_setPrice, .code yX3_setPrice cX3_setPrice 3 none, .fieldLink RX3 24 "CrashDesk$Speed" "prices" "[I"] ++ wsX00 ++ wsX30)
def wsX0_add : List Cond := .code yX0_add cX0_add 2 none :: ([.fieldLink RX0 51 "CrashDesk$Skid" "behind" "Z", .fieldLink RX0 38 "CrashDesk$Car" "behindLeast" "I", .fieldLink RX0 56 "CrashDesk$Skid" "least" "I", .fieldLink RX0 41 "CrashDesk$Car" "behindGreatest" "I", .fieldLink RX0 59 "CrashDesk$Skid" "greatest" "I", .fieldLink RX0 44 "CrashDesk$Car" "skidsBehind" "Z", .fieldLink RX0 32 "CrashDesk$Car" "aheadLeast" "I", .fieldLink RX0 35 "CrashDesk$Car" "aheadGreatest" "I"] ++ wsX20 ++ wsX00)
def wsX0_isTakenBehind : List Cond := .code yX0_isTakenBehind cX0_isTakenBehind 3 (some .boolean) :: ([.fieldLink RX0 38 "CrashDesk$Car" "behindLeast" "I", .fieldLink RX0 41 "CrashDesk$Car" "behindGreatest" "I"] ++ wsX00)
def wsX3_priceOf : List Cond := .code yX3_priceOf cX3_priceOf 2 (some .int) :: ([.fieldLink RX3 24 "CrashDesk$Speed" "prices" "[I"] ++ wsX30)
def wsX3_isOpen : List Cond := .code yX3_isOpen cX3_isOpen 2 (some .boolean) :: ([.methodLink RX3 44 yX3_priceOf, .instanceMethod yX3_priceOf, .selects RX3 yX3_priceOf yX3_priceOf, .initialized RX3, .code yX3_priceOf cX3_priceOf 2 (some .int), .fieldLink RX3 24 "CrashDesk$Speed" "prices" "[I"] ++ wsX30)
def wsX0_isTakenAhead : List Cond := .code yX0_isTakenAhead cX0_isTakenAhead 4 (some .boolean) :: ([.fieldLink RX0 32 "CrashDesk$Car" "aheadLeast" "I", .fieldLink RX0 35 "CrashDesk$Car" "aheadGreatest" "I"] ++ wsX00)
def wsX0_firstFor : List Cond := .code yX0_firstFor cX0_firstFor 2 (some .int) :: ([])
def wsX5_cheaper : List Cond := .code yX5_cheaper cX5_cheaper 2 (some .int) :: ([])
def wsX0_joinFirsts_r1 : List Cond := [Cond.methodLink RX0 86 Lib.Math.abs.name, Cond.static Lib.Math.abs.name, Cond.initialized "java/lang/Math", Cond.code Lib.Math.abs.name Lib.Math.abs.code 1 (some .int), Cond.fieldLink RX0 18 "CrashDesk$Car" "first" "LCrashDesk$Speed;", Cond.fieldLink RX0 28 "CrashDesk$Car" "firstCounts" "[I", Cond.fieldLink RX0 22 "CrashDesk$Car" "at" "LCrashDesk$Speed;", Cond.methodLink RX0 95 yX0_isTakenAhead, Cond.instanceMethod yX0_isTakenAhead, Cond.selects RX0 yX0_isTakenAhead yX0_isTakenAhead, Cond.initialized RX0, Cond.code yX0_isTakenAhead cX0_isTakenAhead 4 (some .boolean), Cond.fieldLink RX0 32 "CrashDesk$Car" "aheadLeast" "I", Cond.fieldLink RX0 35 "CrashDesk$Car" "aheadGreatest" "I", Cond.methodLink RX0 99 yX0_firstFor, Cond.static yX0_firstFor, Cond.code yX0_firstFor cX0_firstFor 2 (some .int), Cond.methodLink RX0 106 yX3_priceOf, Cond.instanceMethod yX3_priceOf, Cond.selects RX3 yX3_priceOf yX3_priceOf, Cond.initialized RX3, Cond.code yX3_priceOf cX3_priceOf 2 (some .int), Cond.fieldLink RX3 24 "CrashDesk$Speed" "prices" "[I", Cond.static yX5_cheaper]
def wsX0_joinFirsts_r2 : List Cond := [Cond.initialized RX5, Cond.code yX5_cheaper cX5_cheaper 2 (some .int), Cond.methodLink RX0 66 yX3_setPrice, Cond.instanceMethod yX3_setPrice, Cond.selects RX3 yX3_setPrice yX3_setPrice, Cond.code yX3_setPrice cX3_setPrice 3 none]
def wsX0_joinFirsts : List Cond := .code yX0_joinFirsts cX0_joinFirsts 6 none :: ((wsX0_joinFirsts_r1 ++ wsX0_joinFirsts_r2) ++ wsX00 ++ wsX30)
def wsX3_bound : List Cond := .code yX3_bound cX3_bound 2 none :: ([.fieldLink RX3 18 "CrashDesk$Speed" "bottom" "I", .fieldLink RX3 21 "CrashDesk$Speed" "top" "I", .methodLink RX3 48 Lib.Math.min.name, .static Lib.Math.min.name, .initialized "java/lang/Math", .code Lib.Math.min.name Lib.Math.min.code 2 (some .int), .methodLink RX3 40 yX3_isOpen, .instanceMethod yX3_isOpen, .selects RX3 yX3_isOpen yX3_isOpen, .initialized RX3, .code yX3_isOpen cX3_isOpen 2 (some .boolean), .methodLink RX3 44 yX3_priceOf, .instanceMethod yX3_priceOf, .selects RX3 yX3_priceOf yX3_priceOf, .code yX3_priceOf cX3_priceOf 2 (some .int), .fieldLink RX3 24 "CrashDesk$Speed" "prices" "[I"] ++ wsX30)
def wsX0_settle_r1 : List Cond := [Cond.fieldLink RX0 44 "CrashDesk$Car" "skidsBehind" "Z", Cond.fieldLink RX0 25 "CrashDesk$Car" "after" "LCrashDesk$Speed;", Cond.fieldLink RX0 22 "CrashDesk$Car" "at" "LCrashDesk$Speed;", Cond.methodLink RX0 62 yX0_isTakenBehind, Cond.instanceMethod yX0_isTakenBehind, Cond.selects RX0 yX0_isTakenBehind yX0_isTakenBehind, Cond.initialized RX0, Cond.code yX0_isTakenBehind cX0_isTakenBehind 3 (some .boolean), Cond.fieldLink RX0 38 "CrashDesk$Car" "behindLeast" "I", Cond.fieldLink RX0 41 "CrashDesk$Car" "behindGreatest" "I", Cond.methodLink RX0 66 yX3_setPrice, Cond.instanceMethod yX3_setPrice, Cond.selects RX3 yX3_setPrice yX3_setPrice, Cond.initialized RX3, Cond.code yX3_setPrice cX3_setPrice 3 none, Cond.fieldLink RX3 24 "CrashDesk$Speed" "prices" "[I", Cond.methodLink RX0 70 yX3_isOpen, Cond.instanceMethod yX3_isOpen, Cond.selects RX3 yX3_isOpen yX3_isOpen, Cond.code yX3_isOpen cX3_isOpen 2 (some .boolean), Cond.methodLink RX3 44 yX3_priceOf, Cond.instanceMethod yX3_priceOf, Cond.selects RX3 yX3_priceOf yX3_priceOf, Cond.code yX3_priceOf cX3_priceOf 2 (some .int)]
def wsX0_settle_r2 : List Cond := [Cond.methodLink RX0 73 yX0_joinFirsts, Cond.instanceMethod yX0_joinFirsts, Cond.selects RX0 yX0_joinFirsts yX0_joinFirsts, Cond.code yX0_joinFirsts cX0_joinFirsts 6 none, Cond.methodLink RX0 86 Lib.Math.abs.name, Cond.static Lib.Math.abs.name, Cond.initialized "java/lang/Math", Cond.code Lib.Math.abs.name Lib.Math.abs.code 1 (some .int), Cond.fieldLink RX0 18 "CrashDesk$Car" "first" "LCrashDesk$Speed;", Cond.fieldLink RX0 28 "CrashDesk$Car" "firstCounts" "[I", Cond.methodLink RX0 95 yX0_isTakenAhead, Cond.instanceMethod yX0_isTakenAhead, Cond.selects RX0 yX0_isTakenAhead yX0_isTakenAhead, Cond.code yX0_isTakenAhead cX0_isTakenAhead 4 (some .boolean), Cond.fieldLink RX0 32 "CrashDesk$Car" "aheadLeast" "I", Cond.fieldLink RX0 35 "CrashDesk$Car" "aheadGreatest" "I", Cond.methodLink RX0 99 yX0_firstFor, Cond.static yX0_firstFor, Cond.code yX0_firstFor cX0_firstFor 2 (some .int), Cond.methodLink RX0 106 yX3_priceOf, Cond.static yX5_cheaper, Cond.initialized RX5, Cond.code yX5_cheaper cX5_cheaper 2 (some .int), Cond.methodLink RX0 77 yX3_bound]
def wsX0_settle_r3 : List Cond := [Cond.instanceMethod yX3_bound, Cond.selects RX3 yX3_bound yX3_bound, Cond.code yX3_bound cX3_bound 2 none, Cond.fieldLink RX3 18 "CrashDesk$Speed" "bottom" "I", Cond.fieldLink RX3 21 "CrashDesk$Speed" "top" "I", Cond.methodLink RX3 48 Lib.Math.min.name, Cond.static Lib.Math.min.name, Cond.code Lib.Math.min.name Lib.Math.min.code 2 (some .int), Cond.methodLink RX3 40 yX3_isOpen]
def wsX0_settle : List Cond := .code yX0_settle cX0_settle 2 none :: ((wsX0_settle_r1 ++ (wsX0_settle_r2 ++ wsX0_settle_r3)) ++ wsX00 ++ wsX30)
def wsX0_firstCount : List Cond := .code yX0_firstCount cX0_firstCount 2 (some .int) :: ([.fieldLink RX0 28 "CrashDesk$Car" "firstCounts" "[I"] ++ wsX00)
def wsX3_isSeen : List Cond := .code yX3_isSeen cX3_isSeen 2 (some .boolean) :: ([.fieldLink RX3 28 "CrashDesk$Speed" "seen" "[Z"] ++ wsX30)
def wsX3_see : List Cond := .code yX3_see cX3_see 2 none :: ([.fieldLink RX3 28 "CrashDesk$Speed" "seen" "[Z"] ++ wsX30)
def wsX0_seeFirsts_r1 : List Cond := [Cond.fieldLink RX0 22 "CrashDesk$Car" "at" "LCrashDesk$Speed;", Cond.fieldLink RX0 80 "CrashDesk$Speed" "bottom" "I", Cond.fieldLink RX0 83 "CrashDesk$Speed" "top" "I", Cond.methodLink RX0 86 Lib.Math.abs.name, Cond.static Lib.Math.abs.name, Cond.initialized "java/lang/Math", Cond.code Lib.Math.abs.name Lib.Math.abs.code 1 (some .int), Cond.fieldLink RX0 18 "CrashDesk$Car" "first" "LCrashDesk$Speed;", Cond.methodLink RX0 92 yX3_isSeen, Cond.instanceMethod yX3_isSeen, Cond.selects RX3 yX3_isSeen yX3_isSeen, Cond.initialized RX3, Cond.code yX3_isSeen cX3_isSeen 2 (some .boolean), Cond.fieldLink RX3 28 "CrashDesk$Speed" "seen" "[Z", Cond.methodLink RX0 95 yX0_isTakenAhead, Cond.instanceMethod yX0_isTakenAhead, Cond.selects RX0 yX0_isTakenAhead yX0_isTakenAhead, Cond.initialized RX0, Cond.code yX0_isTakenAhead cX0_isTakenAhead 4 (some .boolean), Cond.fieldLink RX0 32 "CrashDesk$Car" "aheadLeast" "I", Cond.fieldLink RX0 35 "CrashDesk$Car" "aheadGreatest" "I", Cond.methodLink RX0 99 yX0_firstFor, Cond.static yX0_firstFor, Cond.code yX0_firstFor cX0_firstFor 2 (some .int)]
def wsX0_seeFirsts_r2 : List Cond := [Cond.methodLink RX0 70 yX3_isOpen, Cond.instanceMethod yX3_isOpen, Cond.selects RX3 yX3_isOpen yX3_isOpen, Cond.code yX3_isOpen cX3_isOpen 2 (some .boolean), Cond.methodLink RX3 44 yX3_priceOf, Cond.instanceMethod yX3_priceOf, Cond.selects RX3 yX3_priceOf yX3_priceOf, Cond.code yX3_priceOf cX3_priceOf 2 (some .int), Cond.fieldLink RX3 24 "CrashDesk$Speed" "prices" "[I", Cond.methodLink RX0 103 yX3_see, Cond.instanceMethod yX3_see, Cond.selects RX3 yX3_see yX3_see, Cond.code yX3_see cX3_see 2 none]
def wsX0_seeFirsts : List Cond := .code yX0_seeFirsts cX0_seeFirsts 3 none :: ((wsX0_seeFirsts_r1 ++ wsX0_seeFirsts_r2) ++ wsX00 ++ wsX30)
def wsX1_init_r1 : List Cond := [Cond.methodLink RX1 3 objectInit, Cond.instanceMethod objectInit, Cond.code objectInit ⟨#[0xb1]⟩ 1 none, Cond.classLink RX1 9 RX0, Cond.instantiable RX0 10, Cond.initialized RX0, Cond.fieldLink RX1 12 "CrashDesk$Meeting" "zero" "LCrashDesk$Car;", Cond.fieldLink RX1 18 "CrashDesk$Meeting" "one" "LCrashDesk$Car;", Cond.fieldLink RX1 21 "CrashDesk$Meeting" "wayCount" "J", Cond.fieldLink RX1 25 "CrashDesk$Meeting" "cheapest" "I", Cond.fieldLink RX1 29 "CrashDesk$Meeting" "loss" "I", Cond.fieldLink RX1 32 "CrashDesk$Meeting" "gain" "I", Cond.instanceMethod yX0_init, Cond.code yX0_init cX0_init 1 none, Cond.methodLink RX0 3 objectInit, Cond.fieldLink RX0 9 "CrashDesk$Car" "mass" "I", Cond.classLink RX0 15 RX3, Cond.instantiable RX3 6, Cond.initialized RX3, Cond.fieldLink RX0 18 "CrashDesk$Car" "first" "LCrashDesk$Speed;", Cond.fieldLink RX0 22 "CrashDesk$Car" "at" "LCrashDesk$Speed;", Cond.fieldLink RX0 25 "CrashDesk$Car" "after" "LCrashDesk$Speed;", Cond.arrayClass .int, Cond.fieldLink RX0 28 "CrashDesk$Car" "firstCounts" "[I"]
def wsX1_init_r2 : List Cond := [Cond.fieldLink RX0 32 "CrashDesk$Car" "aheadLeast" "I", Cond.fieldLink RX0 35 "CrashDesk$Car" "aheadGreatest" "I", Cond.fieldLink RX0 38 "CrashDesk$Car" "behindLeast" "I", Cond.fieldLink RX0 41 "CrashDesk$Car" "behindGreatest" "I", Cond.fieldLink RX0 44 "CrashDesk$Car" "skidsBehind" "Z", Cond.instanceMethod yX3_init, Cond.code yX3_init cX3_init 1 none, Cond.methodLink RX3 3 objectInit, Cond.fieldLink RX3 9 "CrashDesk$Speed" "low" "I", Cond.fieldLink RX3 15 "CrashDesk$Speed" "high" "I", Cond.fieldLink RX3 18 "CrashDesk$Speed" "bottom" "I", Cond.fieldLink RX3 21 "CrashDesk$Speed" "top" "I", Cond.fieldLink RX3 24 "CrashDesk$Speed" "prices" "[I", Cond.arrayClass .boolean, Cond.fieldLink RX3 28 "CrashDesk$Speed" "seen" "[Z"]
def wsX1_init : List Cond := .code yX1_init cX1_init 1 none :: ((wsX1_init_r1 ++ wsX1_init_r2) ++ wsX00 ++ wsX10 ++ wsX30)
def wsX1_pick : List Cond := .code yX1_pick cX1_pick 2 (some (.object "CrashDesk$Car")) :: ([.fieldLink RX1 12 "CrashDesk$Meeting" "zero" "LCrashDesk$Car;", .fieldLink RX1 18 "CrashDesk$Meeting" "one" "LCrashDesk$Car;"] ++ wsX10)
def wsX1_lowestShare : List Cond := .code yX1_lowestShare cX1_lowestShare 3 (some .int) :: ([])
def wsX1_meet_r1 : List Cond := [Cond.fieldLink RX1 32 "CrashDesk$Meeting" "gain" "I", Cond.fieldLink RX1 29 "CrashDesk$Meeting" "loss" "I", Cond.fieldLink RX1 18 "CrashDesk$Meeting" "one" "LCrashDesk$Car;", Cond.fieldLink RX1 45 "CrashDesk$Car" "at" "LCrashDesk$Speed;", Cond.fieldLink RX1 49 "CrashDesk$Speed" "bottom" "I", Cond.fieldLink RX1 68 "CrashDesk$Car" "after" "LCrashDesk$Speed;", Cond.methodLink RX1 75 Lib.Math.max.name, Cond.static Lib.Math.max.name, Cond.initialized "java/lang/Math", Cond.code Lib.Math.max.name Lib.Math.max.code 2 (some .int), Cond.fieldLink RX1 54 "CrashDesk$Speed" "top" "I", Cond.methodLink RX1 80 Lib.Math.min.name, Cond.static Lib.Math.min.name, Cond.code Lib.Math.min.name Lib.Math.min.code 2 (some .int), Cond.fieldLink RX1 12 "CrashDesk$Meeting" "zero" "LCrashDesk$Car;", Cond.fieldLink RX1 21 "CrashDesk$Meeting" "wayCount" "J", Cond.fieldLink RX1 25 "CrashDesk$Meeting" "cheapest" "I", Cond.static yX5_cheaper, Cond.initialized RX5, Cond.code yX5_cheaper cX5_cheaper 2 (some .int), Cond.methodLink RX1 97 yX3_see, Cond.instanceMethod yX3_see, Cond.selects RX3 yX3_see yX3_see, Cond.initialized RX3]
def wsX1_meet_r2 : List Cond := [Cond.code yX3_see cX3_see 2 none, Cond.fieldLink RX3 28 "CrashDesk$Speed" "seen" "[Z", Cond.methodLink RX1 100 yX0_firstCount, Cond.instanceMethod yX0_firstCount, Cond.selects RX0 yX0_firstCount yX0_firstCount, Cond.initialized RX0, Cond.code yX0_firstCount cX0_firstCount 2 (some .int), Cond.fieldLink RX0 28 "CrashDesk$Car" "firstCounts" "[I", Cond.methodLink RX1 104 yX3_priceOf, Cond.instanceMethod yX3_priceOf, Cond.selects RX3 yX3_priceOf yX3_priceOf, Cond.code yX3_priceOf cX3_priceOf 2 (some .int), Cond.fieldLink RX3 24 "CrashDesk$Speed" "prices" "[I"]
def wsX1_meet : List Cond := .code yX1_meet cX1_meet 13 none :: ((wsX1_meet_r1 ++ wsX1_meet_r2) ++ wsX10 ++ wsX00 ++ wsX30)
def wsX1_pushFrom_r1 : List Cond := [Cond.fieldLink RX1 29 "CrashDesk$Meeting" "loss" "I", Cond.fieldLink RX1 12 "CrashDesk$Meeting" "zero" "LCrashDesk$Car;", Cond.fieldLink RX1 68 "CrashDesk$Car" "after" "LCrashDesk$Speed;", Cond.fieldLink RX1 49 "CrashDesk$Speed" "bottom" "I", Cond.methodLink RX1 57 yX3_isOpen, Cond.instanceMethod yX3_isOpen, Cond.selects RX3 yX3_isOpen yX3_isOpen, Cond.initialized RX3, Cond.code yX3_isOpen cX3_isOpen 2 (some .boolean), Cond.methodLink RX3 44 yX3_priceOf, Cond.instanceMethod yX3_priceOf, Cond.selects RX3 yX3_priceOf yX3_priceOf, Cond.code yX3_priceOf cX3_priceOf 2 (some .int), Cond.fieldLink RX3 24 "CrashDesk$Speed" "prices" "[I", Cond.methodLink RX1 71 yX1_meet, Cond.instanceMethod yX1_meet, Cond.selects RX1 yX1_meet yX1_meet, Cond.initialized RX1, Cond.code yX1_meet cX1_meet 13 none, Cond.fieldLink RX1 32 "CrashDesk$Meeting" "gain" "I", Cond.fieldLink RX1 18 "CrashDesk$Meeting" "one" "LCrashDesk$Car;", Cond.fieldLink RX1 45 "CrashDesk$Car" "at" "LCrashDesk$Speed;", Cond.methodLink RX1 75 Lib.Math.max.name, Cond.static Lib.Math.max.name]
def wsX1_pushFrom_r2 : List Cond := [Cond.initialized "java/lang/Math", Cond.code Lib.Math.max.name Lib.Math.max.code 2 (some .int), Cond.fieldLink RX1 54 "CrashDesk$Speed" "top" "I", Cond.methodLink RX1 80 Lib.Math.min.name, Cond.static Lib.Math.min.name, Cond.code Lib.Math.min.name Lib.Math.min.code 2 (some .int), Cond.fieldLink RX1 21 "CrashDesk$Meeting" "wayCount" "J", Cond.fieldLink RX1 25 "CrashDesk$Meeting" "cheapest" "I", Cond.static yX5_cheaper, Cond.initialized RX5, Cond.code yX5_cheaper cX5_cheaper 2 (some .int), Cond.methodLink RX1 97 yX3_see, Cond.instanceMethod yX3_see, Cond.selects RX3 yX3_see yX3_see, Cond.code yX3_see cX3_see 2 none, Cond.fieldLink RX3 28 "CrashDesk$Speed" "seen" "[Z", Cond.methodLink RX1 100 yX0_firstCount, Cond.instanceMethod yX0_firstCount, Cond.selects RX0 yX0_firstCount yX0_firstCount, Cond.initialized RX0, Cond.code yX0_firstCount cX0_firstCount 2 (some .int), Cond.fieldLink RX0 28 "CrashDesk$Car" "firstCounts" "[I", Cond.methodLink RX1 104 yX3_priceOf]
def wsX1_pushFrom : List Cond := .code yX1_pushFrom cX1_pushFrom 3 none :: ((wsX1_pushFrom_r1 ++ wsX1_pushFrom_r2) ++ wsX10 ++ wsX00 ++ wsX30)
def wsX1_reckon_r1 : List Cond := [Cond.fieldLink RX1 21 "CrashDesk$Meeting" "wayCount" "J", Cond.fieldLink RX1 25 "CrashDesk$Meeting" "cheapest" "I", Cond.fieldLink RX1 18 "CrashDesk$Meeting" "one" "LCrashDesk$Car;", Cond.fieldLink RX1 35 "CrashDesk$Car" "mass" "I", Cond.fieldLink RX1 12 "CrashDesk$Meeting" "zero" "LCrashDesk$Car;", Cond.fieldLink RX1 29 "CrashDesk$Meeting" "loss" "I", Cond.fieldLink RX1 32 "CrashDesk$Meeting" "gain" "I", Cond.fieldLink RX1 45 "CrashDesk$Car" "at" "LCrashDesk$Speed;", Cond.fieldLink RX1 49 "CrashDesk$Speed" "bottom" "I", Cond.fieldLink RX1 54 "CrashDesk$Speed" "top" "I", Cond.methodLink RX1 38 yX1_lowestShare, Cond.static yX1_lowestShare, Cond.initialized RX1, Cond.code yX1_lowestShare cX1_lowestShare 3 (some .int), Cond.methodLink RX1 42 yX0_settle, Cond.instanceMethod yX0_settle, Cond.selects RX0 yX0_settle yX0_settle, Cond.initialized RX0, Cond.code yX0_settle cX0_settle 2 none, Cond.fieldLink RX0 44 "CrashDesk$Car" "skidsBehind" "Z", Cond.fieldLink RX0 25 "CrashDesk$Car" "after" "LCrashDesk$Speed;", Cond.fieldLink RX0 22 "CrashDesk$Car" "at" "LCrashDesk$Speed;", Cond.methodLink RX0 62 yX0_isTakenBehind, Cond.instanceMethod yX0_isTakenBehind]
def wsX1_reckon_r2 : List Cond := [Cond.selects RX0 yX0_isTakenBehind yX0_isTakenBehind, Cond.code yX0_isTakenBehind cX0_isTakenBehind 3 (some .boolean), Cond.fieldLink RX0 38 "CrashDesk$Car" "behindLeast" "I", Cond.fieldLink RX0 41 "CrashDesk$Car" "behindGreatest" "I", Cond.methodLink RX0 66 yX3_setPrice, Cond.instanceMethod yX3_setPrice, Cond.selects RX3 yX3_setPrice yX3_setPrice, Cond.initialized RX3, Cond.code yX3_setPrice cX3_setPrice 3 none, Cond.fieldLink RX3 24 "CrashDesk$Speed" "prices" "[I", Cond.methodLink RX0 70 yX3_isOpen, Cond.instanceMethod yX3_isOpen, Cond.selects RX3 yX3_isOpen yX3_isOpen, Cond.code yX3_isOpen cX3_isOpen 2 (some .boolean), Cond.methodLink RX3 44 yX3_priceOf, Cond.instanceMethod yX3_priceOf, Cond.selects RX3 yX3_priceOf yX3_priceOf, Cond.code yX3_priceOf cX3_priceOf 2 (some .int), Cond.methodLink RX0 73 yX0_joinFirsts, Cond.instanceMethod yX0_joinFirsts, Cond.selects RX0 yX0_joinFirsts yX0_joinFirsts, Cond.code yX0_joinFirsts cX0_joinFirsts 6 none, Cond.methodLink RX0 86 Lib.Math.abs.name, Cond.static Lib.Math.abs.name]
def wsX1_reckon_r3 : List Cond := [Cond.initialized "java/lang/Math", Cond.code Lib.Math.abs.name Lib.Math.abs.code 1 (some .int), Cond.fieldLink RX0 18 "CrashDesk$Car" "first" "LCrashDesk$Speed;", Cond.fieldLink RX0 28 "CrashDesk$Car" "firstCounts" "[I", Cond.methodLink RX0 95 yX0_isTakenAhead, Cond.instanceMethod yX0_isTakenAhead, Cond.selects RX0 yX0_isTakenAhead yX0_isTakenAhead, Cond.code yX0_isTakenAhead cX0_isTakenAhead 4 (some .boolean), Cond.fieldLink RX0 32 "CrashDesk$Car" "aheadLeast" "I", Cond.fieldLink RX0 35 "CrashDesk$Car" "aheadGreatest" "I", Cond.methodLink RX0 99 yX0_firstFor, Cond.static yX0_firstFor, Cond.code yX0_firstFor cX0_firstFor 2 (some .int), Cond.methodLink RX0 106 yX3_priceOf, Cond.static yX5_cheaper, Cond.initialized RX5, Cond.code yX5_cheaper cX5_cheaper 2 (some .int), Cond.methodLink RX0 77 yX3_bound, Cond.instanceMethod yX3_bound, Cond.selects RX3 yX3_bound yX3_bound, Cond.code yX3_bound cX3_bound 2 none, Cond.fieldLink RX3 18 "CrashDesk$Speed" "bottom" "I", Cond.fieldLink RX3 21 "CrashDesk$Speed" "top" "I", Cond.methodLink RX3 48 Lib.Math.min.name]
def wsX1_reckon_r4 : List Cond := [Cond.static Lib.Math.min.name, Cond.code Lib.Math.min.name Lib.Math.min.code 2 (some .int), Cond.methodLink RX3 40 yX3_isOpen, Cond.methodLink RX1 57 yX3_isOpen, Cond.methodLink RX1 61 yX1_pushFrom, Cond.instanceMethod yX1_pushFrom, Cond.selects RX1 yX1_pushFrom yX1_pushFrom, Cond.code yX1_pushFrom cX1_pushFrom 3 none, Cond.fieldLink RX1 68 "CrashDesk$Car" "after" "LCrashDesk$Speed;", Cond.methodLink RX1 71 yX1_meet, Cond.instanceMethod yX1_meet, Cond.selects RX1 yX1_meet yX1_meet, Cond.code yX1_meet cX1_meet 13 none, Cond.methodLink RX1 75 Lib.Math.max.name, Cond.static Lib.Math.max.name, Cond.code Lib.Math.max.name Lib.Math.max.code 2 (some .int), Cond.methodLink RX1 80 Lib.Math.min.name, Cond.methodLink RX1 97 yX3_see, Cond.instanceMethod yX3_see, Cond.selects RX3 yX3_see yX3_see, Cond.code yX3_see cX3_see 2 none, Cond.fieldLink RX3 28 "CrashDesk$Speed" "seen" "[Z", Cond.methodLink RX1 100 yX0_firstCount, Cond.instanceMethod yX0_firstCount]
def wsX1_reckon_r5 : List Cond := [Cond.selects RX0 yX0_firstCount yX0_firstCount, Cond.code yX0_firstCount cX0_firstCount 2 (some .int), Cond.methodLink RX1 104 yX3_priceOf, Cond.methodLink RX1 65 yX0_seeFirsts, Cond.instanceMethod yX0_seeFirsts, Cond.selects RX0 yX0_seeFirsts yX0_seeFirsts, Cond.code yX0_seeFirsts cX0_seeFirsts 3 none, Cond.fieldLink RX0 80 "CrashDesk$Speed" "bottom" "I", Cond.fieldLink RX0 83 "CrashDesk$Speed" "top" "I", Cond.methodLink RX0 92 yX3_isSeen, Cond.instanceMethod yX3_isSeen, Cond.selects RX3 yX3_isSeen yX3_isSeen, Cond.code yX3_isSeen cX3_isSeen 2 (some .boolean), Cond.methodLink RX0 103 yX3_see]
def wsX1_reckon : List Cond := .code yX1_reckon cX1_reckon 2 none :: ((wsX1_reckon_r1 ++ (wsX1_reckon_r2 ++ (wsX1_reckon_r3 ++ (wsX1_reckon_r4 ++ wsX1_reckon_r5)))) ++ wsX10 ++ wsX00 ++ wsX30)
def wsX2_init : List Cond := .code yX2_init cX2_init 1 none :: ([.methodLink RX2 1 objectInit, .instanceMethod objectInit, .code objectInit ⟨#[0xb1]⟩ 1 none, .fieldLink RX2 7 "CrashDesk$Skid" "car" "I", .fieldLink RX2 13 "CrashDesk$Skid" "behind" "Z", .fieldLink RX2 17 "CrashDesk$Skid" "least" "I", .fieldLink RX2 20 "CrashDesk$Skid" "greatest" "I", .fieldLink RX2 23 "CrashDesk$Skid" "counts" "Z"] ++ wsX20)
def wsX3_hear : List Cond := .code yX3_hear cX3_hear 5 none :: ([.fieldLink RX3 36 "CrashDesk$Tale" "low" "I", .fieldLink RX3 39 "CrashDesk$Tale" "high" "I", .methodLink RX3 40 yX3_isOpen, .instanceMethod yX3_isOpen, .selects RX3 yX3_isOpen yX3_isOpen, .initialized RX3, .code yX3_isOpen cX3_isOpen 2 (some .boolean), .methodLink RX3 44 yX3_priceOf, .instanceMethod yX3_priceOf, .selects RX3 yX3_priceOf yX3_priceOf, .code yX3_priceOf cX3_priceOf 2 (some .int), .fieldLink RX3 24 "CrashDesk$Speed" "prices" "[I", .methodLink RX3 32 yX3_setPrice, .instanceMethod yX3_setPrice, .selects RX3 yX3_setPrice yX3_setPrice, .code yX3_setPrice cX3_setPrice 3 none] ++ wsX40 ++ wsX30)
def wsX3_leastSeen : List Cond := .code yX3_leastSeen cX3_leastSeen 2 (some .int) :: ([.methodLink RX3 54 yX3_isSeen, .instanceMethod yX3_isSeen, .selects RX3 yX3_isSeen yX3_isSeen, .initialized RX3, .code yX3_isSeen cX3_isSeen 2 (some .boolean), .fieldLink RX3 28 "CrashDesk$Speed" "seen" "[Z"] ++ wsX30)
def wsX3_greatestSeen : List Cond := .code yX3_greatestSeen cX3_greatestSeen 2 (some .int) :: ([.methodLink RX3 54 yX3_isSeen, .instanceMethod yX3_isSeen, .selects RX3 yX3_isSeen yX3_isSeen, .initialized RX3, .code yX3_isSeen cX3_isSeen 2 (some .boolean), .fieldLink RX3 28 "CrashDesk$Speed" "seen" "[Z"] ++ wsX30)
def wsX4_init : List Cond := .code yX4_init cX4_init 1 none :: ([.methodLink RX4 1 objectInit, .instanceMethod objectInit, .code objectInit ⟨#[0xb1]⟩ 1 none, .fieldLink RX4 7 "CrashDesk$Tale" "car" "I", .fieldLink RX4 13 "CrashDesk$Tale" "speed" "I", .fieldLink RX4 16 "CrashDesk$Tale" "low" "I", .fieldLink RX4 19 "CrashDesk$Tale" "high" "I"] ++ wsX40)
def wsX5_init_r1 : List Cond := [Cond.methodLink RX5 3 objectInit, Cond.instanceMethod objectInit, Cond.code objectInit ⟨#[0xb1]⟩ 1 none, Cond.classLink RX5 9 RX2, Cond.fieldLink RX5 11 "CrashDesk" "skids" "[LCrashDesk$Skid;", Cond.classLink RX5 15 RX4, Cond.fieldLink RX5 17 "CrashDesk" "tales" "[LCrashDesk$Tale;", Cond.fieldLink RX5 21 "CrashDesk" "skidCount" "I", Cond.fieldLink RX5 25 "CrashDesk" "taleCount" "I", Cond.classLink RX5 28 RX1, Cond.instantiable RX1 6, Cond.initialized RX1, Cond.fieldLink RX5 31 "CrashDesk" "meeting" "LCrashDesk$Meeting;", Cond.fieldLink RX5 35 "CrashDesk" "reckoned" "Z", Cond.fieldLink RX5 39 "CrashDesk" "reckonedTales" "I", Cond.fieldLink RX5 42 "CrashDesk" "reckonedWithout" "I", Cond.instantiable RX2 5, Cond.initialized RX2, Cond.instantiable RX4 4, Cond.initialized RX4, Cond.instanceMethod yX1_init, Cond.code yX1_init cX1_init 1 none, Cond.methodLink RX1 3 objectInit, Cond.classLink RX1 9 RX0]
def wsX5_init_r2 : List Cond := [Cond.instantiable RX0 10, Cond.initialized RX0, Cond.fieldLink RX1 12 "CrashDesk$Meeting" "zero" "LCrashDesk$Car;", Cond.fieldLink RX1 18 "CrashDesk$Meeting" "one" "LCrashDesk$Car;", Cond.fieldLink RX1 21 "CrashDesk$Meeting" "wayCount" "J", Cond.fieldLink RX1 25 "CrashDesk$Meeting" "cheapest" "I", Cond.fieldLink RX1 29 "CrashDesk$Meeting" "loss" "I", Cond.fieldLink RX1 32 "CrashDesk$Meeting" "gain" "I", Cond.instanceMethod yX0_init, Cond.code yX0_init cX0_init 1 none, Cond.methodLink RX0 3 objectInit, Cond.fieldLink RX0 9 "CrashDesk$Car" "mass" "I", Cond.classLink RX0 15 RX3, Cond.instantiable RX3 6, Cond.initialized RX3, Cond.fieldLink RX0 18 "CrashDesk$Car" "first" "LCrashDesk$Speed;", Cond.fieldLink RX0 22 "CrashDesk$Car" "at" "LCrashDesk$Speed;", Cond.fieldLink RX0 25 "CrashDesk$Car" "after" "LCrashDesk$Speed;", Cond.arrayClass .int, Cond.fieldLink RX0 28 "CrashDesk$Car" "firstCounts" "[I", Cond.fieldLink RX0 32 "CrashDesk$Car" "aheadLeast" "I", Cond.fieldLink RX0 35 "CrashDesk$Car" "aheadGreatest" "I", Cond.fieldLink RX0 38 "CrashDesk$Car" "behindLeast" "I", Cond.fieldLink RX0 41 "CrashDesk$Car" "behindGreatest" "I"]
def wsX5_init_r3 : List Cond := [Cond.fieldLink RX0 44 "CrashDesk$Car" "skidsBehind" "Z", Cond.instanceMethod yX3_init, Cond.code yX3_init cX3_init 1 none, Cond.methodLink RX3 3 objectInit, Cond.fieldLink RX3 9 "CrashDesk$Speed" "low" "I", Cond.fieldLink RX3 15 "CrashDesk$Speed" "high" "I", Cond.fieldLink RX3 18 "CrashDesk$Speed" "bottom" "I", Cond.fieldLink RX3 21 "CrashDesk$Speed" "top" "I", Cond.fieldLink RX3 24 "CrashDesk$Speed" "prices" "[I", Cond.arrayClass .boolean, Cond.fieldLink RX3 28 "CrashDesk$Speed" "seen" "[Z", Cond.instanceMethod yX2_init, Cond.code yX2_init cX2_init 1 none, Cond.methodLink RX2 1 objectInit, Cond.fieldLink RX2 7 "CrashDesk$Skid" "car" "I", Cond.fieldLink RX2 13 "CrashDesk$Skid" "behind" "Z", Cond.fieldLink RX2 17 "CrashDesk$Skid" "least" "I", Cond.fieldLink RX2 20 "CrashDesk$Skid" "greatest" "I", Cond.fieldLink RX2 23 "CrashDesk$Skid" "counts" "Z", Cond.instanceMethod yX4_init, Cond.code yX4_init cX4_init 1 none, Cond.methodLink RX4 1 objectInit, Cond.fieldLink RX4 7 "CrashDesk$Tale" "car" "I", Cond.fieldLink RX4 13 "CrashDesk$Tale" "speed" "I"]
def wsX5_init_r4 : List Cond := [Cond.fieldLink RX4 16 "CrashDesk$Tale" "low" "I", Cond.fieldLink RX4 19 "CrashDesk$Tale" "high" "I"]
def wsX5_init : List Cond := .code yX5_init cX5_init 2 none :: ((wsX5_init_r1 ++ (wsX5_init_r2 ++ (wsX5_init_r3 ++ wsX5_init_r4))) ++ wsX50 ++ wsX10 ++ wsX20 ++ wsX40 ++ wsX00 ++ wsX30)
def wsX5_testCar : List Cond := .code yX5_testCar cX5_testCar 1 none :: ([.classLink RX5 164 "java/lang/IndexOutOfBoundsException", .initialized "java/lang/IndexOutOfBoundsException"] ++ (vx_atS RX5 168 "java/lang/IndexOutOfBoundsException" ["java/lang/RuntimeException", "java/lang/Exception"]).filter goodWord)
def wsX5_carOf : List Cond := .code yX5_carOf cX5_carOf 2 (some (.object "CrashDesk$Car")) :: ([.fieldLink RX5 31 "CrashDesk" "meeting" "LCrashDesk$Meeting;", .methodLink RX5 60 yX5_testCar, .static yX5_testCar, .initialized RX5, .code yX5_testCar cX5_testCar 1 none, .classLink RX5 164 "java/lang/IndexOutOfBoundsException", .initialized "java/lang/IndexOutOfBoundsException", .methodLink RX5 180 yX1_pick, .instanceMethod yX1_pick, .selects RX1 yX1_pick yX1_pick, .initialized RX1, .code yX1_pick cX1_pick 2 (some (.object "CrashDesk$Car")), .fieldLink RX1 12 "CrashDesk$Meeting" "zero" "LCrashDesk$Car;", .fieldLink RX1 18 "CrashDesk$Meeting" "one" "LCrashDesk$Car;"] ++ wsX50 ++ wsX10 ++ (vx_atS RX5 168 "java/lang/IndexOutOfBoundsException" ["java/lang/RuntimeException", "java/lang/Exception"]).filter goodWord)
def wsX5_testNumber : List Cond := .code yX5_testNumber cX5_testNumber 3 none :: ([.classLink RX5 171 "java/lang/IllegalArgumentException", .initialized "java/lang/IllegalArgumentException"] ++ (vx_atS RX5 175 "java/lang/IllegalArgumentException" ["java/lang/RuntimeException", "java/lang/Exception"]).filter goodWord)
def wsX5_mass_r1 : List Cond := [Cond.fieldLink RX5 55 "CrashDesk$Car" "mass" "I", Cond.fieldLink RX5 35 "CrashDesk" "reckoned" "Z", Cond.methodLink RX5 47 yX5_carOf, Cond.instanceMethod yX5_carOf, Cond.selects RX5 yX5_carOf yX5_carOf, Cond.initialized RX5, Cond.code yX5_carOf cX5_carOf 2 (some (.object "CrashDesk$Car")), Cond.fieldLink RX5 31 "CrashDesk" "meeting" "LCrashDesk$Meeting;", Cond.methodLink RX5 60 yX5_testCar, Cond.static yX5_testCar, Cond.code yX5_testCar cX5_testCar 1 none, Cond.classLink RX5 164 "java/lang/IndexOutOfBoundsException", Cond.initialized "java/lang/IndexOutOfBoundsException", Cond.methodLink RX5 180 yX1_pick, Cond.instanceMethod yX1_pick, Cond.selects RX1 yX1_pick yX1_pick, Cond.initialized RX1, Cond.code yX1_pick cX1_pick 2 (some (.object "CrashDesk$Car")), Cond.fieldLink RX1 12 "CrashDesk$Meeting" "zero" "LCrashDesk$Car;", Cond.fieldLink RX1 18 "CrashDesk$Meeting" "one" "LCrashDesk$Car;", Cond.methodLink RX5 51 yX5_testNumber, Cond.static yX5_testNumber, Cond.code yX5_testNumber cX5_testNumber 3 none, Cond.classLink RX5 171 "java/lang/IllegalArgumentException"]
def wsX5_mass_r2 : List Cond := [Cond.initialized "java/lang/IllegalArgumentException"]
def wsX5_mass : List Cond := .code yX5_mass cX5_mass 4 none :: ((wsX5_mass_r1 ++ wsX5_mass_r2) ++ wsX00 ++ wsX50 ++ wsX10 ++ (vx_atS RX5 168 "java/lang/IndexOutOfBoundsException" ["java/lang/RuntimeException", "java/lang/Exception"]).filter goodWord ++ (vx_atS RX5 175 "java/lang/IllegalArgumentException" ["java/lang/RuntimeException", "java/lang/Exception"]).filter goodWord)
def wsX5_testSpan : List Cond := .code yX5_testSpan cX5_testSpan 4 none :: ([.classLink RX5 171 "java/lang/IllegalArgumentException", .initialized "java/lang/IllegalArgumentException"] ++ (vx_atS RX5 175 "java/lang/IllegalArgumentException" ["java/lang/RuntimeException", "java/lang/Exception"]).filter goodWord)
def wsX5_skid : List Cond := .code yX5_skid cX5_skid 8 (some .int) :: ([.classLink RX5 68 "java/lang/UnsupportedOperationException", .initialized "java/lang/UnsupportedOperationException", .fieldLink RX5 21 "CrashDesk" "skidCount" "I", .fieldLink RX5 11 "CrashDesk" "skids" "[LCrashDesk$Skid;", .fieldLink RX5 75 "CrashDesk$Skid" "car" "I", .fieldLink RX5 78 "CrashDesk$Skid" "behind" "Z", .fieldLink RX5 81 "CrashDesk$Skid" "least" "I", .fieldLink RX5 84 "CrashDesk$Skid" "greatest" "I", .fieldLink RX5 87 "CrashDesk$Skid" "counts" "Z", .fieldLink RX5 35 "CrashDesk" "reckoned" "Z", .methodLink RX5 60 yX5_testCar, .static yX5_testCar, .initialized RX5, .code yX5_testCar cX5_testCar 1 none, .classLink RX5 164 "java/lang/IndexOutOfBoundsException", .initialized "java/lang/IndexOutOfBoundsException", .methodLink RX5 64 yX5_testSpan, .static yX5_testSpan, .code yX5_testSpan cX5_testSpan 4 none, .classLink RX5 171 "java/lang/IllegalArgumentException", .initialized "java/lang/IllegalArgumentException"] ++ wsX50 ++ wsX20 ++ (vx_atS RX5 72 "java/lang/UnsupportedOperationException" ["java/lang/RuntimeException", "java/lang/Exception"]).filter goodWord ++ (vx_atS RX5 168 "java/lang/IndexOutOfBoundsException" ["java/lang/RuntimeException", "java/lang/Exception"]).filter goodWord ++ (vx_atS RX5 175 "java/lang/IllegalArgumentException" ["java/lang/RuntimeException", "java/lang/Exception"]).filter goodWord)
def wsX5_skidOf : List Cond := .code yX5_skidOf cX5_skidOf 2 (some (.object "CrashDesk$Skid")) :: ([.classLink RX5 164 "java/lang/IndexOutOfBoundsException", .initialized "java/lang/IndexOutOfBoundsException", .fieldLink RX5 21 "CrashDesk" "skidCount" "I", .fieldLink RX5 11 "CrashDesk" "skids" "[LCrashDesk$Skid;"] ++ wsX50 ++ (vx_atS RX5 168 "java/lang/IndexOutOfBoundsException" ["java/lang/RuntimeException", "java/lang/Exception"]).filter goodWord)
def wsX5_drop : List Cond := .code yX5_drop cX5_drop 4 (some .boolean) :: ([.fieldLink RX5 87 "CrashDesk$Skid" "counts" "Z", .fieldLink RX5 35 "CrashDesk" "reckoned" "Z", .methodLink RX5 90 yX5_skidOf, .instanceMethod yX5_skidOf, .selects RX5 yX5_skidOf yX5_skidOf, .initialized RX5, .code yX5_skidOf cX5_skidOf 2 (some (.object "CrashDesk$Skid")), .classLink RX5 164 "java/lang/IndexOutOfBoundsException", .initialized "java/lang/IndexOutOfBoundsException", .fieldLink RX5 21 "CrashDesk" "skidCount" "I", .fieldLink RX5 11 "CrashDesk" "skids" "[LCrashDesk$Skid;"] ++ wsX20 ++ wsX50 ++ (vx_atS RX5 168 "java/lang/IndexOutOfBoundsException" ["java/lang/RuntimeException", "java/lang/Exception"]).filter goodWord)
def wsX5_testSpeed : List Cond := .code yX5_testSpeed cX5_testSpeed 2 none :: ([.classLink RX5 164 "java/lang/IndexOutOfBoundsException", .initialized "java/lang/IndexOutOfBoundsException", .methodLink RX5 60 yX5_testCar, .static yX5_testCar, .initialized RX5, .code yX5_testCar cX5_testCar 1 none] ++ (vx_atS RX5 168 "java/lang/IndexOutOfBoundsException" ["java/lang/RuntimeException", "java/lang/Exception"]).filter goodWord)
def wsX5_speedOf_r1 : List Cond := [Cond.methodLink RX5 106 yX5_testSpeed, Cond.static yX5_testSpeed, Cond.initialized RX5, Cond.code yX5_testSpeed cX5_testSpeed 2 none, Cond.classLink RX5 164 "java/lang/IndexOutOfBoundsException", Cond.initialized "java/lang/IndexOutOfBoundsException", Cond.methodLink RX5 60 yX5_testCar, Cond.static yX5_testCar, Cond.code yX5_testCar cX5_testCar 1 none, Cond.methodLink RX5 47 yX5_carOf, Cond.instanceMethod yX5_carOf, Cond.selects RX5 yX5_carOf yX5_carOf, Cond.code yX5_carOf cX5_carOf 2 (some (.object "CrashDesk$Car")), Cond.fieldLink RX5 31 "CrashDesk" "meeting" "LCrashDesk$Meeting;", Cond.methodLink RX5 180 yX1_pick, Cond.instanceMethod yX1_pick, Cond.selects RX1 yX1_pick yX1_pick, Cond.initialized RX1, Cond.code yX1_pick cX1_pick 2 (some (.object "CrashDesk$Car")), Cond.fieldLink RX1 12 "CrashDesk$Meeting" "zero" "LCrashDesk$Car;", Cond.fieldLink RX1 18 "CrashDesk$Meeting" "one" "LCrashDesk$Car;", Cond.methodLink RX5 183 yX0_pick, Cond.instanceMethod yX0_pick, Cond.selects RX0 yX0_pick yX0_pick]
def wsX5_speedOf_r2 : List Cond := [Cond.initialized RX0, Cond.code yX0_pick cX0_pick 2 (some (.object "CrashDesk$Speed")), Cond.fieldLink RX0 18 "CrashDesk$Car" "first" "LCrashDesk$Speed;", Cond.fieldLink RX0 22 "CrashDesk$Car" "at" "LCrashDesk$Speed;", Cond.fieldLink RX0 25 "CrashDesk$Car" "after" "LCrashDesk$Speed;"]
def wsX5_speedOf : List Cond := .code yX5_speedOf cX5_speedOf 3 (some (.object "CrashDesk$Speed")) :: ((wsX5_speedOf_r1 ++ wsX5_speedOf_r2) ++ wsX50 ++ wsX10 ++ wsX00 ++ (vx_atS RX5 168 "java/lang/IndexOutOfBoundsException" ["java/lang/RuntimeException", "java/lang/Exception"]).filter goodWord)
def wsX5_sure_r1 : List Cond := [Cond.fieldLink RX5 98 "CrashDesk$Speed" "low" "I", Cond.fieldLink RX5 103 "CrashDesk$Speed" "high" "I", Cond.fieldLink RX5 35 "CrashDesk" "reckoned" "Z", Cond.methodLink RX5 94 yX5_speedOf, Cond.instanceMethod yX5_speedOf, Cond.selects RX5 yX5_speedOf yX5_speedOf, Cond.initialized RX5, Cond.code yX5_speedOf cX5_speedOf 3 (some (.object "CrashDesk$Speed")), Cond.methodLink RX5 106 yX5_testSpeed, Cond.static yX5_testSpeed, Cond.code yX5_testSpeed cX5_testSpeed 2 none, Cond.classLink RX5 164 "java/lang/IndexOutOfBoundsException", Cond.initialized "java/lang/IndexOutOfBoundsException", Cond.methodLink RX5 60 yX5_testCar, Cond.static yX5_testCar, Cond.code yX5_testCar cX5_testCar 1 none, Cond.methodLink RX5 47 yX5_carOf, Cond.instanceMethod yX5_carOf, Cond.selects RX5 yX5_carOf yX5_carOf, Cond.code yX5_carOf cX5_carOf 2 (some (.object "CrashDesk$Car")), Cond.fieldLink RX5 31 "CrashDesk" "meeting" "LCrashDesk$Meeting;", Cond.methodLink RX5 180 yX1_pick, Cond.instanceMethod yX1_pick, Cond.selects RX1 yX1_pick yX1_pick]
def wsX5_sure_r2 : List Cond := [Cond.initialized RX1, Cond.code yX1_pick cX1_pick 2 (some (.object "CrashDesk$Car")), Cond.fieldLink RX1 12 "CrashDesk$Meeting" "zero" "LCrashDesk$Car;", Cond.fieldLink RX1 18 "CrashDesk$Meeting" "one" "LCrashDesk$Car;", Cond.methodLink RX5 183 yX0_pick, Cond.instanceMethod yX0_pick, Cond.selects RX0 yX0_pick yX0_pick, Cond.initialized RX0, Cond.code yX0_pick cX0_pick 2 (some (.object "CrashDesk$Speed")), Cond.fieldLink RX0 18 "CrashDesk$Car" "first" "LCrashDesk$Speed;", Cond.fieldLink RX0 22 "CrashDesk$Car" "at" "LCrashDesk$Speed;", Cond.fieldLink RX0 25 "CrashDesk$Car" "after" "LCrashDesk$Speed;", Cond.methodLink RX5 64 yX5_testSpan, Cond.static yX5_testSpan, Cond.code yX5_testSpan cX5_testSpan 4 none, Cond.classLink RX5 171 "java/lang/IllegalArgumentException", Cond.initialized "java/lang/IllegalArgumentException"]
def wsX5_sure : List Cond := .code yX5_sure cX5_sure 6 none :: ((wsX5_sure_r1 ++ wsX5_sure_r2) ++ wsX30 ++ wsX50 ++ wsX10 ++ wsX00 ++ (vx_atS RX5 168 "java/lang/IndexOutOfBoundsException" ["java/lang/RuntimeException", "java/lang/Exception"]).filter goodWord ++ (vx_atS RX5 175 "java/lang/IllegalArgumentException" ["java/lang/RuntimeException", "java/lang/Exception"]).filter goodWord)
def wsX5_tale : List Cond := .code yX5_tale cX5_tale 6 (some .int) :: ([.classLink RX5 68 "java/lang/UnsupportedOperationException", .initialized "java/lang/UnsupportedOperationException", .fieldLink RX5 25 "CrashDesk" "taleCount" "I", .fieldLink RX5 17 "CrashDesk" "tales" "[LCrashDesk$Tale;", .fieldLink RX5 112 "CrashDesk$Tale" "car" "I", .fieldLink RX5 113 "CrashDesk$Tale" "speed" "I", .fieldLink RX5 116 "CrashDesk$Tale" "low" "I", .fieldLink RX5 117 "CrashDesk$Tale" "high" "I", .fieldLink RX5 35 "CrashDesk" "reckoned" "Z", .methodLink RX5 106 yX5_testSpeed, .static yX5_testSpeed, .initialized RX5, .code yX5_testSpeed cX5_testSpeed 2 none, .classLink RX5 164 "java/lang/IndexOutOfBoundsException", .initialized "java/lang/IndexOutOfBoundsException", .methodLink RX5 60 yX5_testCar, .static yX5_testCar, .code yX5_testCar cX5_testCar 1 none, .methodLink RX5 64 yX5_testSpan, .static yX5_testSpan, .code yX5_testSpan cX5_testSpan 4 none, .classLink RX5 171 "java/lang/IllegalArgumentException", .initialized "java/lang/IllegalArgumentException"] ++ wsX50 ++ wsX40 ++ (vx_atS RX5 72 "java/lang/UnsupportedOperationException" ["java/lang/RuntimeException", "java/lang/Exception"]).filter goodWord ++ (vx_atS RX5 168 "java/lang/IndexOutOfBoundsException" ["java/lang/RuntimeException", "java/lang/Exception"]).filter goodWord ++ (vx_atS RX5 175 "java/lang/IllegalArgumentException" ["java/lang/RuntimeException", "java/lang/Exception"]).filter goodWord)
def wsX5_hush : List Cond := .code yX5_hush cX5_hush 2 (some .int) :: ([.fieldLink RX5 25 "CrashDesk" "taleCount" "I", .fieldLink RX5 35 "CrashDesk" "reckoned" "Z"] ++ wsX50)
def wsX5_reckon_r1 : List Cond := [Cond.fieldLink RX5 35 "CrashDesk" "reckoned" "Z", Cond.fieldLink RX5 39 "CrashDesk" "reckonedTales" "I", Cond.fieldLink RX5 42 "CrashDesk" "reckonedWithout" "I", Cond.fieldLink RX5 31 "CrashDesk" "meeting" "LCrashDesk$Meeting;", Cond.fieldLink RX5 157 "CrashDesk$Meeting" "zero" "LCrashDesk$Car;", Cond.fieldLink RX5 161 "CrashDesk$Meeting" "one" "LCrashDesk$Car;", Cond.fieldLink RX5 25 "CrashDesk" "taleCount" "I", Cond.fieldLink RX5 17 "CrashDesk" "tales" "[LCrashDesk$Tale;", Cond.fieldLink RX5 112 "CrashDesk$Tale" "car" "I", Cond.fieldLink RX5 113 "CrashDesk$Tale" "speed" "I", Cond.fieldLink RX5 21 "CrashDesk" "skidCount" "I", Cond.fieldLink RX5 11 "CrashDesk" "skids" "[LCrashDesk$Skid;", Cond.fieldLink RX5 87 "CrashDesk$Skid" "counts" "Z", Cond.fieldLink RX5 75 "CrashDesk$Skid" "car" "I", Cond.methodLink RX5 188 yX0_clear, Cond.instanceMethod yX0_clear, Cond.selects RX0 yX0_clear yX0_clear, Cond.initialized RX0, Cond.code yX0_clear cX0_clear 1 none, Cond.fieldLink RX0 18 "CrashDesk$Car" "first" "LCrashDesk$Speed;", Cond.fieldLink RX0 22 "CrashDesk$Car" "at" "LCrashDesk$Speed;", Cond.fieldLink RX0 25 "CrashDesk$Car" "after" "LCrashDesk$Speed;", Cond.fieldLink RX0 32 "CrashDesk$Car" "aheadLeast" "I", Cond.fieldLink RX0 35 "CrashDesk$Car" "aheadGreatest" "I"]
def wsX5_reckon_r2 : List Cond := [Cond.fieldLink RX0 38 "CrashDesk$Car" "behindLeast" "I", Cond.fieldLink RX0 41 "CrashDesk$Car" "behindGreatest" "I", Cond.fieldLink RX0 44 "CrashDesk$Car" "skidsBehind" "Z", Cond.methodLink RX0 48 yX3_clear, Cond.instanceMethod yX3_clear, Cond.selects RX3 yX3_clear yX3_clear, Cond.initialized RX3, Cond.code yX3_clear cX3_clear 2 none, Cond.fieldLink RX3 9 "CrashDesk$Speed" "low" "I", Cond.fieldLink RX3 15 "CrashDesk$Speed" "high" "I", Cond.fieldLink RX3 28 "CrashDesk$Speed" "seen" "[Z", Cond.methodLink RX3 32 yX3_setPrice, Cond.instanceMethod yX3_setPrice, Cond.selects RX3 yX3_setPrice yX3_setPrice, Cond.code yX3_setPrice cX3_setPrice 3 none, Cond.fieldLink RX3 24 "CrashDesk$Speed" "prices" "[I", Cond.methodLink RX5 180 yX1_pick, Cond.instanceMethod yX1_pick, Cond.selects RX1 yX1_pick yX1_pick, Cond.initialized RX1, Cond.code yX1_pick cX1_pick 2 (some (.object "CrashDesk$Car")), Cond.fieldLink RX1 12 "CrashDesk$Meeting" "zero" "LCrashDesk$Car;", Cond.fieldLink RX1 18 "CrashDesk$Meeting" "one" "LCrashDesk$Car;", Cond.methodLink RX5 183 yX0_pick]
def wsX5_reckon_r3 : List Cond := [Cond.instanceMethod yX0_pick, Cond.selects RX0 yX0_pick yX0_pick, Cond.code yX0_pick cX0_pick 2 (some (.object "CrashDesk$Speed")), Cond.methodLink RX5 191 yX3_hear, Cond.instanceMethod yX3_hear, Cond.selects RX3 yX3_hear yX3_hear, Cond.code yX3_hear cX3_hear 5 none, Cond.fieldLink RX3 36 "CrashDesk$Tale" "low" "I", Cond.fieldLink RX3 39 "CrashDesk$Tale" "high" "I", Cond.methodLink RX3 40 yX3_isOpen, Cond.instanceMethod yX3_isOpen, Cond.selects RX3 yX3_isOpen yX3_isOpen, Cond.code yX3_isOpen cX3_isOpen 2 (some .boolean), Cond.methodLink RX3 44 yX3_priceOf, Cond.instanceMethod yX3_priceOf, Cond.selects RX3 yX3_priceOf yX3_priceOf, Cond.code yX3_priceOf cX3_priceOf 2 (some .int), Cond.methodLink RX5 195 yX0_add, Cond.instanceMethod yX0_add, Cond.selects RX0 yX0_add yX0_add, Cond.code yX0_add cX0_add 2 none, Cond.fieldLink RX0 51 "CrashDesk$Skid" "behind" "Z", Cond.fieldLink RX0 56 "CrashDesk$Skid" "least" "I", Cond.fieldLink RX0 59 "CrashDesk$Skid" "greatest" "I"]
def wsX5_reckon_r4 : List Cond := [Cond.methodLink RX5 199 yX1_reckon, Cond.instanceMethod yX1_reckon, Cond.selects RX1 yX1_reckon yX1_reckon, Cond.code yX1_reckon cX1_reckon 2 none, Cond.fieldLink RX1 21 "CrashDesk$Meeting" "wayCount" "J", Cond.fieldLink RX1 25 "CrashDesk$Meeting" "cheapest" "I", Cond.fieldLink RX1 35 "CrashDesk$Car" "mass" "I", Cond.fieldLink RX1 29 "CrashDesk$Meeting" "loss" "I", Cond.fieldLink RX1 32 "CrashDesk$Meeting" "gain" "I", Cond.fieldLink RX1 45 "CrashDesk$Car" "at" "LCrashDesk$Speed;", Cond.fieldLink RX1 49 "CrashDesk$Speed" "bottom" "I", Cond.fieldLink RX1 54 "CrashDesk$Speed" "top" "I", Cond.methodLink RX1 38 yX1_lowestShare, Cond.static yX1_lowestShare, Cond.code yX1_lowestShare cX1_lowestShare 3 (some .int), Cond.methodLink RX1 42 yX0_settle, Cond.instanceMethod yX0_settle, Cond.selects RX0 yX0_settle yX0_settle, Cond.code yX0_settle cX0_settle 2 none, Cond.methodLink RX0 62 yX0_isTakenBehind, Cond.instanceMethod yX0_isTakenBehind, Cond.selects RX0 yX0_isTakenBehind yX0_isTakenBehind, Cond.code yX0_isTakenBehind cX0_isTakenBehind 3 (some .boolean), Cond.methodLink RX0 66 yX3_setPrice]
def wsX5_reckon_r5 : List Cond := [Cond.methodLink RX0 70 yX3_isOpen, Cond.methodLink RX0 73 yX0_joinFirsts, Cond.instanceMethod yX0_joinFirsts, Cond.selects RX0 yX0_joinFirsts yX0_joinFirsts, Cond.code yX0_joinFirsts cX0_joinFirsts 6 none, Cond.methodLink RX0 86 Lib.Math.abs.name, Cond.static Lib.Math.abs.name, Cond.initialized "java/lang/Math", Cond.code Lib.Math.abs.name Lib.Math.abs.code 1 (some .int), Cond.fieldLink RX0 28 "CrashDesk$Car" "firstCounts" "[I", Cond.methodLink RX0 95 yX0_isTakenAhead, Cond.instanceMethod yX0_isTakenAhead, Cond.selects RX0 yX0_isTakenAhead yX0_isTakenAhead, Cond.code yX0_isTakenAhead cX0_isTakenAhead 4 (some .boolean), Cond.methodLink RX0 99 yX0_firstFor, Cond.static yX0_firstFor, Cond.code yX0_firstFor cX0_firstFor 2 (some .int), Cond.methodLink RX0 106 yX3_priceOf, Cond.static yX5_cheaper, Cond.initialized RX5, Cond.code yX5_cheaper cX5_cheaper 2 (some .int), Cond.methodLink RX0 77 yX3_bound, Cond.instanceMethod yX3_bound, Cond.selects RX3 yX3_bound yX3_bound]
def wsX5_reckon_r6 : List Cond := [Cond.code yX3_bound cX3_bound 2 none, Cond.fieldLink RX3 18 "CrashDesk$Speed" "bottom" "I", Cond.fieldLink RX3 21 "CrashDesk$Speed" "top" "I", Cond.methodLink RX3 48 Lib.Math.min.name, Cond.static Lib.Math.min.name, Cond.code Lib.Math.min.name Lib.Math.min.code 2 (some .int), Cond.methodLink RX1 57 yX3_isOpen, Cond.methodLink RX1 61 yX1_pushFrom, Cond.instanceMethod yX1_pushFrom, Cond.selects RX1 yX1_pushFrom yX1_pushFrom, Cond.code yX1_pushFrom cX1_pushFrom 3 none, Cond.fieldLink RX1 68 "CrashDesk$Car" "after" "LCrashDesk$Speed;", Cond.methodLink RX1 71 yX1_meet, Cond.instanceMethod yX1_meet, Cond.selects RX1 yX1_meet yX1_meet, Cond.code yX1_meet cX1_meet 13 none, Cond.methodLink RX1 75 Lib.Math.max.name, Cond.static Lib.Math.max.name, Cond.code Lib.Math.max.name Lib.Math.max.code 2 (some .int), Cond.methodLink RX1 80 Lib.Math.min.name, Cond.methodLink RX1 97 yX3_see, Cond.instanceMethod yX3_see, Cond.selects RX3 yX3_see yX3_see, Cond.code yX3_see cX3_see 2 none]
def wsX5_reckon_r7 : List Cond := [Cond.methodLink RX1 100 yX0_firstCount, Cond.instanceMethod yX0_firstCount, Cond.selects RX0 yX0_firstCount yX0_firstCount, Cond.code yX0_firstCount cX0_firstCount 2 (some .int), Cond.methodLink RX1 104 yX3_priceOf, Cond.methodLink RX1 65 yX0_seeFirsts, Cond.instanceMethod yX0_seeFirsts, Cond.selects RX0 yX0_seeFirsts yX0_seeFirsts, Cond.code yX0_seeFirsts cX0_seeFirsts 3 none, Cond.fieldLink RX0 80 "CrashDesk$Speed" "bottom" "I", Cond.fieldLink RX0 83 "CrashDesk$Speed" "top" "I", Cond.methodLink RX0 92 yX3_isSeen, Cond.instanceMethod yX3_isSeen, Cond.selects RX3 yX3_isSeen yX3_isSeen, Cond.code yX3_isSeen cX3_isSeen 2 (some .boolean), Cond.methodLink RX0 103 yX3_see]
def wsX5_reckon : List Cond := .code yX5_reckon cX5_reckon 7 none :: ((wsX5_reckon_r1 ++ (wsX5_reckon_r2 ++ (wsX5_reckon_r3 ++ (wsX5_reckon_r4 ++ (wsX5_reckon_r5 ++ (wsX5_reckon_r6 ++ wsX5_reckon_r7)))))) ++ wsX50 ++ wsX10 ++ wsX40 ++ wsX20 ++ wsX00 ++ wsX30)
def wsX5_ways_r1 : List Cond := [Cond.fieldLink RX5 31 "CrashDesk" "meeting" "LCrashDesk$Meeting;", Cond.fieldLink RX5 121 "CrashDesk$Meeting" "wayCount" "J", Cond.methodLink RX5 118 yX5_reckon, Cond.instanceMethod yX5_reckon, Cond.selects RX5 yX5_reckon yX5_reckon, Cond.initialized RX5, Cond.code yX5_reckon cX5_reckon 7 none, Cond.fieldLink RX5 35 "CrashDesk" "reckoned" "Z", Cond.fieldLink RX5 39 "CrashDesk" "reckonedTales" "I", Cond.fieldLink RX5 42 "CrashDesk" "reckonedWithout" "I", Cond.fieldLink RX5 157 "CrashDesk$Meeting" "zero" "LCrashDesk$Car;", Cond.fieldLink RX5 161 "CrashDesk$Meeting" "one" "LCrashDesk$Car;", Cond.fieldLink RX5 25 "CrashDesk" "taleCount" "I", Cond.fieldLink RX5 17 "CrashDesk" "tales" "[LCrashDesk$Tale;", Cond.fieldLink RX5 112 "CrashDesk$Tale" "car" "I", Cond.fieldLink RX5 113 "CrashDesk$Tale" "speed" "I", Cond.fieldLink RX5 21 "CrashDesk" "skidCount" "I", Cond.fieldLink RX5 11 "CrashDesk" "skids" "[LCrashDesk$Skid;", Cond.fieldLink RX5 87 "CrashDesk$Skid" "counts" "Z", Cond.fieldLink RX5 75 "CrashDesk$Skid" "car" "I", Cond.methodLink RX5 188 yX0_clear, Cond.instanceMethod yX0_clear, Cond.selects RX0 yX0_clear yX0_clear, Cond.initialized RX0]
def wsX5_ways_r2 : List Cond := [Cond.code yX0_clear cX0_clear 1 none, Cond.fieldLink RX0 18 "CrashDesk$Car" "first" "LCrashDesk$Speed;", Cond.fieldLink RX0 22 "CrashDesk$Car" "at" "LCrashDesk$Speed;", Cond.fieldLink RX0 25 "CrashDesk$Car" "after" "LCrashDesk$Speed;", Cond.fieldLink RX0 32 "CrashDesk$Car" "aheadLeast" "I", Cond.fieldLink RX0 35 "CrashDesk$Car" "aheadGreatest" "I", Cond.fieldLink RX0 38 "CrashDesk$Car" "behindLeast" "I", Cond.fieldLink RX0 41 "CrashDesk$Car" "behindGreatest" "I", Cond.fieldLink RX0 44 "CrashDesk$Car" "skidsBehind" "Z", Cond.methodLink RX0 48 yX3_clear, Cond.instanceMethod yX3_clear, Cond.selects RX3 yX3_clear yX3_clear, Cond.initialized RX3, Cond.code yX3_clear cX3_clear 2 none, Cond.fieldLink RX3 9 "CrashDesk$Speed" "low" "I", Cond.fieldLink RX3 15 "CrashDesk$Speed" "high" "I", Cond.fieldLink RX3 28 "CrashDesk$Speed" "seen" "[Z", Cond.methodLink RX3 32 yX3_setPrice, Cond.instanceMethod yX3_setPrice, Cond.selects RX3 yX3_setPrice yX3_setPrice, Cond.code yX3_setPrice cX3_setPrice 3 none, Cond.fieldLink RX3 24 "CrashDesk$Speed" "prices" "[I", Cond.methodLink RX5 180 yX1_pick, Cond.instanceMethod yX1_pick]
def wsX5_ways_r3 : List Cond := [Cond.selects RX1 yX1_pick yX1_pick, Cond.initialized RX1, Cond.code yX1_pick cX1_pick 2 (some (.object "CrashDesk$Car")), Cond.fieldLink RX1 12 "CrashDesk$Meeting" "zero" "LCrashDesk$Car;", Cond.fieldLink RX1 18 "CrashDesk$Meeting" "one" "LCrashDesk$Car;", Cond.methodLink RX5 183 yX0_pick, Cond.instanceMethod yX0_pick, Cond.selects RX0 yX0_pick yX0_pick, Cond.code yX0_pick cX0_pick 2 (some (.object "CrashDesk$Speed")), Cond.methodLink RX5 191 yX3_hear, Cond.instanceMethod yX3_hear, Cond.selects RX3 yX3_hear yX3_hear, Cond.code yX3_hear cX3_hear 5 none, Cond.fieldLink RX3 36 "CrashDesk$Tale" "low" "I", Cond.fieldLink RX3 39 "CrashDesk$Tale" "high" "I", Cond.methodLink RX3 40 yX3_isOpen, Cond.instanceMethod yX3_isOpen, Cond.selects RX3 yX3_isOpen yX3_isOpen, Cond.code yX3_isOpen cX3_isOpen 2 (some .boolean), Cond.methodLink RX3 44 yX3_priceOf, Cond.instanceMethod yX3_priceOf, Cond.selects RX3 yX3_priceOf yX3_priceOf, Cond.code yX3_priceOf cX3_priceOf 2 (some .int), Cond.methodLink RX5 195 yX0_add]
def wsX5_ways_r4 : List Cond := [Cond.instanceMethod yX0_add, Cond.selects RX0 yX0_add yX0_add, Cond.code yX0_add cX0_add 2 none, Cond.fieldLink RX0 51 "CrashDesk$Skid" "behind" "Z", Cond.fieldLink RX0 56 "CrashDesk$Skid" "least" "I", Cond.fieldLink RX0 59 "CrashDesk$Skid" "greatest" "I", Cond.methodLink RX5 199 yX1_reckon, Cond.instanceMethod yX1_reckon, Cond.selects RX1 yX1_reckon yX1_reckon, Cond.code yX1_reckon cX1_reckon 2 none, Cond.fieldLink RX1 21 "CrashDesk$Meeting" "wayCount" "J", Cond.fieldLink RX1 25 "CrashDesk$Meeting" "cheapest" "I", Cond.fieldLink RX1 35 "CrashDesk$Car" "mass" "I", Cond.fieldLink RX1 29 "CrashDesk$Meeting" "loss" "I", Cond.fieldLink RX1 32 "CrashDesk$Meeting" "gain" "I", Cond.fieldLink RX1 45 "CrashDesk$Car" "at" "LCrashDesk$Speed;", Cond.fieldLink RX1 49 "CrashDesk$Speed" "bottom" "I", Cond.fieldLink RX1 54 "CrashDesk$Speed" "top" "I", Cond.methodLink RX1 38 yX1_lowestShare, Cond.static yX1_lowestShare, Cond.code yX1_lowestShare cX1_lowestShare 3 (some .int), Cond.methodLink RX1 42 yX0_settle, Cond.instanceMethod yX0_settle, Cond.selects RX0 yX0_settle yX0_settle]
def wsX5_ways_r5 : List Cond := [Cond.code yX0_settle cX0_settle 2 none, Cond.methodLink RX0 62 yX0_isTakenBehind, Cond.instanceMethod yX0_isTakenBehind, Cond.selects RX0 yX0_isTakenBehind yX0_isTakenBehind, Cond.code yX0_isTakenBehind cX0_isTakenBehind 3 (some .boolean), Cond.methodLink RX0 66 yX3_setPrice, Cond.methodLink RX0 70 yX3_isOpen, Cond.methodLink RX0 73 yX0_joinFirsts, Cond.instanceMethod yX0_joinFirsts, Cond.selects RX0 yX0_joinFirsts yX0_joinFirsts, Cond.code yX0_joinFirsts cX0_joinFirsts 6 none, Cond.methodLink RX0 86 Lib.Math.abs.name, Cond.static Lib.Math.abs.name, Cond.initialized "java/lang/Math", Cond.code Lib.Math.abs.name Lib.Math.abs.code 1 (some .int), Cond.fieldLink RX0 28 "CrashDesk$Car" "firstCounts" "[I", Cond.methodLink RX0 95 yX0_isTakenAhead, Cond.instanceMethod yX0_isTakenAhead, Cond.selects RX0 yX0_isTakenAhead yX0_isTakenAhead, Cond.code yX0_isTakenAhead cX0_isTakenAhead 4 (some .boolean), Cond.methodLink RX0 99 yX0_firstFor, Cond.static yX0_firstFor, Cond.code yX0_firstFor cX0_firstFor 2 (some .int), Cond.methodLink RX0 106 yX3_priceOf]
def wsX5_ways_r6 : List Cond := [Cond.static yX5_cheaper, Cond.code yX5_cheaper cX5_cheaper 2 (some .int), Cond.methodLink RX0 77 yX3_bound, Cond.instanceMethod yX3_bound, Cond.selects RX3 yX3_bound yX3_bound, Cond.code yX3_bound cX3_bound 2 none, Cond.fieldLink RX3 18 "CrashDesk$Speed" "bottom" "I", Cond.fieldLink RX3 21 "CrashDesk$Speed" "top" "I", Cond.methodLink RX3 48 Lib.Math.min.name, Cond.static Lib.Math.min.name, Cond.code Lib.Math.min.name Lib.Math.min.code 2 (some .int), Cond.methodLink RX1 57 yX3_isOpen, Cond.methodLink RX1 61 yX1_pushFrom, Cond.instanceMethod yX1_pushFrom, Cond.selects RX1 yX1_pushFrom yX1_pushFrom, Cond.code yX1_pushFrom cX1_pushFrom 3 none, Cond.fieldLink RX1 68 "CrashDesk$Car" "after" "LCrashDesk$Speed;", Cond.methodLink RX1 71 yX1_meet, Cond.instanceMethod yX1_meet, Cond.selects RX1 yX1_meet yX1_meet, Cond.code yX1_meet cX1_meet 13 none, Cond.methodLink RX1 75 Lib.Math.max.name, Cond.static Lib.Math.max.name, Cond.code Lib.Math.max.name Lib.Math.max.code 2 (some .int)]
def wsX5_ways_r7 : List Cond := [Cond.methodLink RX1 80 Lib.Math.min.name, Cond.methodLink RX1 97 yX3_see, Cond.instanceMethod yX3_see, Cond.selects RX3 yX3_see yX3_see, Cond.code yX3_see cX3_see 2 none, Cond.methodLink RX1 100 yX0_firstCount, Cond.instanceMethod yX0_firstCount, Cond.selects RX0 yX0_firstCount yX0_firstCount, Cond.code yX0_firstCount cX0_firstCount 2 (some .int), Cond.methodLink RX1 104 yX3_priceOf, Cond.methodLink RX1 65 yX0_seeFirsts, Cond.instanceMethod yX0_seeFirsts, Cond.selects RX0 yX0_seeFirsts yX0_seeFirsts, Cond.code yX0_seeFirsts cX0_seeFirsts 3 none, Cond.fieldLink RX0 80 "CrashDesk$Speed" "bottom" "I", Cond.fieldLink RX0 83 "CrashDesk$Speed" "top" "I", Cond.methodLink RX0 92 yX3_isSeen, Cond.instanceMethod yX3_isSeen, Cond.selects RX3 yX3_isSeen yX3_isSeen, Cond.code yX3_isSeen cX3_isSeen 2 (some .boolean), Cond.methodLink RX0 103 yX3_see]
def wsX5_ways : List Cond := .code yX5_ways cX5_ways 1 (some .long) :: ((wsX5_ways_r1 ++ (wsX5_ways_r2 ++ (wsX5_ways_r3 ++ (wsX5_ways_r4 ++ (wsX5_ways_r5 ++ (wsX5_ways_r6 ++ wsX5_ways_r7)))))) ++ wsX50 ++ wsX10 ++ wsX40 ++ wsX20 ++ wsX00 ++ wsX30)
def wsX5_allTales : List Cond := .code yX5_allTales cX5_allTales 1 (some .int) :: ([.fieldLink RX5 25 "CrashDesk" "taleCount" "I"] ++ wsX50)
def wsX5_testWay : List Cond := .code yX5_testWay cX5_testWay 1 none :: ([.classLink RX5 149 "java/util/NoSuchElementException", .initialized "java/util/NoSuchElementException", .fieldLink RX5 31 "CrashDesk" "meeting" "LCrashDesk$Meeting;", .fieldLink RX5 121 "CrashDesk$Meeting" "wayCount" "J"] ++ wsX50 ++ wsX10 ++ (vx_atS RX5 153 "java/util/NoSuchElementException" ["java/lang/RuntimeException", "java/lang/Exception"]).filter goodWord)
def wsX5_span_r1 : List Cond := [Cond.methodLink RX5 94 yX5_speedOf, Cond.instanceMethod yX5_speedOf, Cond.selects RX5 yX5_speedOf yX5_speedOf, Cond.initialized RX5, Cond.code yX5_speedOf cX5_speedOf 3 (some (.object "CrashDesk$Speed")), Cond.methodLink RX5 106 yX5_testSpeed, Cond.static yX5_testSpeed, Cond.code yX5_testSpeed cX5_testSpeed 2 none, Cond.classLink RX5 164 "java/lang/IndexOutOfBoundsException", Cond.initialized "java/lang/IndexOutOfBoundsException", Cond.methodLink RX5 60 yX5_testCar, Cond.static yX5_testCar, Cond.code yX5_testCar cX5_testCar 1 none, Cond.methodLink RX5 47 yX5_carOf, Cond.instanceMethod yX5_carOf, Cond.selects RX5 yX5_carOf yX5_carOf, Cond.code yX5_carOf cX5_carOf 2 (some (.object "CrashDesk$Car")), Cond.fieldLink RX5 31 "CrashDesk" "meeting" "LCrashDesk$Meeting;", Cond.methodLink RX5 180 yX1_pick, Cond.instanceMethod yX1_pick, Cond.selects RX1 yX1_pick yX1_pick, Cond.initialized RX1, Cond.code yX1_pick cX1_pick 2 (some (.object "CrashDesk$Car")), Cond.fieldLink RX1 12 "CrashDesk$Meeting" "zero" "LCrashDesk$Car;"]
def wsX5_span_r2 : List Cond := [Cond.fieldLink RX1 18 "CrashDesk$Meeting" "one" "LCrashDesk$Car;", Cond.methodLink RX5 183 yX0_pick, Cond.instanceMethod yX0_pick, Cond.selects RX0 yX0_pick yX0_pick, Cond.initialized RX0, Cond.code yX0_pick cX0_pick 2 (some (.object "CrashDesk$Speed")), Cond.fieldLink RX0 18 "CrashDesk$Car" "first" "LCrashDesk$Speed;", Cond.fieldLink RX0 22 "CrashDesk$Car" "at" "LCrashDesk$Speed;", Cond.fieldLink RX0 25 "CrashDesk$Car" "after" "LCrashDesk$Speed;", Cond.methodLink RX5 125 yX5_allTales, Cond.instanceMethod yX5_allTales, Cond.selects RX5 yX5_allTales yX5_allTales, Cond.code yX5_allTales cX5_allTales 1 (some .int), Cond.fieldLink RX5 25 "CrashDesk" "taleCount" "I", Cond.methodLink RX5 118 yX5_reckon, Cond.instanceMethod yX5_reckon, Cond.selects RX5 yX5_reckon yX5_reckon, Cond.code yX5_reckon cX5_reckon 7 none, Cond.fieldLink RX5 35 "CrashDesk" "reckoned" "Z", Cond.fieldLink RX5 39 "CrashDesk" "reckonedTales" "I", Cond.fieldLink RX5 42 "CrashDesk" "reckonedWithout" "I", Cond.fieldLink RX5 157 "CrashDesk$Meeting" "zero" "LCrashDesk$Car;", Cond.fieldLink RX5 161 "CrashDesk$Meeting" "one" "LCrashDesk$Car;", Cond.fieldLink RX5 17 "CrashDesk" "tales" "[LCrashDesk$Tale;"]
def wsX5_span_r3 : List Cond := [Cond.fieldLink RX5 112 "CrashDesk$Tale" "car" "I", Cond.fieldLink RX5 113 "CrashDesk$Tale" "speed" "I", Cond.fieldLink RX5 21 "CrashDesk" "skidCount" "I", Cond.fieldLink RX5 11 "CrashDesk" "skids" "[LCrashDesk$Skid;", Cond.fieldLink RX5 87 "CrashDesk$Skid" "counts" "Z", Cond.fieldLink RX5 75 "CrashDesk$Skid" "car" "I", Cond.methodLink RX5 188 yX0_clear, Cond.instanceMethod yX0_clear, Cond.selects RX0 yX0_clear yX0_clear, Cond.code yX0_clear cX0_clear 1 none, Cond.fieldLink RX0 32 "CrashDesk$Car" "aheadLeast" "I", Cond.fieldLink RX0 35 "CrashDesk$Car" "aheadGreatest" "I", Cond.fieldLink RX0 38 "CrashDesk$Car" "behindLeast" "I", Cond.fieldLink RX0 41 "CrashDesk$Car" "behindGreatest" "I", Cond.fieldLink RX0 44 "CrashDesk$Car" "skidsBehind" "Z", Cond.methodLink RX0 48 yX3_clear, Cond.instanceMethod yX3_clear, Cond.selects RX3 yX3_clear yX3_clear, Cond.initialized RX3, Cond.code yX3_clear cX3_clear 2 none, Cond.fieldLink RX3 9 "CrashDesk$Speed" "low" "I", Cond.fieldLink RX3 15 "CrashDesk$Speed" "high" "I", Cond.fieldLink RX3 28 "CrashDesk$Speed" "seen" "[Z", Cond.methodLink RX3 32 yX3_setPrice]
def wsX5_span_r4 : List Cond := [Cond.instanceMethod yX3_setPrice, Cond.selects RX3 yX3_setPrice yX3_setPrice, Cond.code yX3_setPrice cX3_setPrice 3 none, Cond.fieldLink RX3 24 "CrashDesk$Speed" "prices" "[I", Cond.methodLink RX5 191 yX3_hear, Cond.instanceMethod yX3_hear, Cond.selects RX3 yX3_hear yX3_hear, Cond.code yX3_hear cX3_hear 5 none, Cond.fieldLink RX3 36 "CrashDesk$Tale" "low" "I", Cond.fieldLink RX3 39 "CrashDesk$Tale" "high" "I", Cond.methodLink RX3 40 yX3_isOpen, Cond.instanceMethod yX3_isOpen, Cond.selects RX3 yX3_isOpen yX3_isOpen, Cond.code yX3_isOpen cX3_isOpen 2 (some .boolean), Cond.methodLink RX3 44 yX3_priceOf, Cond.instanceMethod yX3_priceOf, Cond.selects RX3 yX3_priceOf yX3_priceOf, Cond.code yX3_priceOf cX3_priceOf 2 (some .int), Cond.methodLink RX5 195 yX0_add, Cond.instanceMethod yX0_add, Cond.selects RX0 yX0_add yX0_add, Cond.code yX0_add cX0_add 2 none, Cond.fieldLink RX0 51 "CrashDesk$Skid" "behind" "Z", Cond.fieldLink RX0 56 "CrashDesk$Skid" "least" "I"]
def wsX5_span_r5 : List Cond := [Cond.fieldLink RX0 59 "CrashDesk$Skid" "greatest" "I", Cond.methodLink RX5 199 yX1_reckon, Cond.instanceMethod yX1_reckon, Cond.selects RX1 yX1_reckon yX1_reckon, Cond.code yX1_reckon cX1_reckon 2 none, Cond.fieldLink RX1 21 "CrashDesk$Meeting" "wayCount" "J", Cond.fieldLink RX1 25 "CrashDesk$Meeting" "cheapest" "I", Cond.fieldLink RX1 35 "CrashDesk$Car" "mass" "I", Cond.fieldLink RX1 29 "CrashDesk$Meeting" "loss" "I", Cond.fieldLink RX1 32 "CrashDesk$Meeting" "gain" "I", Cond.fieldLink RX1 45 "CrashDesk$Car" "at" "LCrashDesk$Speed;", Cond.fieldLink RX1 49 "CrashDesk$Speed" "bottom" "I", Cond.fieldLink RX1 54 "CrashDesk$Speed" "top" "I", Cond.methodLink RX1 38 yX1_lowestShare, Cond.static yX1_lowestShare, Cond.code yX1_lowestShare cX1_lowestShare 3 (some .int), Cond.methodLink RX1 42 yX0_settle, Cond.instanceMethod yX0_settle, Cond.selects RX0 yX0_settle yX0_settle, Cond.code yX0_settle cX0_settle 2 none, Cond.methodLink RX0 62 yX0_isTakenBehind, Cond.instanceMethod yX0_isTakenBehind, Cond.selects RX0 yX0_isTakenBehind yX0_isTakenBehind, Cond.code yX0_isTakenBehind cX0_isTakenBehind 3 (some .boolean)]
def wsX5_span_r6 : List Cond := [Cond.methodLink RX0 66 yX3_setPrice, Cond.methodLink RX0 70 yX3_isOpen, Cond.methodLink RX0 73 yX0_joinFirsts, Cond.instanceMethod yX0_joinFirsts, Cond.selects RX0 yX0_joinFirsts yX0_joinFirsts, Cond.code yX0_joinFirsts cX0_joinFirsts 6 none, Cond.methodLink RX0 86 Lib.Math.abs.name, Cond.static Lib.Math.abs.name, Cond.initialized "java/lang/Math", Cond.code Lib.Math.abs.name Lib.Math.abs.code 1 (some .int), Cond.fieldLink RX0 28 "CrashDesk$Car" "firstCounts" "[I", Cond.methodLink RX0 95 yX0_isTakenAhead, Cond.instanceMethod yX0_isTakenAhead, Cond.selects RX0 yX0_isTakenAhead yX0_isTakenAhead, Cond.code yX0_isTakenAhead cX0_isTakenAhead 4 (some .boolean), Cond.methodLink RX0 99 yX0_firstFor, Cond.static yX0_firstFor, Cond.code yX0_firstFor cX0_firstFor 2 (some .int), Cond.methodLink RX0 106 yX3_priceOf, Cond.static yX5_cheaper, Cond.code yX5_cheaper cX5_cheaper 2 (some .int), Cond.methodLink RX0 77 yX3_bound, Cond.instanceMethod yX3_bound, Cond.selects RX3 yX3_bound yX3_bound]
def wsX5_span_r7 : List Cond := [Cond.code yX3_bound cX3_bound 2 none, Cond.fieldLink RX3 18 "CrashDesk$Speed" "bottom" "I", Cond.fieldLink RX3 21 "CrashDesk$Speed" "top" "I", Cond.methodLink RX3 48 Lib.Math.min.name, Cond.static Lib.Math.min.name, Cond.code Lib.Math.min.name Lib.Math.min.code 2 (some .int), Cond.methodLink RX1 57 yX3_isOpen, Cond.methodLink RX1 61 yX1_pushFrom, Cond.instanceMethod yX1_pushFrom, Cond.selects RX1 yX1_pushFrom yX1_pushFrom, Cond.code yX1_pushFrom cX1_pushFrom 3 none, Cond.fieldLink RX1 68 "CrashDesk$Car" "after" "LCrashDesk$Speed;", Cond.methodLink RX1 71 yX1_meet, Cond.instanceMethod yX1_meet, Cond.selects RX1 yX1_meet yX1_meet, Cond.code yX1_meet cX1_meet 13 none, Cond.methodLink RX1 75 Lib.Math.max.name, Cond.static Lib.Math.max.name, Cond.code Lib.Math.max.name Lib.Math.max.code 2 (some .int), Cond.methodLink RX1 80 Lib.Math.min.name, Cond.methodLink RX1 97 yX3_see, Cond.instanceMethod yX3_see, Cond.selects RX3 yX3_see yX3_see, Cond.code yX3_see cX3_see 2 none]
def wsX5_span_r8 : List Cond := [Cond.methodLink RX1 100 yX0_firstCount, Cond.instanceMethod yX0_firstCount, Cond.selects RX0 yX0_firstCount yX0_firstCount, Cond.code yX0_firstCount cX0_firstCount 2 (some .int), Cond.methodLink RX1 104 yX3_priceOf, Cond.methodLink RX1 65 yX0_seeFirsts, Cond.instanceMethod yX0_seeFirsts, Cond.selects RX0 yX0_seeFirsts yX0_seeFirsts, Cond.code yX0_seeFirsts cX0_seeFirsts 3 none, Cond.fieldLink RX0 80 "CrashDesk$Speed" "bottom" "I", Cond.fieldLink RX0 83 "CrashDesk$Speed" "top" "I", Cond.methodLink RX0 92 yX3_isSeen, Cond.instanceMethod yX3_isSeen, Cond.selects RX3 yX3_isSeen yX3_isSeen, Cond.code yX3_isSeen cX3_isSeen 2 (some .boolean), Cond.methodLink RX0 103 yX3_see, Cond.methodLink RX5 129 yX5_testWay, Cond.instanceMethod yX5_testWay, Cond.selects RX5 yX5_testWay yX5_testWay, Cond.code yX5_testWay cX5_testWay 1 none, Cond.classLink RX5 149 "java/util/NoSuchElementException", Cond.initialized "java/util/NoSuchElementException", Cond.fieldLink RX5 121 "CrashDesk$Meeting" "wayCount" "J", Cond.methodLink RX5 132 yX3_greatestSeen]
def wsX5_span_r9 : List Cond := [Cond.instanceMethod yX3_greatestSeen, Cond.selects RX3 yX3_greatestSeen yX3_greatestSeen, Cond.code yX3_greatestSeen cX3_greatestSeen 2 (some .int), Cond.methodLink RX3 54 yX3_isSeen, Cond.methodLink RX5 135 yX3_leastSeen, Cond.instanceMethod yX3_leastSeen, Cond.selects RX3 yX3_leastSeen yX3_leastSeen, Cond.code yX3_leastSeen cX3_leastSeen 2 (some .int)]
def wsX5_span : List Cond := .code yX5_span cX5_span 6 (some .int) :: ((wsX5_span_r1 ++ (wsX5_span_r2 ++ (wsX5_span_r3 ++ (wsX5_span_r4 ++ (wsX5_span_r5 ++ (wsX5_span_r6 ++ (wsX5_span_r7 ++ (wsX5_span_r8 ++ wsX5_span_r9)))))))) ++ wsX50 ++ wsX10 ++ wsX00 ++ wsX40 ++ wsX20 ++ wsX30 ++ (vx_atS RX5 168 "java/lang/IndexOutOfBoundsException" ["java/lang/RuntimeException", "java/lang/Exception"]).filter goodWord ++ (vx_atS RX5 153 "java/util/NoSuchElementException" ["java/lang/RuntimeException", "java/lang/Exception"]).filter goodWord)
def wsX5_fit_r1 : List Cond := [Cond.fieldLink RX5 31 "CrashDesk" "meeting" "LCrashDesk$Meeting;", Cond.fieldLink RX5 121 "CrashDesk$Meeting" "wayCount" "J", Cond.methodLink RX5 125 yX5_allTales, Cond.instanceMethod yX5_allTales, Cond.selects RX5 yX5_allTales yX5_allTales, Cond.initialized RX5, Cond.code yX5_allTales cX5_allTales 1 (some .int), Cond.fieldLink RX5 25 "CrashDesk" "taleCount" "I", Cond.methodLink RX5 118 yX5_reckon, Cond.instanceMethod yX5_reckon, Cond.selects RX5 yX5_reckon yX5_reckon, Cond.code yX5_reckon cX5_reckon 7 none, Cond.fieldLink RX5 35 "CrashDesk" "reckoned" "Z", Cond.fieldLink RX5 39 "CrashDesk" "reckonedTales" "I", Cond.fieldLink RX5 42 "CrashDesk" "reckonedWithout" "I", Cond.fieldLink RX5 157 "CrashDesk$Meeting" "zero" "LCrashDesk$Car;", Cond.fieldLink RX5 161 "CrashDesk$Meeting" "one" "LCrashDesk$Car;", Cond.fieldLink RX5 17 "CrashDesk" "tales" "[LCrashDesk$Tale;", Cond.fieldLink RX5 112 "CrashDesk$Tale" "car" "I", Cond.fieldLink RX5 113 "CrashDesk$Tale" "speed" "I", Cond.fieldLink RX5 21 "CrashDesk" "skidCount" "I", Cond.fieldLink RX5 11 "CrashDesk" "skids" "[LCrashDesk$Skid;", Cond.fieldLink RX5 87 "CrashDesk$Skid" "counts" "Z", Cond.fieldLink RX5 75 "CrashDesk$Skid" "car" "I"]
def wsX5_fit_r2 : List Cond := [Cond.methodLink RX5 188 yX0_clear, Cond.instanceMethod yX0_clear, Cond.selects RX0 yX0_clear yX0_clear, Cond.initialized RX0, Cond.code yX0_clear cX0_clear 1 none, Cond.fieldLink RX0 18 "CrashDesk$Car" "first" "LCrashDesk$Speed;", Cond.fieldLink RX0 22 "CrashDesk$Car" "at" "LCrashDesk$Speed;", Cond.fieldLink RX0 25 "CrashDesk$Car" "after" "LCrashDesk$Speed;", Cond.fieldLink RX0 32 "CrashDesk$Car" "aheadLeast" "I", Cond.fieldLink RX0 35 "CrashDesk$Car" "aheadGreatest" "I", Cond.fieldLink RX0 38 "CrashDesk$Car" "behindLeast" "I", Cond.fieldLink RX0 41 "CrashDesk$Car" "behindGreatest" "I", Cond.fieldLink RX0 44 "CrashDesk$Car" "skidsBehind" "Z", Cond.methodLink RX0 48 yX3_clear, Cond.instanceMethod yX3_clear, Cond.selects RX3 yX3_clear yX3_clear, Cond.initialized RX3, Cond.code yX3_clear cX3_clear 2 none, Cond.fieldLink RX3 9 "CrashDesk$Speed" "low" "I", Cond.fieldLink RX3 15 "CrashDesk$Speed" "high" "I", Cond.fieldLink RX3 28 "CrashDesk$Speed" "seen" "[Z", Cond.methodLink RX3 32 yX3_setPrice, Cond.instanceMethod yX3_setPrice, Cond.selects RX3 yX3_setPrice yX3_setPrice]
def wsX5_fit_r3 : List Cond := [Cond.code yX3_setPrice cX3_setPrice 3 none, Cond.fieldLink RX3 24 "CrashDesk$Speed" "prices" "[I", Cond.methodLink RX5 180 yX1_pick, Cond.instanceMethod yX1_pick, Cond.selects RX1 yX1_pick yX1_pick, Cond.initialized RX1, Cond.code yX1_pick cX1_pick 2 (some (.object "CrashDesk$Car")), Cond.fieldLink RX1 12 "CrashDesk$Meeting" "zero" "LCrashDesk$Car;", Cond.fieldLink RX1 18 "CrashDesk$Meeting" "one" "LCrashDesk$Car;", Cond.methodLink RX5 183 yX0_pick, Cond.instanceMethod yX0_pick, Cond.selects RX0 yX0_pick yX0_pick, Cond.code yX0_pick cX0_pick 2 (some (.object "CrashDesk$Speed")), Cond.methodLink RX5 191 yX3_hear, Cond.instanceMethod yX3_hear, Cond.selects RX3 yX3_hear yX3_hear, Cond.code yX3_hear cX3_hear 5 none, Cond.fieldLink RX3 36 "CrashDesk$Tale" "low" "I", Cond.fieldLink RX3 39 "CrashDesk$Tale" "high" "I", Cond.methodLink RX3 40 yX3_isOpen, Cond.instanceMethod yX3_isOpen, Cond.selects RX3 yX3_isOpen yX3_isOpen, Cond.code yX3_isOpen cX3_isOpen 2 (some .boolean), Cond.methodLink RX3 44 yX3_priceOf]
def wsX5_fit_r4 : List Cond := [Cond.instanceMethod yX3_priceOf, Cond.selects RX3 yX3_priceOf yX3_priceOf, Cond.code yX3_priceOf cX3_priceOf 2 (some .int), Cond.methodLink RX5 195 yX0_add, Cond.instanceMethod yX0_add, Cond.selects RX0 yX0_add yX0_add, Cond.code yX0_add cX0_add 2 none, Cond.fieldLink RX0 51 "CrashDesk$Skid" "behind" "Z", Cond.fieldLink RX0 56 "CrashDesk$Skid" "least" "I", Cond.fieldLink RX0 59 "CrashDesk$Skid" "greatest" "I", Cond.methodLink RX5 199 yX1_reckon, Cond.instanceMethod yX1_reckon, Cond.selects RX1 yX1_reckon yX1_reckon, Cond.code yX1_reckon cX1_reckon 2 none, Cond.fieldLink RX1 21 "CrashDesk$Meeting" "wayCount" "J", Cond.fieldLink RX1 25 "CrashDesk$Meeting" "cheapest" "I", Cond.fieldLink RX1 35 "CrashDesk$Car" "mass" "I", Cond.fieldLink RX1 29 "CrashDesk$Meeting" "loss" "I", Cond.fieldLink RX1 32 "CrashDesk$Meeting" "gain" "I", Cond.fieldLink RX1 45 "CrashDesk$Car" "at" "LCrashDesk$Speed;", Cond.fieldLink RX1 49 "CrashDesk$Speed" "bottom" "I", Cond.fieldLink RX1 54 "CrashDesk$Speed" "top" "I", Cond.methodLink RX1 38 yX1_lowestShare, Cond.static yX1_lowestShare]
def wsX5_fit_r5 : List Cond := [Cond.code yX1_lowestShare cX1_lowestShare 3 (some .int), Cond.methodLink RX1 42 yX0_settle, Cond.instanceMethod yX0_settle, Cond.selects RX0 yX0_settle yX0_settle, Cond.code yX0_settle cX0_settle 2 none, Cond.methodLink RX0 62 yX0_isTakenBehind, Cond.instanceMethod yX0_isTakenBehind, Cond.selects RX0 yX0_isTakenBehind yX0_isTakenBehind, Cond.code yX0_isTakenBehind cX0_isTakenBehind 3 (some .boolean), Cond.methodLink RX0 66 yX3_setPrice, Cond.methodLink RX0 70 yX3_isOpen, Cond.methodLink RX0 73 yX0_joinFirsts, Cond.instanceMethod yX0_joinFirsts, Cond.selects RX0 yX0_joinFirsts yX0_joinFirsts, Cond.code yX0_joinFirsts cX0_joinFirsts 6 none, Cond.methodLink RX0 86 Lib.Math.abs.name, Cond.static Lib.Math.abs.name, Cond.initialized "java/lang/Math", Cond.code Lib.Math.abs.name Lib.Math.abs.code 1 (some .int), Cond.fieldLink RX0 28 "CrashDesk$Car" "firstCounts" "[I", Cond.methodLink RX0 95 yX0_isTakenAhead, Cond.instanceMethod yX0_isTakenAhead, Cond.selects RX0 yX0_isTakenAhead yX0_isTakenAhead, Cond.code yX0_isTakenAhead cX0_isTakenAhead 4 (some .boolean)]
def wsX5_fit_r6 : List Cond := [Cond.methodLink RX0 99 yX0_firstFor, Cond.static yX0_firstFor, Cond.code yX0_firstFor cX0_firstFor 2 (some .int), Cond.methodLink RX0 106 yX3_priceOf, Cond.static yX5_cheaper, Cond.code yX5_cheaper cX5_cheaper 2 (some .int), Cond.methodLink RX0 77 yX3_bound, Cond.instanceMethod yX3_bound, Cond.selects RX3 yX3_bound yX3_bound, Cond.code yX3_bound cX3_bound 2 none, Cond.fieldLink RX3 18 "CrashDesk$Speed" "bottom" "I", Cond.fieldLink RX3 21 "CrashDesk$Speed" "top" "I", Cond.methodLink RX3 48 Lib.Math.min.name, Cond.static Lib.Math.min.name, Cond.code Lib.Math.min.name Lib.Math.min.code 2 (some .int), Cond.methodLink RX1 57 yX3_isOpen, Cond.methodLink RX1 61 yX1_pushFrom, Cond.instanceMethod yX1_pushFrom, Cond.selects RX1 yX1_pushFrom yX1_pushFrom, Cond.code yX1_pushFrom cX1_pushFrom 3 none, Cond.fieldLink RX1 68 "CrashDesk$Car" "after" "LCrashDesk$Speed;", Cond.methodLink RX1 71 yX1_meet, Cond.instanceMethod yX1_meet, Cond.selects RX1 yX1_meet yX1_meet]
def wsX5_fit_r7 : List Cond := [Cond.code yX1_meet cX1_meet 13 none, Cond.methodLink RX1 75 Lib.Math.max.name, Cond.static Lib.Math.max.name, Cond.code Lib.Math.max.name Lib.Math.max.code 2 (some .int), Cond.methodLink RX1 80 Lib.Math.min.name, Cond.methodLink RX1 97 yX3_see, Cond.instanceMethod yX3_see, Cond.selects RX3 yX3_see yX3_see, Cond.code yX3_see cX3_see 2 none, Cond.methodLink RX1 100 yX0_firstCount, Cond.instanceMethod yX0_firstCount, Cond.selects RX0 yX0_firstCount yX0_firstCount, Cond.code yX0_firstCount cX0_firstCount 2 (some .int), Cond.methodLink RX1 104 yX3_priceOf, Cond.methodLink RX1 65 yX0_seeFirsts, Cond.instanceMethod yX0_seeFirsts, Cond.selects RX0 yX0_seeFirsts yX0_seeFirsts, Cond.code yX0_seeFirsts cX0_seeFirsts 3 none, Cond.fieldLink RX0 80 "CrashDesk$Speed" "bottom" "I", Cond.fieldLink RX0 83 "CrashDesk$Speed" "top" "I", Cond.methodLink RX0 92 yX3_isSeen, Cond.instanceMethod yX3_isSeen, Cond.selects RX3 yX3_isSeen yX3_isSeen, Cond.code yX3_isSeen cX3_isSeen 2 (some .boolean)]
def wsX5_fit_r8 : List Cond := [Cond.methodLink RX0 103 yX3_see]
def wsX5_fit : List Cond := .code yX5_fit cX5_fit 2 (some .boolean) :: ((wsX5_fit_r1 ++ (wsX5_fit_r2 ++ (wsX5_fit_r3 ++ (wsX5_fit_r4 ++ (wsX5_fit_r5 ++ (wsX5_fit_r6 ++ (wsX5_fit_r7 ++ wsX5_fit_r8))))))) ++ wsX50 ++ wsX10 ++ wsX40 ++ wsX20 ++ wsX00 ++ wsX30)
def wsX5_wrong_r1 : List Cond := [Cond.fieldLink RX5 31 "CrashDesk" "meeting" "LCrashDesk$Meeting;", Cond.fieldLink RX5 138 "CrashDesk$Meeting" "cheapest" "I", Cond.methodLink RX5 118 yX5_reckon, Cond.instanceMethod yX5_reckon, Cond.selects RX5 yX5_reckon yX5_reckon, Cond.initialized RX5, Cond.code yX5_reckon cX5_reckon 7 none, Cond.fieldLink RX5 35 "CrashDesk" "reckoned" "Z", Cond.fieldLink RX5 39 "CrashDesk" "reckonedTales" "I", Cond.fieldLink RX5 42 "CrashDesk" "reckonedWithout" "I", Cond.fieldLink RX5 157 "CrashDesk$Meeting" "zero" "LCrashDesk$Car;", Cond.fieldLink RX5 161 "CrashDesk$Meeting" "one" "LCrashDesk$Car;", Cond.fieldLink RX5 25 "CrashDesk" "taleCount" "I", Cond.fieldLink RX5 17 "CrashDesk" "tales" "[LCrashDesk$Tale;", Cond.fieldLink RX5 112 "CrashDesk$Tale" "car" "I", Cond.fieldLink RX5 113 "CrashDesk$Tale" "speed" "I", Cond.fieldLink RX5 21 "CrashDesk" "skidCount" "I", Cond.fieldLink RX5 11 "CrashDesk" "skids" "[LCrashDesk$Skid;", Cond.fieldLink RX5 87 "CrashDesk$Skid" "counts" "Z", Cond.fieldLink RX5 75 "CrashDesk$Skid" "car" "I", Cond.methodLink RX5 188 yX0_clear, Cond.instanceMethod yX0_clear, Cond.selects RX0 yX0_clear yX0_clear, Cond.initialized RX0]
def wsX5_wrong_r2 : List Cond := [Cond.code yX0_clear cX0_clear 1 none, Cond.fieldLink RX0 18 "CrashDesk$Car" "first" "LCrashDesk$Speed;", Cond.fieldLink RX0 22 "CrashDesk$Car" "at" "LCrashDesk$Speed;", Cond.fieldLink RX0 25 "CrashDesk$Car" "after" "LCrashDesk$Speed;", Cond.fieldLink RX0 32 "CrashDesk$Car" "aheadLeast" "I", Cond.fieldLink RX0 35 "CrashDesk$Car" "aheadGreatest" "I", Cond.fieldLink RX0 38 "CrashDesk$Car" "behindLeast" "I", Cond.fieldLink RX0 41 "CrashDesk$Car" "behindGreatest" "I", Cond.fieldLink RX0 44 "CrashDesk$Car" "skidsBehind" "Z", Cond.methodLink RX0 48 yX3_clear, Cond.instanceMethod yX3_clear, Cond.selects RX3 yX3_clear yX3_clear, Cond.initialized RX3, Cond.code yX3_clear cX3_clear 2 none, Cond.fieldLink RX3 9 "CrashDesk$Speed" "low" "I", Cond.fieldLink RX3 15 "CrashDesk$Speed" "high" "I", Cond.fieldLink RX3 28 "CrashDesk$Speed" "seen" "[Z", Cond.methodLink RX3 32 yX3_setPrice, Cond.instanceMethod yX3_setPrice, Cond.selects RX3 yX3_setPrice yX3_setPrice, Cond.code yX3_setPrice cX3_setPrice 3 none, Cond.fieldLink RX3 24 "CrashDesk$Speed" "prices" "[I", Cond.methodLink RX5 180 yX1_pick, Cond.instanceMethod yX1_pick]
def wsX5_wrong_r3 : List Cond := [Cond.selects RX1 yX1_pick yX1_pick, Cond.initialized RX1, Cond.code yX1_pick cX1_pick 2 (some (.object "CrashDesk$Car")), Cond.fieldLink RX1 12 "CrashDesk$Meeting" "zero" "LCrashDesk$Car;", Cond.fieldLink RX1 18 "CrashDesk$Meeting" "one" "LCrashDesk$Car;", Cond.methodLink RX5 183 yX0_pick, Cond.instanceMethod yX0_pick, Cond.selects RX0 yX0_pick yX0_pick, Cond.code yX0_pick cX0_pick 2 (some (.object "CrashDesk$Speed")), Cond.methodLink RX5 191 yX3_hear, Cond.instanceMethod yX3_hear, Cond.selects RX3 yX3_hear yX3_hear, Cond.code yX3_hear cX3_hear 5 none, Cond.fieldLink RX3 36 "CrashDesk$Tale" "low" "I", Cond.fieldLink RX3 39 "CrashDesk$Tale" "high" "I", Cond.methodLink RX3 40 yX3_isOpen, Cond.instanceMethod yX3_isOpen, Cond.selects RX3 yX3_isOpen yX3_isOpen, Cond.code yX3_isOpen cX3_isOpen 2 (some .boolean), Cond.methodLink RX3 44 yX3_priceOf, Cond.instanceMethod yX3_priceOf, Cond.selects RX3 yX3_priceOf yX3_priceOf, Cond.code yX3_priceOf cX3_priceOf 2 (some .int), Cond.methodLink RX5 195 yX0_add]
def wsX5_wrong_r4 : List Cond := [Cond.instanceMethod yX0_add, Cond.selects RX0 yX0_add yX0_add, Cond.code yX0_add cX0_add 2 none, Cond.fieldLink RX0 51 "CrashDesk$Skid" "behind" "Z", Cond.fieldLink RX0 56 "CrashDesk$Skid" "least" "I", Cond.fieldLink RX0 59 "CrashDesk$Skid" "greatest" "I", Cond.methodLink RX5 199 yX1_reckon, Cond.instanceMethod yX1_reckon, Cond.selects RX1 yX1_reckon yX1_reckon, Cond.code yX1_reckon cX1_reckon 2 none, Cond.fieldLink RX1 21 "CrashDesk$Meeting" "wayCount" "J", Cond.fieldLink RX1 25 "CrashDesk$Meeting" "cheapest" "I", Cond.fieldLink RX1 35 "CrashDesk$Car" "mass" "I", Cond.fieldLink RX1 29 "CrashDesk$Meeting" "loss" "I", Cond.fieldLink RX1 32 "CrashDesk$Meeting" "gain" "I", Cond.fieldLink RX1 45 "CrashDesk$Car" "at" "LCrashDesk$Speed;", Cond.fieldLink RX1 49 "CrashDesk$Speed" "bottom" "I", Cond.fieldLink RX1 54 "CrashDesk$Speed" "top" "I", Cond.methodLink RX1 38 yX1_lowestShare, Cond.static yX1_lowestShare, Cond.code yX1_lowestShare cX1_lowestShare 3 (some .int), Cond.methodLink RX1 42 yX0_settle, Cond.instanceMethod yX0_settle, Cond.selects RX0 yX0_settle yX0_settle]
def wsX5_wrong_r5 : List Cond := [Cond.code yX0_settle cX0_settle 2 none, Cond.methodLink RX0 62 yX0_isTakenBehind, Cond.instanceMethod yX0_isTakenBehind, Cond.selects RX0 yX0_isTakenBehind yX0_isTakenBehind, Cond.code yX0_isTakenBehind cX0_isTakenBehind 3 (some .boolean), Cond.methodLink RX0 66 yX3_setPrice, Cond.methodLink RX0 70 yX3_isOpen, Cond.methodLink RX0 73 yX0_joinFirsts, Cond.instanceMethod yX0_joinFirsts, Cond.selects RX0 yX0_joinFirsts yX0_joinFirsts, Cond.code yX0_joinFirsts cX0_joinFirsts 6 none, Cond.methodLink RX0 86 Lib.Math.abs.name, Cond.static Lib.Math.abs.name, Cond.initialized "java/lang/Math", Cond.code Lib.Math.abs.name Lib.Math.abs.code 1 (some .int), Cond.fieldLink RX0 28 "CrashDesk$Car" "firstCounts" "[I", Cond.methodLink RX0 95 yX0_isTakenAhead, Cond.instanceMethod yX0_isTakenAhead, Cond.selects RX0 yX0_isTakenAhead yX0_isTakenAhead, Cond.code yX0_isTakenAhead cX0_isTakenAhead 4 (some .boolean), Cond.methodLink RX0 99 yX0_firstFor, Cond.static yX0_firstFor, Cond.code yX0_firstFor cX0_firstFor 2 (some .int), Cond.methodLink RX0 106 yX3_priceOf]
def wsX5_wrong_r6 : List Cond := [Cond.static yX5_cheaper, Cond.code yX5_cheaper cX5_cheaper 2 (some .int), Cond.methodLink RX0 77 yX3_bound, Cond.instanceMethod yX3_bound, Cond.selects RX3 yX3_bound yX3_bound, Cond.code yX3_bound cX3_bound 2 none, Cond.fieldLink RX3 18 "CrashDesk$Speed" "bottom" "I", Cond.fieldLink RX3 21 "CrashDesk$Speed" "top" "I", Cond.methodLink RX3 48 Lib.Math.min.name, Cond.static Lib.Math.min.name, Cond.code Lib.Math.min.name Lib.Math.min.code 2 (some .int), Cond.methodLink RX1 57 yX3_isOpen, Cond.methodLink RX1 61 yX1_pushFrom, Cond.instanceMethod yX1_pushFrom, Cond.selects RX1 yX1_pushFrom yX1_pushFrom, Cond.code yX1_pushFrom cX1_pushFrom 3 none, Cond.fieldLink RX1 68 "CrashDesk$Car" "after" "LCrashDesk$Speed;", Cond.methodLink RX1 71 yX1_meet, Cond.instanceMethod yX1_meet, Cond.selects RX1 yX1_meet yX1_meet, Cond.code yX1_meet cX1_meet 13 none, Cond.methodLink RX1 75 Lib.Math.max.name, Cond.static Lib.Math.max.name, Cond.code Lib.Math.max.name Lib.Math.max.code 2 (some .int)]
def wsX5_wrong_r7 : List Cond := [Cond.methodLink RX1 80 Lib.Math.min.name, Cond.methodLink RX1 97 yX3_see, Cond.instanceMethod yX3_see, Cond.selects RX3 yX3_see yX3_see, Cond.code yX3_see cX3_see 2 none, Cond.methodLink RX1 100 yX0_firstCount, Cond.instanceMethod yX0_firstCount, Cond.selects RX0 yX0_firstCount yX0_firstCount, Cond.code yX0_firstCount cX0_firstCount 2 (some .int), Cond.methodLink RX1 104 yX3_priceOf, Cond.methodLink RX1 65 yX0_seeFirsts, Cond.instanceMethod yX0_seeFirsts, Cond.selects RX0 yX0_seeFirsts yX0_seeFirsts, Cond.code yX0_seeFirsts cX0_seeFirsts 3 none, Cond.fieldLink RX0 80 "CrashDesk$Speed" "bottom" "I", Cond.fieldLink RX0 83 "CrashDesk$Speed" "top" "I", Cond.methodLink RX0 92 yX3_isSeen, Cond.instanceMethod yX3_isSeen, Cond.selects RX3 yX3_isSeen yX3_isSeen, Cond.code yX3_isSeen cX3_isSeen 2 (some .boolean), Cond.methodLink RX0 103 yX3_see]
def wsX5_wrong : List Cond := .code yX5_wrong cX5_wrong 1 (some .int) :: ((wsX5_wrong_r1 ++ (wsX5_wrong_r2 ++ (wsX5_wrong_r3 ++ (wsX5_wrong_r4 ++ (wsX5_wrong_r5 ++ (wsX5_wrong_r6 ++ wsX5_wrong_r7)))))) ++ wsX50 ++ wsX10 ++ wsX40 ++ wsX20 ++ wsX00 ++ wsX30)
def wsX5_which_r1 : List Cond := [Cond.fieldLink RX5 31 "CrashDesk" "meeting" "LCrashDesk$Meeting;", Cond.fieldLink RX5 138 "CrashDesk$Meeting" "cheapest" "I", Cond.methodLink RX5 118 yX5_reckon, Cond.instanceMethod yX5_reckon, Cond.selects RX5 yX5_reckon yX5_reckon, Cond.initialized RX5, Cond.code yX5_reckon cX5_reckon 7 none, Cond.fieldLink RX5 35 "CrashDesk" "reckoned" "Z", Cond.fieldLink RX5 39 "CrashDesk" "reckonedTales" "I", Cond.fieldLink RX5 42 "CrashDesk" "reckonedWithout" "I", Cond.fieldLink RX5 157 "CrashDesk$Meeting" "zero" "LCrashDesk$Car;", Cond.fieldLink RX5 161 "CrashDesk$Meeting" "one" "LCrashDesk$Car;", Cond.fieldLink RX5 25 "CrashDesk" "taleCount" "I", Cond.fieldLink RX5 17 "CrashDesk" "tales" "[LCrashDesk$Tale;", Cond.fieldLink RX5 112 "CrashDesk$Tale" "car" "I", Cond.fieldLink RX5 113 "CrashDesk$Tale" "speed" "I", Cond.fieldLink RX5 21 "CrashDesk" "skidCount" "I", Cond.fieldLink RX5 11 "CrashDesk" "skids" "[LCrashDesk$Skid;", Cond.fieldLink RX5 87 "CrashDesk$Skid" "counts" "Z", Cond.fieldLink RX5 75 "CrashDesk$Skid" "car" "I", Cond.methodLink RX5 188 yX0_clear, Cond.instanceMethod yX0_clear, Cond.selects RX0 yX0_clear yX0_clear, Cond.initialized RX0]
def wsX5_which_r2 : List Cond := [Cond.code yX0_clear cX0_clear 1 none, Cond.fieldLink RX0 18 "CrashDesk$Car" "first" "LCrashDesk$Speed;", Cond.fieldLink RX0 22 "CrashDesk$Car" "at" "LCrashDesk$Speed;", Cond.fieldLink RX0 25 "CrashDesk$Car" "after" "LCrashDesk$Speed;", Cond.fieldLink RX0 32 "CrashDesk$Car" "aheadLeast" "I", Cond.fieldLink RX0 35 "CrashDesk$Car" "aheadGreatest" "I", Cond.fieldLink RX0 38 "CrashDesk$Car" "behindLeast" "I", Cond.fieldLink RX0 41 "CrashDesk$Car" "behindGreatest" "I", Cond.fieldLink RX0 44 "CrashDesk$Car" "skidsBehind" "Z", Cond.methodLink RX0 48 yX3_clear, Cond.instanceMethod yX3_clear, Cond.selects RX3 yX3_clear yX3_clear, Cond.initialized RX3, Cond.code yX3_clear cX3_clear 2 none, Cond.fieldLink RX3 9 "CrashDesk$Speed" "low" "I", Cond.fieldLink RX3 15 "CrashDesk$Speed" "high" "I", Cond.fieldLink RX3 28 "CrashDesk$Speed" "seen" "[Z", Cond.methodLink RX3 32 yX3_setPrice, Cond.instanceMethod yX3_setPrice, Cond.selects RX3 yX3_setPrice yX3_setPrice, Cond.code yX3_setPrice cX3_setPrice 3 none, Cond.fieldLink RX3 24 "CrashDesk$Speed" "prices" "[I", Cond.methodLink RX5 180 yX1_pick, Cond.instanceMethod yX1_pick]
def wsX5_which_r3 : List Cond := [Cond.selects RX1 yX1_pick yX1_pick, Cond.initialized RX1, Cond.code yX1_pick cX1_pick 2 (some (.object "CrashDesk$Car")), Cond.fieldLink RX1 12 "CrashDesk$Meeting" "zero" "LCrashDesk$Car;", Cond.fieldLink RX1 18 "CrashDesk$Meeting" "one" "LCrashDesk$Car;", Cond.methodLink RX5 183 yX0_pick, Cond.instanceMethod yX0_pick, Cond.selects RX0 yX0_pick yX0_pick, Cond.code yX0_pick cX0_pick 2 (some (.object "CrashDesk$Speed")), Cond.methodLink RX5 191 yX3_hear, Cond.instanceMethod yX3_hear, Cond.selects RX3 yX3_hear yX3_hear, Cond.code yX3_hear cX3_hear 5 none, Cond.fieldLink RX3 36 "CrashDesk$Tale" "low" "I", Cond.fieldLink RX3 39 "CrashDesk$Tale" "high" "I", Cond.methodLink RX3 40 yX3_isOpen, Cond.instanceMethod yX3_isOpen, Cond.selects RX3 yX3_isOpen yX3_isOpen, Cond.code yX3_isOpen cX3_isOpen 2 (some .boolean), Cond.methodLink RX3 44 yX3_priceOf, Cond.instanceMethod yX3_priceOf, Cond.selects RX3 yX3_priceOf yX3_priceOf, Cond.code yX3_priceOf cX3_priceOf 2 (some .int), Cond.methodLink RX5 195 yX0_add]
def wsX5_which_r4 : List Cond := [Cond.instanceMethod yX0_add, Cond.selects RX0 yX0_add yX0_add, Cond.code yX0_add cX0_add 2 none, Cond.fieldLink RX0 51 "CrashDesk$Skid" "behind" "Z", Cond.fieldLink RX0 56 "CrashDesk$Skid" "least" "I", Cond.fieldLink RX0 59 "CrashDesk$Skid" "greatest" "I", Cond.methodLink RX5 199 yX1_reckon, Cond.instanceMethod yX1_reckon, Cond.selects RX1 yX1_reckon yX1_reckon, Cond.code yX1_reckon cX1_reckon 2 none, Cond.fieldLink RX1 21 "CrashDesk$Meeting" "wayCount" "J", Cond.fieldLink RX1 25 "CrashDesk$Meeting" "cheapest" "I", Cond.fieldLink RX1 35 "CrashDesk$Car" "mass" "I", Cond.fieldLink RX1 29 "CrashDesk$Meeting" "loss" "I", Cond.fieldLink RX1 32 "CrashDesk$Meeting" "gain" "I", Cond.fieldLink RX1 45 "CrashDesk$Car" "at" "LCrashDesk$Speed;", Cond.fieldLink RX1 49 "CrashDesk$Speed" "bottom" "I", Cond.fieldLink RX1 54 "CrashDesk$Speed" "top" "I", Cond.methodLink RX1 38 yX1_lowestShare, Cond.static yX1_lowestShare, Cond.code yX1_lowestShare cX1_lowestShare 3 (some .int), Cond.methodLink RX1 42 yX0_settle, Cond.instanceMethod yX0_settle, Cond.selects RX0 yX0_settle yX0_settle]
def wsX5_which_r5 : List Cond := [Cond.code yX0_settle cX0_settle 2 none, Cond.methodLink RX0 62 yX0_isTakenBehind, Cond.instanceMethod yX0_isTakenBehind, Cond.selects RX0 yX0_isTakenBehind yX0_isTakenBehind, Cond.code yX0_isTakenBehind cX0_isTakenBehind 3 (some .boolean), Cond.methodLink RX0 66 yX3_setPrice, Cond.methodLink RX0 70 yX3_isOpen, Cond.methodLink RX0 73 yX0_joinFirsts, Cond.instanceMethod yX0_joinFirsts, Cond.selects RX0 yX0_joinFirsts yX0_joinFirsts, Cond.code yX0_joinFirsts cX0_joinFirsts 6 none, Cond.methodLink RX0 86 Lib.Math.abs.name, Cond.static Lib.Math.abs.name, Cond.initialized "java/lang/Math", Cond.code Lib.Math.abs.name Lib.Math.abs.code 1 (some .int), Cond.fieldLink RX0 28 "CrashDesk$Car" "firstCounts" "[I", Cond.methodLink RX0 95 yX0_isTakenAhead, Cond.instanceMethod yX0_isTakenAhead, Cond.selects RX0 yX0_isTakenAhead yX0_isTakenAhead, Cond.code yX0_isTakenAhead cX0_isTakenAhead 4 (some .boolean), Cond.methodLink RX0 99 yX0_firstFor, Cond.static yX0_firstFor, Cond.code yX0_firstFor cX0_firstFor 2 (some .int), Cond.methodLink RX0 106 yX3_priceOf]
def wsX5_which_r6 : List Cond := [Cond.static yX5_cheaper, Cond.code yX5_cheaper cX5_cheaper 2 (some .int), Cond.methodLink RX0 77 yX3_bound, Cond.instanceMethod yX3_bound, Cond.selects RX3 yX3_bound yX3_bound, Cond.code yX3_bound cX3_bound 2 none, Cond.fieldLink RX3 18 "CrashDesk$Speed" "bottom" "I", Cond.fieldLink RX3 21 "CrashDesk$Speed" "top" "I", Cond.methodLink RX3 48 Lib.Math.min.name, Cond.static Lib.Math.min.name, Cond.code Lib.Math.min.name Lib.Math.min.code 2 (some .int), Cond.methodLink RX1 57 yX3_isOpen, Cond.methodLink RX1 61 yX1_pushFrom, Cond.instanceMethod yX1_pushFrom, Cond.selects RX1 yX1_pushFrom yX1_pushFrom, Cond.code yX1_pushFrom cX1_pushFrom 3 none, Cond.fieldLink RX1 68 "CrashDesk$Car" "after" "LCrashDesk$Speed;", Cond.methodLink RX1 71 yX1_meet, Cond.instanceMethod yX1_meet, Cond.selects RX1 yX1_meet yX1_meet, Cond.code yX1_meet cX1_meet 13 none, Cond.methodLink RX1 75 Lib.Math.max.name, Cond.static Lib.Math.max.name, Cond.code Lib.Math.max.name Lib.Math.max.code 2 (some .int)]
def wsX5_which_r7 : List Cond := [Cond.methodLink RX1 80 Lib.Math.min.name, Cond.methodLink RX1 97 yX3_see, Cond.instanceMethod yX3_see, Cond.selects RX3 yX3_see yX3_see, Cond.code yX3_see cX3_see 2 none, Cond.methodLink RX1 100 yX0_firstCount, Cond.instanceMethod yX0_firstCount, Cond.selects RX0 yX0_firstCount yX0_firstCount, Cond.code yX0_firstCount cX0_firstCount 2 (some .int), Cond.methodLink RX1 104 yX3_priceOf, Cond.methodLink RX1 65 yX0_seeFirsts, Cond.instanceMethod yX0_seeFirsts, Cond.selects RX0 yX0_seeFirsts yX0_seeFirsts, Cond.code yX0_seeFirsts cX0_seeFirsts 3 none, Cond.fieldLink RX0 80 "CrashDesk$Speed" "bottom" "I", Cond.fieldLink RX0 83 "CrashDesk$Speed" "top" "I", Cond.methodLink RX0 92 yX3_isSeen, Cond.instanceMethod yX3_isSeen, Cond.selects RX3 yX3_isSeen yX3_isSeen, Cond.code yX3_isSeen cX3_isSeen 2 (some .boolean), Cond.methodLink RX0 103 yX3_see]
def wsX5_which : List Cond := .code yX5_which cX5_which 1 (some .int) :: ((wsX5_which_r1 ++ (wsX5_which_r2 ++ (wsX5_which_r3 ++ (wsX5_which_r4 ++ (wsX5_which_r5 ++ (wsX5_which_r6 ++ wsX5_which_r7)))))) ++ wsX50 ++ wsX10 ++ wsX40 ++ wsX20 ++ wsX00 ++ wsX30)
def wsX5_odds_r1 : List Cond := [Cond.fieldLink RX5 31 "CrashDesk" "meeting" "LCrashDesk$Meeting;", Cond.fieldLink RX5 121 "CrashDesk$Meeting" "wayCount" "J", Cond.fieldLink RX5 21 "CrashDesk" "skidCount" "I", Cond.fieldLink RX5 11 "CrashDesk" "skids" "[LCrashDesk$Skid;", Cond.fieldLink RX5 87 "CrashDesk$Skid" "counts" "Z", Cond.methodLink RX5 118 yX5_reckon, Cond.instanceMethod yX5_reckon, Cond.selects RX5 yX5_reckon yX5_reckon, Cond.initialized RX5, Cond.code yX5_reckon cX5_reckon 7 none, Cond.fieldLink RX5 35 "CrashDesk" "reckoned" "Z", Cond.fieldLink RX5 39 "CrashDesk" "reckonedTales" "I", Cond.fieldLink RX5 42 "CrashDesk" "reckonedWithout" "I", Cond.fieldLink RX5 157 "CrashDesk$Meeting" "zero" "LCrashDesk$Car;", Cond.fieldLink RX5 161 "CrashDesk$Meeting" "one" "LCrashDesk$Car;", Cond.fieldLink RX5 25 "CrashDesk" "taleCount" "I", Cond.fieldLink RX5 17 "CrashDesk" "tales" "[LCrashDesk$Tale;", Cond.fieldLink RX5 112 "CrashDesk$Tale" "car" "I", Cond.fieldLink RX5 113 "CrashDesk$Tale" "speed" "I", Cond.fieldLink RX5 75 "CrashDesk$Skid" "car" "I", Cond.methodLink RX5 188 yX0_clear, Cond.instanceMethod yX0_clear, Cond.selects RX0 yX0_clear yX0_clear, Cond.initialized RX0]
def wsX5_odds_r2 : List Cond := [Cond.code yX0_clear cX0_clear 1 none, Cond.fieldLink RX0 18 "CrashDesk$Car" "first" "LCrashDesk$Speed;", Cond.fieldLink RX0 22 "CrashDesk$Car" "at" "LCrashDesk$Speed;", Cond.fieldLink RX0 25 "CrashDesk$Car" "after" "LCrashDesk$Speed;", Cond.fieldLink RX0 32 "CrashDesk$Car" "aheadLeast" "I", Cond.fieldLink RX0 35 "CrashDesk$Car" "aheadGreatest" "I", Cond.fieldLink RX0 38 "CrashDesk$Car" "behindLeast" "I", Cond.fieldLink RX0 41 "CrashDesk$Car" "behindGreatest" "I", Cond.fieldLink RX0 44 "CrashDesk$Car" "skidsBehind" "Z", Cond.methodLink RX0 48 yX3_clear, Cond.instanceMethod yX3_clear, Cond.selects RX3 yX3_clear yX3_clear, Cond.initialized RX3, Cond.code yX3_clear cX3_clear 2 none, Cond.fieldLink RX3 9 "CrashDesk$Speed" "low" "I", Cond.fieldLink RX3 15 "CrashDesk$Speed" "high" "I", Cond.fieldLink RX3 28 "CrashDesk$Speed" "seen" "[Z", Cond.methodLink RX3 32 yX3_setPrice, Cond.instanceMethod yX3_setPrice, Cond.selects RX3 yX3_setPrice yX3_setPrice, Cond.code yX3_setPrice cX3_setPrice 3 none, Cond.fieldLink RX3 24 "CrashDesk$Speed" "prices" "[I", Cond.methodLink RX5 180 yX1_pick, Cond.instanceMethod yX1_pick]
def wsX5_odds_r3 : List Cond := [Cond.selects RX1 yX1_pick yX1_pick, Cond.initialized RX1, Cond.code yX1_pick cX1_pick 2 (some (.object "CrashDesk$Car")), Cond.fieldLink RX1 12 "CrashDesk$Meeting" "zero" "LCrashDesk$Car;", Cond.fieldLink RX1 18 "CrashDesk$Meeting" "one" "LCrashDesk$Car;", Cond.methodLink RX5 183 yX0_pick, Cond.instanceMethod yX0_pick, Cond.selects RX0 yX0_pick yX0_pick, Cond.code yX0_pick cX0_pick 2 (some (.object "CrashDesk$Speed")), Cond.methodLink RX5 191 yX3_hear, Cond.instanceMethod yX3_hear, Cond.selects RX3 yX3_hear yX3_hear, Cond.code yX3_hear cX3_hear 5 none, Cond.fieldLink RX3 36 "CrashDesk$Tale" "low" "I", Cond.fieldLink RX3 39 "CrashDesk$Tale" "high" "I", Cond.methodLink RX3 40 yX3_isOpen, Cond.instanceMethod yX3_isOpen, Cond.selects RX3 yX3_isOpen yX3_isOpen, Cond.code yX3_isOpen cX3_isOpen 2 (some .boolean), Cond.methodLink RX3 44 yX3_priceOf, Cond.instanceMethod yX3_priceOf, Cond.selects RX3 yX3_priceOf yX3_priceOf, Cond.code yX3_priceOf cX3_priceOf 2 (some .int), Cond.methodLink RX5 195 yX0_add]
def wsX5_odds_r4 : List Cond := [Cond.instanceMethod yX0_add, Cond.selects RX0 yX0_add yX0_add, Cond.code yX0_add cX0_add 2 none, Cond.fieldLink RX0 51 "CrashDesk$Skid" "behind" "Z", Cond.fieldLink RX0 56 "CrashDesk$Skid" "least" "I", Cond.fieldLink RX0 59 "CrashDesk$Skid" "greatest" "I", Cond.methodLink RX5 199 yX1_reckon, Cond.instanceMethod yX1_reckon, Cond.selects RX1 yX1_reckon yX1_reckon, Cond.code yX1_reckon cX1_reckon 2 none, Cond.fieldLink RX1 21 "CrashDesk$Meeting" "wayCount" "J", Cond.fieldLink RX1 25 "CrashDesk$Meeting" "cheapest" "I", Cond.fieldLink RX1 35 "CrashDesk$Car" "mass" "I", Cond.fieldLink RX1 29 "CrashDesk$Meeting" "loss" "I", Cond.fieldLink RX1 32 "CrashDesk$Meeting" "gain" "I", Cond.fieldLink RX1 45 "CrashDesk$Car" "at" "LCrashDesk$Speed;", Cond.fieldLink RX1 49 "CrashDesk$Speed" "bottom" "I", Cond.fieldLink RX1 54 "CrashDesk$Speed" "top" "I", Cond.methodLink RX1 38 yX1_lowestShare, Cond.static yX1_lowestShare, Cond.code yX1_lowestShare cX1_lowestShare 3 (some .int), Cond.methodLink RX1 42 yX0_settle, Cond.instanceMethod yX0_settle, Cond.selects RX0 yX0_settle yX0_settle]
def wsX5_odds_r5 : List Cond := [Cond.code yX0_settle cX0_settle 2 none, Cond.methodLink RX0 62 yX0_isTakenBehind, Cond.instanceMethod yX0_isTakenBehind, Cond.selects RX0 yX0_isTakenBehind yX0_isTakenBehind, Cond.code yX0_isTakenBehind cX0_isTakenBehind 3 (some .boolean), Cond.methodLink RX0 66 yX3_setPrice, Cond.methodLink RX0 70 yX3_isOpen, Cond.methodLink RX0 73 yX0_joinFirsts, Cond.instanceMethod yX0_joinFirsts, Cond.selects RX0 yX0_joinFirsts yX0_joinFirsts, Cond.code yX0_joinFirsts cX0_joinFirsts 6 none, Cond.methodLink RX0 86 Lib.Math.abs.name, Cond.static Lib.Math.abs.name, Cond.initialized "java/lang/Math", Cond.code Lib.Math.abs.name Lib.Math.abs.code 1 (some .int), Cond.fieldLink RX0 28 "CrashDesk$Car" "firstCounts" "[I", Cond.methodLink RX0 95 yX0_isTakenAhead, Cond.instanceMethod yX0_isTakenAhead, Cond.selects RX0 yX0_isTakenAhead yX0_isTakenAhead, Cond.code yX0_isTakenAhead cX0_isTakenAhead 4 (some .boolean), Cond.methodLink RX0 99 yX0_firstFor, Cond.static yX0_firstFor, Cond.code yX0_firstFor cX0_firstFor 2 (some .int), Cond.methodLink RX0 106 yX3_priceOf]
def wsX5_odds_r6 : List Cond := [Cond.static yX5_cheaper, Cond.code yX5_cheaper cX5_cheaper 2 (some .int), Cond.methodLink RX0 77 yX3_bound, Cond.instanceMethod yX3_bound, Cond.selects RX3 yX3_bound yX3_bound, Cond.code yX3_bound cX3_bound 2 none, Cond.fieldLink RX3 18 "CrashDesk$Speed" "bottom" "I", Cond.fieldLink RX3 21 "CrashDesk$Speed" "top" "I", Cond.methodLink RX3 48 Lib.Math.min.name, Cond.static Lib.Math.min.name, Cond.code Lib.Math.min.name Lib.Math.min.code 2 (some .int), Cond.methodLink RX1 57 yX3_isOpen, Cond.methodLink RX1 61 yX1_pushFrom, Cond.instanceMethod yX1_pushFrom, Cond.selects RX1 yX1_pushFrom yX1_pushFrom, Cond.code yX1_pushFrom cX1_pushFrom 3 none, Cond.fieldLink RX1 68 "CrashDesk$Car" "after" "LCrashDesk$Speed;", Cond.methodLink RX1 71 yX1_meet, Cond.instanceMethod yX1_meet, Cond.selects RX1 yX1_meet yX1_meet, Cond.code yX1_meet cX1_meet 13 none, Cond.methodLink RX1 75 Lib.Math.max.name, Cond.static Lib.Math.max.name, Cond.code Lib.Math.max.name Lib.Math.max.code 2 (some .int)]
def wsX5_odds_r7 : List Cond := [Cond.methodLink RX1 80 Lib.Math.min.name, Cond.methodLink RX1 97 yX3_see, Cond.instanceMethod yX3_see, Cond.selects RX3 yX3_see yX3_see, Cond.code yX3_see cX3_see 2 none, Cond.methodLink RX1 100 yX0_firstCount, Cond.instanceMethod yX0_firstCount, Cond.selects RX0 yX0_firstCount yX0_firstCount, Cond.code yX0_firstCount cX0_firstCount 2 (some .int), Cond.methodLink RX1 104 yX3_priceOf, Cond.methodLink RX1 65 yX0_seeFirsts, Cond.instanceMethod yX0_seeFirsts, Cond.selects RX0 yX0_seeFirsts yX0_seeFirsts, Cond.code yX0_seeFirsts cX0_seeFirsts 3 none, Cond.fieldLink RX0 80 "CrashDesk$Speed" "bottom" "I", Cond.fieldLink RX0 83 "CrashDesk$Speed" "top" "I", Cond.methodLink RX0 92 yX3_isSeen, Cond.instanceMethod yX3_isSeen, Cond.selects RX3 yX3_isSeen yX3_isSeen, Cond.code yX3_isSeen cX3_isSeen 2 (some .boolean), Cond.methodLink RX0 103 yX3_see]
def wsX5_odds : List Cond := .code yX5_odds cX5_odds 3 (some .int) :: ((wsX5_odds_r1 ++ (wsX5_odds_r2 ++ (wsX5_odds_r3 ++ (wsX5_odds_r4 ++ (wsX5_odds_r5 ++ (wsX5_odds_r6 ++ wsX5_odds_r7)))))) ++ wsX50 ++ wsX10 ++ wsX20 ++ wsX40 ++ wsX00 ++ wsX30)
def wsX5_avoided_r1 : List Cond := [Cond.fieldLink RX5 141 "CrashDesk$Car" "first" "LCrashDesk$Speed;", Cond.methodLink RX5 47 yX5_carOf, Cond.instanceMethod yX5_carOf, Cond.selects RX5 yX5_carOf yX5_carOf, Cond.initialized RX5, Cond.code yX5_carOf cX5_carOf 2 (some (.object "CrashDesk$Car")), Cond.fieldLink RX5 31 "CrashDesk" "meeting" "LCrashDesk$Meeting;", Cond.methodLink RX5 60 yX5_testCar, Cond.static yX5_testCar, Cond.code yX5_testCar cX5_testCar 1 none, Cond.classLink RX5 164 "java/lang/IndexOutOfBoundsException", Cond.initialized "java/lang/IndexOutOfBoundsException", Cond.methodLink RX5 180 yX1_pick, Cond.instanceMethod yX1_pick, Cond.selects RX1 yX1_pick yX1_pick, Cond.initialized RX1, Cond.code yX1_pick cX1_pick 2 (some (.object "CrashDesk$Car")), Cond.fieldLink RX1 12 "CrashDesk$Meeting" "zero" "LCrashDesk$Car;", Cond.fieldLink RX1 18 "CrashDesk$Meeting" "one" "LCrashDesk$Car;", Cond.methodLink RX5 51 yX5_testNumber, Cond.static yX5_testNumber, Cond.code yX5_testNumber cX5_testNumber 3 none, Cond.classLink RX5 171 "java/lang/IllegalArgumentException", Cond.initialized "java/lang/IllegalArgumentException"]
def wsX5_avoided_r2 : List Cond := [Cond.methodLink RX5 118 yX5_reckon, Cond.instanceMethod yX5_reckon, Cond.selects RX5 yX5_reckon yX5_reckon, Cond.code yX5_reckon cX5_reckon 7 none, Cond.fieldLink RX5 35 "CrashDesk" "reckoned" "Z", Cond.fieldLink RX5 39 "CrashDesk" "reckonedTales" "I", Cond.fieldLink RX5 42 "CrashDesk" "reckonedWithout" "I", Cond.fieldLink RX5 157 "CrashDesk$Meeting" "zero" "LCrashDesk$Car;", Cond.fieldLink RX5 161 "CrashDesk$Meeting" "one" "LCrashDesk$Car;", Cond.fieldLink RX5 25 "CrashDesk" "taleCount" "I", Cond.fieldLink RX5 17 "CrashDesk" "tales" "[LCrashDesk$Tale;", Cond.fieldLink RX5 112 "CrashDesk$Tale" "car" "I", Cond.fieldLink RX5 113 "CrashDesk$Tale" "speed" "I", Cond.fieldLink RX5 21 "CrashDesk" "skidCount" "I", Cond.fieldLink RX5 11 "CrashDesk" "skids" "[LCrashDesk$Skid;", Cond.fieldLink RX5 87 "CrashDesk$Skid" "counts" "Z", Cond.fieldLink RX5 75 "CrashDesk$Skid" "car" "I", Cond.methodLink RX5 188 yX0_clear, Cond.instanceMethod yX0_clear, Cond.selects RX0 yX0_clear yX0_clear, Cond.initialized RX0, Cond.code yX0_clear cX0_clear 1 none, Cond.fieldLink RX0 18 "CrashDesk$Car" "first" "LCrashDesk$Speed;", Cond.fieldLink RX0 22 "CrashDesk$Car" "at" "LCrashDesk$Speed;"]
def wsX5_avoided_r3 : List Cond := [Cond.fieldLink RX0 25 "CrashDesk$Car" "after" "LCrashDesk$Speed;", Cond.fieldLink RX0 32 "CrashDesk$Car" "aheadLeast" "I", Cond.fieldLink RX0 35 "CrashDesk$Car" "aheadGreatest" "I", Cond.fieldLink RX0 38 "CrashDesk$Car" "behindLeast" "I", Cond.fieldLink RX0 41 "CrashDesk$Car" "behindGreatest" "I", Cond.fieldLink RX0 44 "CrashDesk$Car" "skidsBehind" "Z", Cond.methodLink RX0 48 yX3_clear, Cond.instanceMethod yX3_clear, Cond.selects RX3 yX3_clear yX3_clear, Cond.initialized RX3, Cond.code yX3_clear cX3_clear 2 none, Cond.fieldLink RX3 9 "CrashDesk$Speed" "low" "I", Cond.fieldLink RX3 15 "CrashDesk$Speed" "high" "I", Cond.fieldLink RX3 28 "CrashDesk$Speed" "seen" "[Z", Cond.methodLink RX3 32 yX3_setPrice, Cond.instanceMethod yX3_setPrice, Cond.selects RX3 yX3_setPrice yX3_setPrice, Cond.code yX3_setPrice cX3_setPrice 3 none, Cond.fieldLink RX3 24 "CrashDesk$Speed" "prices" "[I", Cond.methodLink RX5 183 yX0_pick, Cond.instanceMethod yX0_pick, Cond.selects RX0 yX0_pick yX0_pick, Cond.code yX0_pick cX0_pick 2 (some (.object "CrashDesk$Speed")), Cond.methodLink RX5 191 yX3_hear]
def wsX5_avoided_r4 : List Cond := [Cond.instanceMethod yX3_hear, Cond.selects RX3 yX3_hear yX3_hear, Cond.code yX3_hear cX3_hear 5 none, Cond.fieldLink RX3 36 "CrashDesk$Tale" "low" "I", Cond.fieldLink RX3 39 "CrashDesk$Tale" "high" "I", Cond.methodLink RX3 40 yX3_isOpen, Cond.instanceMethod yX3_isOpen, Cond.selects RX3 yX3_isOpen yX3_isOpen, Cond.code yX3_isOpen cX3_isOpen 2 (some .boolean), Cond.methodLink RX3 44 yX3_priceOf, Cond.instanceMethod yX3_priceOf, Cond.selects RX3 yX3_priceOf yX3_priceOf, Cond.code yX3_priceOf cX3_priceOf 2 (some .int), Cond.methodLink RX5 195 yX0_add, Cond.instanceMethod yX0_add, Cond.selects RX0 yX0_add yX0_add, Cond.code yX0_add cX0_add 2 none, Cond.fieldLink RX0 51 "CrashDesk$Skid" "behind" "Z", Cond.fieldLink RX0 56 "CrashDesk$Skid" "least" "I", Cond.fieldLink RX0 59 "CrashDesk$Skid" "greatest" "I", Cond.methodLink RX5 199 yX1_reckon, Cond.instanceMethod yX1_reckon, Cond.selects RX1 yX1_reckon yX1_reckon, Cond.code yX1_reckon cX1_reckon 2 none]
def wsX5_avoided_r5 : List Cond := [Cond.fieldLink RX1 21 "CrashDesk$Meeting" "wayCount" "J", Cond.fieldLink RX1 25 "CrashDesk$Meeting" "cheapest" "I", Cond.fieldLink RX1 35 "CrashDesk$Car" "mass" "I", Cond.fieldLink RX1 29 "CrashDesk$Meeting" "loss" "I", Cond.fieldLink RX1 32 "CrashDesk$Meeting" "gain" "I", Cond.fieldLink RX1 45 "CrashDesk$Car" "at" "LCrashDesk$Speed;", Cond.fieldLink RX1 49 "CrashDesk$Speed" "bottom" "I", Cond.fieldLink RX1 54 "CrashDesk$Speed" "top" "I", Cond.methodLink RX1 38 yX1_lowestShare, Cond.static yX1_lowestShare, Cond.code yX1_lowestShare cX1_lowestShare 3 (some .int), Cond.methodLink RX1 42 yX0_settle, Cond.instanceMethod yX0_settle, Cond.selects RX0 yX0_settle yX0_settle, Cond.code yX0_settle cX0_settle 2 none, Cond.methodLink RX0 62 yX0_isTakenBehind, Cond.instanceMethod yX0_isTakenBehind, Cond.selects RX0 yX0_isTakenBehind yX0_isTakenBehind, Cond.code yX0_isTakenBehind cX0_isTakenBehind 3 (some .boolean), Cond.methodLink RX0 66 yX3_setPrice, Cond.methodLink RX0 70 yX3_isOpen, Cond.methodLink RX0 73 yX0_joinFirsts, Cond.instanceMethod yX0_joinFirsts, Cond.selects RX0 yX0_joinFirsts yX0_joinFirsts]
def wsX5_avoided_r6 : List Cond := [Cond.code yX0_joinFirsts cX0_joinFirsts 6 none, Cond.methodLink RX0 86 Lib.Math.abs.name, Cond.static Lib.Math.abs.name, Cond.initialized "java/lang/Math", Cond.code Lib.Math.abs.name Lib.Math.abs.code 1 (some .int), Cond.fieldLink RX0 28 "CrashDesk$Car" "firstCounts" "[I", Cond.methodLink RX0 95 yX0_isTakenAhead, Cond.instanceMethod yX0_isTakenAhead, Cond.selects RX0 yX0_isTakenAhead yX0_isTakenAhead, Cond.code yX0_isTakenAhead cX0_isTakenAhead 4 (some .boolean), Cond.methodLink RX0 99 yX0_firstFor, Cond.static yX0_firstFor, Cond.code yX0_firstFor cX0_firstFor 2 (some .int), Cond.methodLink RX0 106 yX3_priceOf, Cond.static yX5_cheaper, Cond.code yX5_cheaper cX5_cheaper 2 (some .int), Cond.methodLink RX0 77 yX3_bound, Cond.instanceMethod yX3_bound, Cond.selects RX3 yX3_bound yX3_bound, Cond.code yX3_bound cX3_bound 2 none, Cond.fieldLink RX3 18 "CrashDesk$Speed" "bottom" "I", Cond.fieldLink RX3 21 "CrashDesk$Speed" "top" "I", Cond.methodLink RX3 48 Lib.Math.min.name, Cond.static Lib.Math.min.name]
def wsX5_avoided_r7 : List Cond := [Cond.code Lib.Math.min.name Lib.Math.min.code 2 (some .int), Cond.methodLink RX1 57 yX3_isOpen, Cond.methodLink RX1 61 yX1_pushFrom, Cond.instanceMethod yX1_pushFrom, Cond.selects RX1 yX1_pushFrom yX1_pushFrom, Cond.code yX1_pushFrom cX1_pushFrom 3 none, Cond.fieldLink RX1 68 "CrashDesk$Car" "after" "LCrashDesk$Speed;", Cond.methodLink RX1 71 yX1_meet, Cond.instanceMethod yX1_meet, Cond.selects RX1 yX1_meet yX1_meet, Cond.code yX1_meet cX1_meet 13 none, Cond.methodLink RX1 75 Lib.Math.max.name, Cond.static Lib.Math.max.name, Cond.code Lib.Math.max.name Lib.Math.max.code 2 (some .int), Cond.methodLink RX1 80 Lib.Math.min.name, Cond.methodLink RX1 97 yX3_see, Cond.instanceMethod yX3_see, Cond.selects RX3 yX3_see yX3_see, Cond.code yX3_see cX3_see 2 none, Cond.methodLink RX1 100 yX0_firstCount, Cond.instanceMethod yX0_firstCount, Cond.selects RX0 yX0_firstCount yX0_firstCount, Cond.code yX0_firstCount cX0_firstCount 2 (some .int), Cond.methodLink RX1 104 yX3_priceOf]
def wsX5_avoided_r8 : List Cond := [Cond.methodLink RX1 65 yX0_seeFirsts, Cond.instanceMethod yX0_seeFirsts, Cond.selects RX0 yX0_seeFirsts yX0_seeFirsts, Cond.code yX0_seeFirsts cX0_seeFirsts 3 none, Cond.fieldLink RX0 80 "CrashDesk$Speed" "bottom" "I", Cond.fieldLink RX0 83 "CrashDesk$Speed" "top" "I", Cond.methodLink RX0 92 yX3_isSeen, Cond.instanceMethod yX3_isSeen, Cond.selects RX3 yX3_isSeen yX3_isSeen, Cond.code yX3_isSeen cX3_isSeen 2 (some .boolean), Cond.methodLink RX0 103 yX3_see, Cond.methodLink RX5 129 yX5_testWay, Cond.instanceMethod yX5_testWay, Cond.selects RX5 yX5_testWay yX5_testWay, Cond.code yX5_testWay cX5_testWay 1 none, Cond.classLink RX5 149 "java/util/NoSuchElementException", Cond.initialized "java/util/NoSuchElementException", Cond.fieldLink RX5 121 "CrashDesk$Meeting" "wayCount" "J", Cond.methodLink RX5 145 yX3_isSeen]
def wsX5_avoided : List Cond := .code yX5_avoided cX5_avoided 9 (some .int) :: ((wsX5_avoided_r1 ++ (wsX5_avoided_r2 ++ (wsX5_avoided_r3 ++ (wsX5_avoided_r4 ++ (wsX5_avoided_r5 ++ (wsX5_avoided_r6 ++ (wsX5_avoided_r7 ++ wsX5_avoided_r8))))))) ++ wsX00 ++ wsX50 ++ wsX10 ++ wsX40 ++ wsX20 ++ wsX30 ++ (vx_atS RX5 168 "java/lang/IndexOutOfBoundsException" ["java/lang/RuntimeException", "java/lang/Exception"]).filter goodWord ++ (vx_atS RX5 175 "java/lang/IllegalArgumentException" ["java/lang/RuntimeException", "java/lang/Exception"]).filter goodWord ++ (vx_atS RX5 153 "java/util/NoSuchElementException" ["java/lang/RuntimeException", "java/lang/Exception"]).filter goodWord)
def wsX5_look : List Cond := .code yX5_look cX5_look 4 (some .int) :: ([.classLink RX5 149 "java/util/NoSuchElementException", .initialized "java/util/NoSuchElementException", .fieldLink RX5 75 "CrashDesk$Skid" "car" "I", .fieldLink RX5 78 "CrashDesk$Skid" "behind" "Z", .fieldLink RX5 81 "CrashDesk$Skid" "least" "I", .fieldLink RX5 84 "CrashDesk$Skid" "greatest" "I", .fieldLink RX5 87 "CrashDesk$Skid" "counts" "Z", .methodLink RX5 90 yX5_skidOf, .instanceMethod yX5_skidOf, .selects RX5 yX5_skidOf yX5_skidOf, .initialized RX5, .code yX5_skidOf cX5_skidOf 2 (some (.object "CrashDesk$Skid")), .classLink RX5 164 "java/lang/IndexOutOfBoundsException", .initialized "java/lang/IndexOutOfBoundsException", .fieldLink RX5 21 "CrashDesk" "skidCount" "I", .fieldLink RX5 11 "CrashDesk" "skids" "[LCrashDesk$Skid;"] ++ wsX20 ++ wsX50 ++ (vx_atS RX5 153 "java/util/NoSuchElementException" ["java/lang/RuntimeException", "java/lang/Exception"]).filter goodWord ++ (vx_atS RX5 168 "java/lang/IndexOutOfBoundsException" ["java/lang/RuntimeException", "java/lang/Exception"]).filter goodWord)
def wsX5_can_r1 : List Cond := [Cond.methodLink RX5 94 yX5_speedOf, Cond.instanceMethod yX5_speedOf, Cond.selects RX5 yX5_speedOf yX5_speedOf, Cond.initialized RX5, Cond.code yX5_speedOf cX5_speedOf 3 (some (.object "CrashDesk$Speed")), Cond.methodLink RX5 106 yX5_testSpeed, Cond.static yX5_testSpeed, Cond.code yX5_testSpeed cX5_testSpeed 2 none, Cond.classLink RX5 164 "java/lang/IndexOutOfBoundsException", Cond.initialized "java/lang/IndexOutOfBoundsException", Cond.methodLink RX5 60 yX5_testCar, Cond.static yX5_testCar, Cond.code yX5_testCar cX5_testCar 1 none, Cond.methodLink RX5 47 yX5_carOf, Cond.instanceMethod yX5_carOf, Cond.selects RX5 yX5_carOf yX5_carOf, Cond.code yX5_carOf cX5_carOf 2 (some (.object "CrashDesk$Car")), Cond.fieldLink RX5 31 "CrashDesk" "meeting" "LCrashDesk$Meeting;", Cond.methodLink RX5 180 yX1_pick, Cond.instanceMethod yX1_pick, Cond.selects RX1 yX1_pick yX1_pick, Cond.initialized RX1, Cond.code yX1_pick cX1_pick 2 (some (.object "CrashDesk$Car")), Cond.fieldLink RX1 12 "CrashDesk$Meeting" "zero" "LCrashDesk$Car;"]
def wsX5_can_r2 : List Cond := [Cond.fieldLink RX1 18 "CrashDesk$Meeting" "one" "LCrashDesk$Car;", Cond.methodLink RX5 183 yX0_pick, Cond.instanceMethod yX0_pick, Cond.selects RX0 yX0_pick yX0_pick, Cond.initialized RX0, Cond.code yX0_pick cX0_pick 2 (some (.object "CrashDesk$Speed")), Cond.fieldLink RX0 18 "CrashDesk$Car" "first" "LCrashDesk$Speed;", Cond.fieldLink RX0 22 "CrashDesk$Car" "at" "LCrashDesk$Speed;", Cond.fieldLink RX0 25 "CrashDesk$Car" "after" "LCrashDesk$Speed;", Cond.methodLink RX5 118 yX5_reckon, Cond.instanceMethod yX5_reckon, Cond.selects RX5 yX5_reckon yX5_reckon, Cond.code yX5_reckon cX5_reckon 7 none, Cond.fieldLink RX5 35 "CrashDesk" "reckoned" "Z", Cond.fieldLink RX5 39 "CrashDesk" "reckonedTales" "I", Cond.fieldLink RX5 42 "CrashDesk" "reckonedWithout" "I", Cond.fieldLink RX5 157 "CrashDesk$Meeting" "zero" "LCrashDesk$Car;", Cond.fieldLink RX5 161 "CrashDesk$Meeting" "one" "LCrashDesk$Car;", Cond.fieldLink RX5 25 "CrashDesk" "taleCount" "I", Cond.fieldLink RX5 17 "CrashDesk" "tales" "[LCrashDesk$Tale;", Cond.fieldLink RX5 112 "CrashDesk$Tale" "car" "I", Cond.fieldLink RX5 113 "CrashDesk$Tale" "speed" "I", Cond.fieldLink RX5 21 "CrashDesk" "skidCount" "I", Cond.fieldLink RX5 11 "CrashDesk" "skids" "[LCrashDesk$Skid;"]
def wsX5_can_r3 : List Cond := [Cond.fieldLink RX5 87 "CrashDesk$Skid" "counts" "Z", Cond.fieldLink RX5 75 "CrashDesk$Skid" "car" "I", Cond.methodLink RX5 188 yX0_clear, Cond.instanceMethod yX0_clear, Cond.selects RX0 yX0_clear yX0_clear, Cond.code yX0_clear cX0_clear 1 none, Cond.fieldLink RX0 32 "CrashDesk$Car" "aheadLeast" "I", Cond.fieldLink RX0 35 "CrashDesk$Car" "aheadGreatest" "I", Cond.fieldLink RX0 38 "CrashDesk$Car" "behindLeast" "I", Cond.fieldLink RX0 41 "CrashDesk$Car" "behindGreatest" "I", Cond.fieldLink RX0 44 "CrashDesk$Car" "skidsBehind" "Z", Cond.methodLink RX0 48 yX3_clear, Cond.instanceMethod yX3_clear, Cond.selects RX3 yX3_clear yX3_clear, Cond.initialized RX3, Cond.code yX3_clear cX3_clear 2 none, Cond.fieldLink RX3 9 "CrashDesk$Speed" "low" "I", Cond.fieldLink RX3 15 "CrashDesk$Speed" "high" "I", Cond.fieldLink RX3 28 "CrashDesk$Speed" "seen" "[Z", Cond.methodLink RX3 32 yX3_setPrice, Cond.instanceMethod yX3_setPrice, Cond.selects RX3 yX3_setPrice yX3_setPrice, Cond.code yX3_setPrice cX3_setPrice 3 none, Cond.fieldLink RX3 24 "CrashDesk$Speed" "prices" "[I"]
def wsX5_can_r4 : List Cond := [Cond.methodLink RX5 191 yX3_hear, Cond.instanceMethod yX3_hear, Cond.selects RX3 yX3_hear yX3_hear, Cond.code yX3_hear cX3_hear 5 none, Cond.fieldLink RX3 36 "CrashDesk$Tale" "low" "I", Cond.fieldLink RX3 39 "CrashDesk$Tale" "high" "I", Cond.methodLink RX3 40 yX3_isOpen, Cond.instanceMethod yX3_isOpen, Cond.selects RX3 yX3_isOpen yX3_isOpen, Cond.code yX3_isOpen cX3_isOpen 2 (some .boolean), Cond.methodLink RX3 44 yX3_priceOf, Cond.instanceMethod yX3_priceOf, Cond.selects RX3 yX3_priceOf yX3_priceOf, Cond.code yX3_priceOf cX3_priceOf 2 (some .int), Cond.methodLink RX5 195 yX0_add, Cond.instanceMethod yX0_add, Cond.selects RX0 yX0_add yX0_add, Cond.code yX0_add cX0_add 2 none, Cond.fieldLink RX0 51 "CrashDesk$Skid" "behind" "Z", Cond.fieldLink RX0 56 "CrashDesk$Skid" "least" "I", Cond.fieldLink RX0 59 "CrashDesk$Skid" "greatest" "I", Cond.methodLink RX5 199 yX1_reckon, Cond.instanceMethod yX1_reckon, Cond.selects RX1 yX1_reckon yX1_reckon]
def wsX5_can_r5 : List Cond := [Cond.code yX1_reckon cX1_reckon 2 none, Cond.fieldLink RX1 21 "CrashDesk$Meeting" "wayCount" "J", Cond.fieldLink RX1 25 "CrashDesk$Meeting" "cheapest" "I", Cond.fieldLink RX1 35 "CrashDesk$Car" "mass" "I", Cond.fieldLink RX1 29 "CrashDesk$Meeting" "loss" "I", Cond.fieldLink RX1 32 "CrashDesk$Meeting" "gain" "I", Cond.fieldLink RX1 45 "CrashDesk$Car" "at" "LCrashDesk$Speed;", Cond.fieldLink RX1 49 "CrashDesk$Speed" "bottom" "I", Cond.fieldLink RX1 54 "CrashDesk$Speed" "top" "I", Cond.methodLink RX1 38 yX1_lowestShare, Cond.static yX1_lowestShare, Cond.code yX1_lowestShare cX1_lowestShare 3 (some .int), Cond.methodLink RX1 42 yX0_settle, Cond.instanceMethod yX0_settle, Cond.selects RX0 yX0_settle yX0_settle, Cond.code yX0_settle cX0_settle 2 none, Cond.methodLink RX0 62 yX0_isTakenBehind, Cond.instanceMethod yX0_isTakenBehind, Cond.selects RX0 yX0_isTakenBehind yX0_isTakenBehind, Cond.code yX0_isTakenBehind cX0_isTakenBehind 3 (some .boolean), Cond.methodLink RX0 66 yX3_setPrice, Cond.methodLink RX0 70 yX3_isOpen, Cond.methodLink RX0 73 yX0_joinFirsts, Cond.instanceMethod yX0_joinFirsts]
def wsX5_can_r6 : List Cond := [Cond.selects RX0 yX0_joinFirsts yX0_joinFirsts, Cond.code yX0_joinFirsts cX0_joinFirsts 6 none, Cond.methodLink RX0 86 Lib.Math.abs.name, Cond.static Lib.Math.abs.name, Cond.initialized "java/lang/Math", Cond.code Lib.Math.abs.name Lib.Math.abs.code 1 (some .int), Cond.fieldLink RX0 28 "CrashDesk$Car" "firstCounts" "[I", Cond.methodLink RX0 95 yX0_isTakenAhead, Cond.instanceMethod yX0_isTakenAhead, Cond.selects RX0 yX0_isTakenAhead yX0_isTakenAhead, Cond.code yX0_isTakenAhead cX0_isTakenAhead 4 (some .boolean), Cond.methodLink RX0 99 yX0_firstFor, Cond.static yX0_firstFor, Cond.code yX0_firstFor cX0_firstFor 2 (some .int), Cond.methodLink RX0 106 yX3_priceOf, Cond.static yX5_cheaper, Cond.code yX5_cheaper cX5_cheaper 2 (some .int), Cond.methodLink RX0 77 yX3_bound, Cond.instanceMethod yX3_bound, Cond.selects RX3 yX3_bound yX3_bound, Cond.code yX3_bound cX3_bound 2 none, Cond.fieldLink RX3 18 "CrashDesk$Speed" "bottom" "I", Cond.fieldLink RX3 21 "CrashDesk$Speed" "top" "I", Cond.methodLink RX3 48 Lib.Math.min.name]
def wsX5_can_r7 : List Cond := [Cond.static Lib.Math.min.name, Cond.code Lib.Math.min.name Lib.Math.min.code 2 (some .int), Cond.methodLink RX1 57 yX3_isOpen, Cond.methodLink RX1 61 yX1_pushFrom, Cond.instanceMethod yX1_pushFrom, Cond.selects RX1 yX1_pushFrom yX1_pushFrom, Cond.code yX1_pushFrom cX1_pushFrom 3 none, Cond.fieldLink RX1 68 "CrashDesk$Car" "after" "LCrashDesk$Speed;", Cond.methodLink RX1 71 yX1_meet, Cond.instanceMethod yX1_meet, Cond.selects RX1 yX1_meet yX1_meet, Cond.code yX1_meet cX1_meet 13 none, Cond.methodLink RX1 75 Lib.Math.max.name, Cond.static Lib.Math.max.name, Cond.code Lib.Math.max.name Lib.Math.max.code 2 (some .int), Cond.methodLink RX1 80 Lib.Math.min.name, Cond.methodLink RX1 97 yX3_see, Cond.instanceMethod yX3_see, Cond.selects RX3 yX3_see yX3_see, Cond.code yX3_see cX3_see 2 none, Cond.methodLink RX1 100 yX0_firstCount, Cond.instanceMethod yX0_firstCount, Cond.selects RX0 yX0_firstCount yX0_firstCount, Cond.code yX0_firstCount cX0_firstCount 2 (some .int)]
def wsX5_can_r8 : List Cond := [Cond.methodLink RX1 104 yX3_priceOf, Cond.methodLink RX1 65 yX0_seeFirsts, Cond.instanceMethod yX0_seeFirsts, Cond.selects RX0 yX0_seeFirsts yX0_seeFirsts, Cond.code yX0_seeFirsts cX0_seeFirsts 3 none, Cond.fieldLink RX0 80 "CrashDesk$Speed" "bottom" "I", Cond.fieldLink RX0 83 "CrashDesk$Speed" "top" "I", Cond.methodLink RX0 92 yX3_isSeen, Cond.instanceMethod yX3_isSeen, Cond.selects RX3 yX3_isSeen yX3_isSeen, Cond.code yX3_isSeen cX3_isSeen 2 (some .boolean), Cond.methodLink RX0 103 yX3_see, Cond.methodLink RX5 145 yX3_isSeen]
def wsX5_can : List Cond := .code yX5_can cX5_can 5 (some .boolean) :: ((wsX5_can_r1 ++ (wsX5_can_r2 ++ (wsX5_can_r3 ++ (wsX5_can_r4 ++ (wsX5_can_r5 ++ (wsX5_can_r6 ++ (wsX5_can_r7 ++ wsX5_can_r8))))))) ++ wsX50 ++ wsX10 ++ wsX00 ++ wsX40 ++ wsX20 ++ wsX30 ++ (vx_atS RX5 168 "java/lang/IndexOutOfBoundsException" ["java/lang/RuntimeException", "java/lang/Exception"]).filter goodWord)
def wsX5_countingSkids : List Cond := .code yX5_countingSkids cX5_countingSkids 3 (some .int) :: ([.fieldLink RX5 21 "CrashDesk" "skidCount" "I", .fieldLink RX5 11 "CrashDesk" "skids" "[LCrashDesk$Skid;", .fieldLink RX5 87 "CrashDesk$Skid" "counts" "Z"] ++ wsX50 ++ wsX20)
def wsX5_count : List Cond := .code yX5_count cX5_count 2 (some .int) :: ([.fieldLink RX5 21 "CrashDesk" "skidCount" "I", .fieldLink RX5 25 "CrashDesk" "taleCount" "I", .fieldLink RX5 31 "CrashDesk" "meeting" "LCrashDesk$Meeting;", .fieldLink RX5 157 "CrashDesk$Meeting" "zero" "LCrashDesk$Car;", .fieldLink RX5 55 "CrashDesk$Car" "mass" "I", .fieldLink RX5 161 "CrashDesk$Meeting" "one" "LCrashDesk$Car;", .methodLink RX5 154 yX5_countingSkids, .instanceMethod yX5_countingSkids, .selects RX5 yX5_countingSkids yX5_countingSkids, .initialized RX5, .code yX5_countingSkids cX5_countingSkids 3 (some .int), .fieldLink RX5 11 "CrashDesk" "skids" "[LCrashDesk$Skid;", .fieldLink RX5 87 "CrashDesk$Skid" "counts" "Z"] ++ wsX50 ++ wsX10 ++ wsX00 ++ wsX20)
def wsX6_init : List Cond := .code yX6_init cX6_init 1 none :: ([.methodLink RX6 1 objectInit, .instanceMethod objectInit, .code objectInit ⟨#[0xb1]⟩ 1 none, .arrayClass .int, .fieldLink RX6 7 "CrashDeskModel" "mass" "[I", .fieldLink RX6 13 "CrashDeskModel" "sCar" "[I", .arrayClass .boolean, .fieldLink RX6 16 "CrashDeskModel" "sBehind" "[Z", .fieldLink RX6 20 "CrashDeskModel" "sLeast" "[I", .fieldLink RX6 23 "CrashDeskModel" "sMost" "[I", .fieldLink RX6 26 "CrashDeskModel" "isDropped" "[Z", .fieldLink RX6 29 "CrashDeskModel" "low" "[I", .fieldLink RX6 32 "CrashDeskModel" "high" "[I", .fieldLink RX6 35 "CrashDeskModel" "tRow" "[I", .fieldLink RX6 38 "CrashDeskModel" "tLow" "[I", .fieldLink RX6 41 "CrashDeskModel" "tHigh" "[I", .fieldLink RX6 44 "CrashDeskModel" "isLet" "[Z", .fieldLink RX6 47 "CrashDeskModel" "isThere" "[Z", .fieldLink RX6 50 "CrashDeskModel" "firsts" "[I", .fieldLink RX6 53 "CrashDeskModel" "isMask" "[Z", .constant RX6 56 (206848), .fieldLink RX6 57 "CrashDeskModel" "isMade" "[Z", .fieldLink RX6 60 "CrashDeskModel" "made" "[I", .fieldLink RX6 63 "CrashDeskModel" "mades" "[I"] ++ wsX60)
def wsX6_thrown : List Cond := .code yX6_thrown cX6_thrown 1 (some .int) :: ([.fieldLink RX6 66 "CrashDeskModel" "thrown" "I"] ++ wsX60)
def wsX6_throwsIf : List Cond := .code yX6_throwsIf cX6_throwsIf 3 (some .boolean) :: ([.fieldLink RX6 66 "CrashDeskModel" "thrown" "I"] ++ wsX60)
def wsX6_in : List Cond := .code yX6_in cX6_in 3 (some .boolean) :: ([])
def wsX6_noCar : List Cond := .code yX6_noCar cX6_noCar 1 (some .boolean) :: ([.methodLink RX6 70 yX6_in, .static yX6_in, .initialized RX6, .code yX6_in cX6_in 3 (some .boolean)])
def wsX6_noSpeed : List Cond := .code yX6_noSpeed cX6_noSpeed 2 (some .boolean) :: ([.methodLink RX6 74 yX6_noCar, .static yX6_noCar, .initialized RX6, .code yX6_noCar cX6_noCar 1 (some .boolean), .methodLink RX6 70 yX6_in, .static yX6_in, .code yX6_in cX6_in 3 (some .boolean)])
def wsX6_noSpan : List Cond := .code yX6_noSpan cX6_noSpan 2 (some .boolean) :: ([])
def wsX6_mass : List Cond := .code yX6_mass cX6_mass 3 none :: ([.fieldLink RX6 66 "CrashDeskModel" "thrown" "I", .fieldLink RX6 7 "CrashDeskModel" "mass" "[I", .methodLink RX6 74 yX6_noCar, .static yX6_noCar, .initialized RX6, .code yX6_noCar cX6_noCar 1 (some .boolean), .methodLink RX6 70 yX6_in, .static yX6_in, .code yX6_in cX6_in 3 (some .boolean), .methodLink RX6 78 yX6_throwsIf, .instanceMethod yX6_throwsIf, .selects RX6 yX6_throwsIf yX6_throwsIf, .code yX6_throwsIf cX6_throwsIf 3 (some .boolean)] ++ wsX60)
def wsX6_skid : List Cond := .code yX6_skid cX6_skid 7 (some .int) :: ([.fieldLink RX6 66 "CrashDeskModel" "thrown" "I", .fieldLink RX6 82 "CrashDeskModel" "skids" "I", .fieldLink RX6 13 "CrashDeskModel" "sCar" "[I", .fieldLink RX6 16 "CrashDeskModel" "sBehind" "[Z", .fieldLink RX6 20 "CrashDeskModel" "sLeast" "[I", .fieldLink RX6 23 "CrashDeskModel" "sMost" "[I", .methodLink RX6 74 yX6_noCar, .static yX6_noCar, .initialized RX6, .code yX6_noCar cX6_noCar 1 (some .boolean), .methodLink RX6 70 yX6_in, .static yX6_in, .code yX6_in cX6_in 3 (some .boolean), .methodLink RX6 78 yX6_throwsIf, .instanceMethod yX6_throwsIf, .selects RX6 yX6_throwsIf yX6_throwsIf, .code yX6_throwsIf cX6_throwsIf 3 (some .boolean)] ++ wsX60)
def wsX6_drop : List Cond := .code yX6_drop cX6_drop 4 (some .boolean) :: ([.fieldLink RX6 66 "CrashDeskModel" "thrown" "I", .fieldLink RX6 82 "CrashDeskModel" "skids" "I", .fieldLink RX6 26 "CrashDeskModel" "isDropped" "[Z", .methodLink RX6 70 yX6_in, .static yX6_in, .initialized RX6, .code yX6_in cX6_in 3 (some .boolean), .methodLink RX6 78 yX6_throwsIf, .instanceMethod yX6_throwsIf, .selects RX6 yX6_throwsIf yX6_throwsIf, .code yX6_throwsIf cX6_throwsIf 3 (some .boolean)] ++ wsX60)
def wsX6_sure : List Cond := .code yX6_sure cX6_sure 5 none :: ([.fieldLink RX6 66 "CrashDeskModel" "thrown" "I", .fieldLink RX6 29 "CrashDeskModel" "low" "[I", .fieldLink RX6 32 "CrashDeskModel" "high" "[I", .methodLink RX6 85 yX6_noSpeed, .static yX6_noSpeed, .initialized RX6, .code yX6_noSpeed cX6_noSpeed 2 (some .boolean), .methodLink RX6 74 yX6_noCar, .static yX6_noCar, .code yX6_noCar cX6_noCar 1 (some .boolean), .methodLink RX6 70 yX6_in, .static yX6_in, .code yX6_in cX6_in 3 (some .boolean), .methodLink RX6 78 yX6_throwsIf, .instanceMethod yX6_throwsIf, .selects RX6 yX6_throwsIf yX6_throwsIf, .code yX6_throwsIf cX6_throwsIf 3 (some .boolean), .methodLink RX6 89 yX6_noSpan, .static yX6_noSpan, .code yX6_noSpan cX6_noSpan 2 (some .boolean)] ++ wsX60)
def wsX6_tale : List Cond := .code yX6_tale cX6_tale 5 (some .int) :: ([.fieldLink RX6 66 "CrashDeskModel" "thrown" "I", .fieldLink RX6 92 "CrashDeskModel" "tales" "I", .fieldLink RX6 35 "CrashDeskModel" "tRow" "[I", .fieldLink RX6 38 "CrashDeskModel" "tLow" "[I", .fieldLink RX6 41 "CrashDeskModel" "tHigh" "[I", .methodLink RX6 85 yX6_noSpeed, .static yX6_noSpeed, .initialized RX6, .code yX6_noSpeed cX6_noSpeed 2 (some .boolean), .methodLink RX6 74 yX6_noCar, .static yX6_noCar, .code yX6_noCar cX6_noCar 1 (some .boolean), .methodLink RX6 70 yX6_in, .static yX6_in, .code yX6_in cX6_in 3 (some .boolean), .methodLink RX6 78 yX6_throwsIf, .instanceMethod yX6_throwsIf, .selects RX6 yX6_throwsIf yX6_throwsIf, .code yX6_throwsIf cX6_throwsIf 3 (some .boolean), .methodLink RX6 89 yX6_noSpan, .static yX6_noSpan, .code yX6_noSpan cX6_noSpan 2 (some .boolean)] ++ wsX60)
def wsX6_hush : List Cond := .code yX6_hush cX6_hush 2 (some .int) :: ([.fieldLink RX6 66 "CrashDeskModel" "thrown" "I", .fieldLink RX6 92 "CrashDeskModel" "tales" "I"] ++ wsX60)
def wsX6_cell : List Cond := .code yX6_cell cX6_cell 2 (some .int) :: ([])
def wsX6_falses : List Cond := .code yX6_falses cX6_falses 5 (some .int) :: ([.fieldLink RX6 92 "CrashDeskModel" "tales" "I", .fieldLink RX6 35 "CrashDeskModel" "tRow" "[I", .fieldLink RX6 38 "CrashDeskModel" "tLow" "[I", .fieldLink RX6 41 "CrashDeskModel" "tHigh" "[I", .methodLink RX6 70 yX6_in, .static yX6_in, .initialized RX6, .code yX6_in cX6_in 3 (some .boolean)] ++ wsX60)
def wsX6_lets : List Cond := .code yX6_lets cX6_lets 4 none :: ([.fieldLink RX6 44 "CrashDeskModel" "isLet" "[Z", .fieldLink RX6 29 "CrashDeskModel" "low" "[I", .fieldLink RX6 32 "CrashDeskModel" "high" "[I", .fieldLink RX6 47 "CrashDeskModel" "isThere" "[Z", .methodLink RX6 95 yX6_cell, .static yX6_cell, .initialized RX6, .code yX6_cell cX6_cell 2 (some .int), .methodLink RX6 70 yX6_in, .static yX6_in, .code yX6_in cX6_in 3 (some .boolean), .methodLink RX6 99 yX6_falses, .instanceMethod yX6_falses, .selects RX6 yX6_falses yX6_falses, .code yX6_falses cX6_falses 5 (some .int), .fieldLink RX6 92 "CrashDeskModel" "tales" "I", .fieldLink RX6 35 "CrashDeskModel" "tRow" "[I", .fieldLink RX6 38 "CrashDeskModel" "tLow" "[I", .fieldLink RX6 41 "CrashDeskModel" "tHigh" "[I"] ++ wsX60)
def wsX6_takes : List Cond := .code yX6_takes cX6_takes 9 (some .boolean) :: ([.fieldLink RX6 82 "CrashDeskModel" "skids" "I", .fieldLink RX6 13 "CrashDeskModel" "sCar" "[I", .fieldLink RX6 16 "CrashDeskModel" "sBehind" "[Z", .fieldLink RX6 26 "CrashDeskModel" "isDropped" "[Z", .fieldLink RX6 20 "CrashDeskModel" "sLeast" "[I", .fieldLink RX6 23 "CrashDeskModel" "sMost" "[I", .methodLink RX6 70 yX6_in, .static yX6_in, .initialized RX6, .code yX6_in cX6_in 3 (some .boolean)] ++ wsX60)
def wsX6_isFirst : List Cond := .code yX6_isFirst cX6_isFirst 6 (some .boolean) :: ([.fieldLink RX6 44 "CrashDeskModel" "isLet" "[Z", .methodLink RX6 95 yX6_cell, .static yX6_cell, .initialized RX6, .code yX6_cell cX6_cell 2 (some .int), .methodLink RX6 102 yX6_takes, .instanceMethod yX6_takes, .selects RX6 yX6_takes yX6_takes, .code yX6_takes cX6_takes 9 (some .boolean), .fieldLink RX6 82 "CrashDeskModel" "skids" "I", .fieldLink RX6 13 "CrashDeskModel" "sCar" "[I", .fieldLink RX6 16 "CrashDeskModel" "sBehind" "[Z", .fieldLink RX6 26 "CrashDeskModel" "isDropped" "[Z", .fieldLink RX6 20 "CrashDeskModel" "sLeast" "[I", .fieldLink RX6 23 "CrashDeskModel" "sMost" "[I", .methodLink RX6 70 yX6_in, .static yX6_in, .code yX6_in cX6_in 3 (some .boolean)] ++ wsX60)
def wsX6_counts : List Cond := .code yX6_counts cX6_counts 6 none :: ([.fieldLink RX6 44 "CrashDeskModel" "isLet" "[Z", .fieldLink RX6 50 "CrashDeskModel" "firsts" "[I", .methodLink RX6 95 yX6_cell, .static yX6_cell, .initialized RX6, .code yX6_cell cX6_cell 2 (some .int), .methodLink RX6 106 yX6_isFirst, .instanceMethod yX6_isFirst, .selects RX6 yX6_isFirst yX6_isFirst, .code yX6_isFirst cX6_isFirst 6 (some .boolean), .methodLink RX6 102 yX6_takes, .instanceMethod yX6_takes, .selects RX6 yX6_takes yX6_takes, .code yX6_takes cX6_takes 9 (some .boolean), .fieldLink RX6 82 "CrashDeskModel" "skids" "I", .fieldLink RX6 13 "CrashDeskModel" "sCar" "[I", .fieldLink RX6 16 "CrashDeskModel" "sBehind" "[Z", .fieldLink RX6 26 "CrashDeskModel" "isDropped" "[Z", .fieldLink RX6 20 "CrashDeskModel" "sLeast" "[I", .fieldLink RX6 23 "CrashDeskModel" "sMost" "[I", .methodLink RX6 70 yX6_in, .static yX6_in, .code yX6_in cX6_in 3 (some .boolean)] ++ wsX60)
def wsX6_masks : List Cond := .code yX6_masks cX6_masks 8 none :: ([.fieldLink RX6 63 "CrashDeskModel" "mades" "[I", .fieldLink RX6 53 "CrashDeskModel" "isMask" "[Z", .fieldLink RX6 60 "CrashDeskModel" "made" "[I"] ++ wsX60)
def wsX6_goes_r1 : List Cond := [Cond.fieldLink RX6 117 "CrashDeskModel" "many" "J", Cond.fieldLink RX6 50 "CrashDeskModel" "firsts" "[I", Cond.fieldLink RX6 7 "CrashDeskModel" "mass" "[I", Cond.fieldLink RX6 44 "CrashDeskModel" "isLet" "[Z", Cond.fieldLink RX6 47 "CrashDeskModel" "isThere" "[Z", Cond.fieldLink RX6 121 "CrashDeskModel" "wanted" "Z", Cond.methodLink RX6 110 yX6_lets, Cond.instanceMethod yX6_lets, Cond.selects RX6 yX6_lets yX6_lets, Cond.initialized RX6, Cond.code yX6_lets cX6_lets 4 none, Cond.fieldLink RX6 29 "CrashDeskModel" "low" "[I", Cond.fieldLink RX6 32 "CrashDeskModel" "high" "[I", Cond.methodLink RX6 95 yX6_cell, Cond.static yX6_cell, Cond.code yX6_cell cX6_cell 2 (some .int), Cond.methodLink RX6 70 yX6_in, Cond.static yX6_in, Cond.code yX6_in cX6_in 3 (some .boolean), Cond.methodLink RX6 99 yX6_falses, Cond.instanceMethod yX6_falses, Cond.selects RX6 yX6_falses yX6_falses, Cond.code yX6_falses cX6_falses 5 (some .int), Cond.fieldLink RX6 92 "CrashDeskModel" "tales" "I"]
def wsX6_goes_r2 : List Cond := [Cond.fieldLink RX6 35 "CrashDeskModel" "tRow" "[I", Cond.fieldLink RX6 38 "CrashDeskModel" "tLow" "[I", Cond.fieldLink RX6 41 "CrashDeskModel" "tHigh" "[I", Cond.methodLink RX6 114 yX6_counts, Cond.instanceMethod yX6_counts, Cond.selects RX6 yX6_counts yX6_counts, Cond.code yX6_counts cX6_counts 6 none, Cond.methodLink RX6 106 yX6_isFirst, Cond.instanceMethod yX6_isFirst, Cond.selects RX6 yX6_isFirst yX6_isFirst, Cond.code yX6_isFirst cX6_isFirst 6 (some .boolean), Cond.methodLink RX6 102 yX6_takes, Cond.instanceMethod yX6_takes, Cond.selects RX6 yX6_takes yX6_takes, Cond.code yX6_takes cX6_takes 9 (some .boolean), Cond.fieldLink RX6 82 "CrashDeskModel" "skids" "I", Cond.fieldLink RX6 13 "CrashDeskModel" "sCar" "[I", Cond.fieldLink RX6 16 "CrashDeskModel" "sBehind" "[Z", Cond.fieldLink RX6 26 "CrashDeskModel" "isDropped" "[Z", Cond.fieldLink RX6 20 "CrashDeskModel" "sLeast" "[I", Cond.fieldLink RX6 23 "CrashDeskModel" "sMost" "[I", Cond.methodLink RX6 125 yX6_masks, Cond.instanceMethod yX6_masks, Cond.selects RX6 yX6_masks yX6_masks]
def wsX6_goes_r3 : List Cond := [Cond.code yX6_masks cX6_masks 8 none, Cond.fieldLink RX6 63 "CrashDeskModel" "mades" "[I", Cond.fieldLink RX6 53 "CrashDeskModel" "isMask" "[Z", Cond.fieldLink RX6 60 "CrashDeskModel" "made" "[I"]
def wsX6_goes : List Cond := .code yX6_goes cX6_goes 10 (some .boolean) :: ((wsX6_goes_r1 ++ (wsX6_goes_r2 ++ wsX6_goes_r3)) ++ wsX60)
def wsX6_makes_r1 : List Cond := [Cond.fieldLink RX6 63 "CrashDeskModel" "mades" "[I", Cond.fieldLink RX6 92 "CrashDeskModel" "tales" "I", Cond.fieldLink RX6 57 "CrashDeskModel" "isMade" "[Z", Cond.fieldLink RX6 44 "CrashDeskModel" "isLet" "[Z", Cond.fieldLink RX6 60 "CrashDeskModel" "made" "[I", Cond.methodLink RX6 110 yX6_lets, Cond.instanceMethod yX6_lets, Cond.selects RX6 yX6_lets yX6_lets, Cond.initialized RX6, Cond.code yX6_lets cX6_lets 4 none, Cond.fieldLink RX6 29 "CrashDeskModel" "low" "[I", Cond.fieldLink RX6 32 "CrashDeskModel" "high" "[I", Cond.fieldLink RX6 47 "CrashDeskModel" "isThere" "[Z", Cond.methodLink RX6 95 yX6_cell, Cond.static yX6_cell, Cond.code yX6_cell cX6_cell 2 (some .int), Cond.methodLink RX6 70 yX6_in, Cond.static yX6_in, Cond.code yX6_in cX6_in 3 (some .boolean), Cond.methodLink RX6 99 yX6_falses, Cond.instanceMethod yX6_falses, Cond.selects RX6 yX6_falses yX6_falses, Cond.code yX6_falses cX6_falses 5 (some .int), Cond.fieldLink RX6 35 "CrashDeskModel" "tRow" "[I"]
def wsX6_makes_r2 : List Cond := [Cond.fieldLink RX6 38 "CrashDeskModel" "tLow" "[I", Cond.fieldLink RX6 41 "CrashDeskModel" "tHigh" "[I", Cond.methodLink RX6 106 yX6_isFirst, Cond.instanceMethod yX6_isFirst, Cond.selects RX6 yX6_isFirst yX6_isFirst, Cond.code yX6_isFirst cX6_isFirst 6 (some .boolean), Cond.methodLink RX6 102 yX6_takes, Cond.instanceMethod yX6_takes, Cond.selects RX6 yX6_takes yX6_takes, Cond.code yX6_takes cX6_takes 9 (some .boolean), Cond.fieldLink RX6 82 "CrashDeskModel" "skids" "I", Cond.fieldLink RX6 13 "CrashDeskModel" "sCar" "[I", Cond.fieldLink RX6 16 "CrashDeskModel" "sBehind" "[Z", Cond.fieldLink RX6 26 "CrashDeskModel" "isDropped" "[Z", Cond.fieldLink RX6 20 "CrashDeskModel" "sLeast" "[I", Cond.fieldLink RX6 23 "CrashDeskModel" "sMost" "[I"]
def wsX6_makes : List Cond := .code yX6_makes cX6_makes 6 none :: ((wsX6_makes_r1 ++ wsX6_makes_r2) ++ wsX60)
def wsJ6_bitCount_0f7a4 : List Cond := .code yJ6_bitCount_0f7a4 cJ6_bitCount_0f7a4 1 (some .int) :: ([.constant RJ6 265 (1431655765), .constant RJ6 266 (858993459), .constant RJ6 267 (252645135)])
def wsX6_fewest_r1 : List Cond := [Cond.fieldLink RX6 53 "CrashDeskModel" "isMask" "[Z", Cond.fieldLink RX6 121 "CrashDeskModel" "wanted" "Z", Cond.fieldLink RX6 92 "CrashDeskModel" "tales" "I", Cond.methodLink RX6 129 yX6_makes, Cond.instanceMethod yX6_makes, Cond.selects RX6 yX6_makes yX6_makes, Cond.initialized RX6, Cond.code yX6_makes cX6_makes 6 none, Cond.fieldLink RX6 63 "CrashDeskModel" "mades" "[I", Cond.fieldLink RX6 57 "CrashDeskModel" "isMade" "[Z", Cond.fieldLink RX6 44 "CrashDeskModel" "isLet" "[Z", Cond.fieldLink RX6 60 "CrashDeskModel" "made" "[I", Cond.methodLink RX6 110 yX6_lets, Cond.instanceMethod yX6_lets, Cond.selects RX6 yX6_lets yX6_lets, Cond.code yX6_lets cX6_lets 4 none, Cond.fieldLink RX6 29 "CrashDeskModel" "low" "[I", Cond.fieldLink RX6 32 "CrashDeskModel" "high" "[I", Cond.fieldLink RX6 47 "CrashDeskModel" "isThere" "[Z", Cond.methodLink RX6 95 yX6_cell, Cond.static yX6_cell, Cond.code yX6_cell cX6_cell 2 (some .int), Cond.methodLink RX6 70 yX6_in, Cond.static yX6_in]
def wsX6_fewest_r2 : List Cond := [Cond.code yX6_in cX6_in 3 (some .boolean), Cond.methodLink RX6 99 yX6_falses, Cond.instanceMethod yX6_falses, Cond.selects RX6 yX6_falses yX6_falses, Cond.code yX6_falses cX6_falses 5 (some .int), Cond.fieldLink RX6 35 "CrashDeskModel" "tRow" "[I", Cond.fieldLink RX6 38 "CrashDeskModel" "tLow" "[I", Cond.fieldLink RX6 41 "CrashDeskModel" "tHigh" "[I", Cond.methodLink RX6 106 yX6_isFirst, Cond.instanceMethod yX6_isFirst, Cond.selects RX6 yX6_isFirst yX6_isFirst, Cond.code yX6_isFirst cX6_isFirst 6 (some .boolean), Cond.methodLink RX6 102 yX6_takes, Cond.instanceMethod yX6_takes, Cond.selects RX6 yX6_takes yX6_takes, Cond.code yX6_takes cX6_takes 9 (some .boolean), Cond.fieldLink RX6 82 "CrashDeskModel" "skids" "I", Cond.fieldLink RX6 13 "CrashDeskModel" "sCar" "[I", Cond.fieldLink RX6 16 "CrashDeskModel" "sBehind" "[Z", Cond.fieldLink RX6 26 "CrashDeskModel" "isDropped" "[Z", Cond.fieldLink RX6 20 "CrashDeskModel" "sLeast" "[I", Cond.fieldLink RX6 23 "CrashDeskModel" "sMost" "[I", Cond.methodLink RX6 132 yX6_goes, Cond.instanceMethod yX6_goes]
def wsX6_fewest_r3 : List Cond := [Cond.selects RX6 yX6_goes yX6_goes, Cond.code yX6_goes cX6_goes 10 (some .boolean), Cond.fieldLink RX6 117 "CrashDeskModel" "many" "J", Cond.fieldLink RX6 50 "CrashDeskModel" "firsts" "[I", Cond.fieldLink RX6 7 "CrashDeskModel" "mass" "[I", Cond.methodLink RX6 114 yX6_counts, Cond.instanceMethod yX6_counts, Cond.selects RX6 yX6_counts yX6_counts, Cond.code yX6_counts cX6_counts 6 none, Cond.methodLink RX6 125 yX6_masks, Cond.instanceMethod yX6_masks, Cond.selects RX6 yX6_masks yX6_masks, Cond.code yX6_masks cX6_masks 8 none, Cond.methodLink RX6 135 yJ6_bitCount_0f7a4, Cond.static yJ6_bitCount_0f7a4, Cond.initialized RJ6, Cond.code yJ6_bitCount_0f7a4 cJ6_bitCount_0f7a4 1 (some .int), Cond.constant RJ6 265 (1431655765), Cond.constant RJ6 266 (858993459), Cond.constant RJ6 267 (252645135)]
def wsX6_fewest : List Cond := .code yX6_fewest cX6_fewest 4 (some .int) :: ((wsX6_fewest_r1 ++ (wsX6_fewest_r2 ++ wsX6_fewest_r3)) ++ wsX60)
def wsX6_all : List Cond := .code yX6_all cX6_all 1 (some .int) :: ([.fieldLink RX6 92 "CrashDeskModel" "tales" "I"] ++ wsX60)
def wsX6_ways_r1 : List Cond := [Cond.fieldLink RX6 66 "CrashDeskModel" "thrown" "I", Cond.fieldLink RX6 117 "CrashDeskModel" "many" "J", Cond.methodLink RX6 132 yX6_goes, Cond.instanceMethod yX6_goes, Cond.selects RX6 yX6_goes yX6_goes, Cond.initialized RX6, Cond.code yX6_goes cX6_goes 10 (some .boolean), Cond.fieldLink RX6 50 "CrashDeskModel" "firsts" "[I", Cond.fieldLink RX6 7 "CrashDeskModel" "mass" "[I", Cond.fieldLink RX6 44 "CrashDeskModel" "isLet" "[Z", Cond.fieldLink RX6 47 "CrashDeskModel" "isThere" "[Z", Cond.fieldLink RX6 121 "CrashDeskModel" "wanted" "Z", Cond.methodLink RX6 110 yX6_lets, Cond.instanceMethod yX6_lets, Cond.selects RX6 yX6_lets yX6_lets, Cond.code yX6_lets cX6_lets 4 none, Cond.fieldLink RX6 29 "CrashDeskModel" "low" "[I", Cond.fieldLink RX6 32 "CrashDeskModel" "high" "[I", Cond.methodLink RX6 95 yX6_cell, Cond.static yX6_cell, Cond.code yX6_cell cX6_cell 2 (some .int), Cond.methodLink RX6 70 yX6_in, Cond.static yX6_in, Cond.code yX6_in cX6_in 3 (some .boolean)]
def wsX6_ways_r2 : List Cond := [Cond.methodLink RX6 99 yX6_falses, Cond.instanceMethod yX6_falses, Cond.selects RX6 yX6_falses yX6_falses, Cond.code yX6_falses cX6_falses 5 (some .int), Cond.fieldLink RX6 92 "CrashDeskModel" "tales" "I", Cond.fieldLink RX6 35 "CrashDeskModel" "tRow" "[I", Cond.fieldLink RX6 38 "CrashDeskModel" "tLow" "[I", Cond.fieldLink RX6 41 "CrashDeskModel" "tHigh" "[I", Cond.methodLink RX6 114 yX6_counts, Cond.instanceMethod yX6_counts, Cond.selects RX6 yX6_counts yX6_counts, Cond.code yX6_counts cX6_counts 6 none, Cond.methodLink RX6 106 yX6_isFirst, Cond.instanceMethod yX6_isFirst, Cond.selects RX6 yX6_isFirst yX6_isFirst, Cond.code yX6_isFirst cX6_isFirst 6 (some .boolean), Cond.methodLink RX6 102 yX6_takes, Cond.instanceMethod yX6_takes, Cond.selects RX6 yX6_takes yX6_takes, Cond.code yX6_takes cX6_takes 9 (some .boolean), Cond.fieldLink RX6 82 "CrashDeskModel" "skids" "I", Cond.fieldLink RX6 13 "CrashDeskModel" "sCar" "[I", Cond.fieldLink RX6 16 "CrashDeskModel" "sBehind" "[Z", Cond.fieldLink RX6 26 "CrashDeskModel" "isDropped" "[Z"]
def wsX6_ways_r3 : List Cond := [Cond.fieldLink RX6 20 "CrashDeskModel" "sLeast" "[I", Cond.fieldLink RX6 23 "CrashDeskModel" "sMost" "[I", Cond.methodLink RX6 125 yX6_masks, Cond.instanceMethod yX6_masks, Cond.selects RX6 yX6_masks yX6_masks, Cond.code yX6_masks cX6_masks 8 none, Cond.fieldLink RX6 63 "CrashDeskModel" "mades" "[I", Cond.fieldLink RX6 53 "CrashDeskModel" "isMask" "[Z", Cond.fieldLink RX6 60 "CrashDeskModel" "made" "[I"]
def wsX6_ways : List Cond := .code yX6_ways cX6_ways 2 (some .long) :: ((wsX6_ways_r1 ++ (wsX6_ways_r2 ++ wsX6_ways_r3)) ++ wsX60)
def wsX6_span_r1 : List Cond := [Cond.fieldLink RX6 66 "CrashDeskModel" "thrown" "I", Cond.fieldLink RX6 47 "CrashDeskModel" "isThere" "[Z", Cond.methodLink RX6 85 yX6_noSpeed, Cond.static yX6_noSpeed, Cond.initialized RX6, Cond.code yX6_noSpeed cX6_noSpeed 2 (some .boolean), Cond.methodLink RX6 74 yX6_noCar, Cond.static yX6_noCar, Cond.code yX6_noCar cX6_noCar 1 (some .boolean), Cond.methodLink RX6 70 yX6_in, Cond.static yX6_in, Cond.code yX6_in cX6_in 3 (some .boolean), Cond.methodLink RX6 78 yX6_throwsIf, Cond.instanceMethod yX6_throwsIf, Cond.selects RX6 yX6_throwsIf yX6_throwsIf, Cond.code yX6_throwsIf cX6_throwsIf 3 (some .boolean), Cond.methodLink RX6 141 yX6_all, Cond.instanceMethod yX6_all, Cond.selects RX6 yX6_all yX6_all, Cond.code yX6_all cX6_all 1 (some .int), Cond.fieldLink RX6 92 "CrashDeskModel" "tales" "I", Cond.methodLink RX6 132 yX6_goes, Cond.instanceMethod yX6_goes, Cond.selects RX6 yX6_goes yX6_goes]
def wsX6_span_r2 : List Cond := [Cond.code yX6_goes cX6_goes 10 (some .boolean), Cond.fieldLink RX6 117 "CrashDeskModel" "many" "J", Cond.fieldLink RX6 50 "CrashDeskModel" "firsts" "[I", Cond.fieldLink RX6 7 "CrashDeskModel" "mass" "[I", Cond.fieldLink RX6 44 "CrashDeskModel" "isLet" "[Z", Cond.fieldLink RX6 121 "CrashDeskModel" "wanted" "Z", Cond.methodLink RX6 110 yX6_lets, Cond.instanceMethod yX6_lets, Cond.selects RX6 yX6_lets yX6_lets, Cond.code yX6_lets cX6_lets 4 none, Cond.fieldLink RX6 29 "CrashDeskModel" "low" "[I", Cond.fieldLink RX6 32 "CrashDeskModel" "high" "[I", Cond.methodLink RX6 95 yX6_cell, Cond.static yX6_cell, Cond.code yX6_cell cX6_cell 2 (some .int), Cond.methodLink RX6 99 yX6_falses, Cond.instanceMethod yX6_falses, Cond.selects RX6 yX6_falses yX6_falses, Cond.code yX6_falses cX6_falses 5 (some .int), Cond.fieldLink RX6 35 "CrashDeskModel" "tRow" "[I", Cond.fieldLink RX6 38 "CrashDeskModel" "tLow" "[I", Cond.fieldLink RX6 41 "CrashDeskModel" "tHigh" "[I", Cond.methodLink RX6 114 yX6_counts, Cond.instanceMethod yX6_counts]
def wsX6_span_r3 : List Cond := [Cond.selects RX6 yX6_counts yX6_counts, Cond.code yX6_counts cX6_counts 6 none, Cond.methodLink RX6 106 yX6_isFirst, Cond.instanceMethod yX6_isFirst, Cond.selects RX6 yX6_isFirst yX6_isFirst, Cond.code yX6_isFirst cX6_isFirst 6 (some .boolean), Cond.methodLink RX6 102 yX6_takes, Cond.instanceMethod yX6_takes, Cond.selects RX6 yX6_takes yX6_takes, Cond.code yX6_takes cX6_takes 9 (some .boolean), Cond.fieldLink RX6 82 "CrashDeskModel" "skids" "I", Cond.fieldLink RX6 13 "CrashDeskModel" "sCar" "[I", Cond.fieldLink RX6 16 "CrashDeskModel" "sBehind" "[Z", Cond.fieldLink RX6 26 "CrashDeskModel" "isDropped" "[Z", Cond.fieldLink RX6 20 "CrashDeskModel" "sLeast" "[I", Cond.fieldLink RX6 23 "CrashDeskModel" "sMost" "[I", Cond.methodLink RX6 125 yX6_masks, Cond.instanceMethod yX6_masks, Cond.selects RX6 yX6_masks yX6_masks, Cond.code yX6_masks cX6_masks 8 none, Cond.fieldLink RX6 63 "CrashDeskModel" "mades" "[I", Cond.fieldLink RX6 53 "CrashDeskModel" "isMask" "[Z", Cond.fieldLink RX6 60 "CrashDeskModel" "made" "[I"]
def wsX6_span : List Cond := .code yX6_span cX6_span 6 (some .int) :: ((wsX6_span_r1 ++ (wsX6_span_r2 ++ wsX6_span_r3)) ++ wsX60)
def wsX6_fit_r1 : List Cond := [Cond.fieldLink RX6 66 "CrashDeskModel" "thrown" "I", Cond.methodLink RX6 141 yX6_all, Cond.instanceMethod yX6_all, Cond.selects RX6 yX6_all yX6_all, Cond.initialized RX6, Cond.code yX6_all cX6_all 1 (some .int), Cond.fieldLink RX6 92 "CrashDeskModel" "tales" "I", Cond.methodLink RX6 132 yX6_goes, Cond.instanceMethod yX6_goes, Cond.selects RX6 yX6_goes yX6_goes, Cond.code yX6_goes cX6_goes 10 (some .boolean), Cond.fieldLink RX6 117 "CrashDeskModel" "many" "J", Cond.fieldLink RX6 50 "CrashDeskModel" "firsts" "[I", Cond.fieldLink RX6 7 "CrashDeskModel" "mass" "[I", Cond.fieldLink RX6 44 "CrashDeskModel" "isLet" "[Z", Cond.fieldLink RX6 47 "CrashDeskModel" "isThere" "[Z", Cond.fieldLink RX6 121 "CrashDeskModel" "wanted" "Z", Cond.methodLink RX6 110 yX6_lets, Cond.instanceMethod yX6_lets, Cond.selects RX6 yX6_lets yX6_lets, Cond.code yX6_lets cX6_lets 4 none, Cond.fieldLink RX6 29 "CrashDeskModel" "low" "[I", Cond.fieldLink RX6 32 "CrashDeskModel" "high" "[I", Cond.methodLink RX6 95 yX6_cell]
def wsX6_fit_r2 : List Cond := [Cond.static yX6_cell, Cond.code yX6_cell cX6_cell 2 (some .int), Cond.methodLink RX6 70 yX6_in, Cond.static yX6_in, Cond.code yX6_in cX6_in 3 (some .boolean), Cond.methodLink RX6 99 yX6_falses, Cond.instanceMethod yX6_falses, Cond.selects RX6 yX6_falses yX6_falses, Cond.code yX6_falses cX6_falses 5 (some .int), Cond.fieldLink RX6 35 "CrashDeskModel" "tRow" "[I", Cond.fieldLink RX6 38 "CrashDeskModel" "tLow" "[I", Cond.fieldLink RX6 41 "CrashDeskModel" "tHigh" "[I", Cond.methodLink RX6 114 yX6_counts, Cond.instanceMethod yX6_counts, Cond.selects RX6 yX6_counts yX6_counts, Cond.code yX6_counts cX6_counts 6 none, Cond.methodLink RX6 106 yX6_isFirst, Cond.instanceMethod yX6_isFirst, Cond.selects RX6 yX6_isFirst yX6_isFirst, Cond.code yX6_isFirst cX6_isFirst 6 (some .boolean), Cond.methodLink RX6 102 yX6_takes, Cond.instanceMethod yX6_takes, Cond.selects RX6 yX6_takes yX6_takes, Cond.code yX6_takes cX6_takes 9 (some .boolean)]
def wsX6_fit_r3 : List Cond := [Cond.fieldLink RX6 82 "CrashDeskModel" "skids" "I", Cond.fieldLink RX6 13 "CrashDeskModel" "sCar" "[I", Cond.fieldLink RX6 16 "CrashDeskModel" "sBehind" "[Z", Cond.fieldLink RX6 26 "CrashDeskModel" "isDropped" "[Z", Cond.fieldLink RX6 20 "CrashDeskModel" "sLeast" "[I", Cond.fieldLink RX6 23 "CrashDeskModel" "sMost" "[I", Cond.methodLink RX6 125 yX6_masks, Cond.instanceMethod yX6_masks, Cond.selects RX6 yX6_masks yX6_masks, Cond.code yX6_masks cX6_masks 8 none, Cond.fieldLink RX6 63 "CrashDeskModel" "mades" "[I", Cond.fieldLink RX6 53 "CrashDeskModel" "isMask" "[Z", Cond.fieldLink RX6 60 "CrashDeskModel" "made" "[I"]
def wsX6_fit : List Cond := .code yX6_fit cX6_fit 2 (some .boolean) :: ((wsX6_fit_r1 ++ (wsX6_fit_r2 ++ wsX6_fit_r3)) ++ wsX60)
def wsX6_wrong_r1 : List Cond := [Cond.fieldLink RX6 66 "CrashDeskModel" "thrown" "I", Cond.methodLink RX6 145 yX6_fewest, Cond.instanceMethod yX6_fewest, Cond.selects RX6 yX6_fewest yX6_fewest, Cond.initialized RX6, Cond.code yX6_fewest cX6_fewest 4 (some .int), Cond.fieldLink RX6 53 "CrashDeskModel" "isMask" "[Z", Cond.fieldLink RX6 121 "CrashDeskModel" "wanted" "Z", Cond.fieldLink RX6 92 "CrashDeskModel" "tales" "I", Cond.methodLink RX6 129 yX6_makes, Cond.instanceMethod yX6_makes, Cond.selects RX6 yX6_makes yX6_makes, Cond.code yX6_makes cX6_makes 6 none, Cond.fieldLink RX6 63 "CrashDeskModel" "mades" "[I", Cond.fieldLink RX6 57 "CrashDeskModel" "isMade" "[Z", Cond.fieldLink RX6 44 "CrashDeskModel" "isLet" "[Z", Cond.fieldLink RX6 60 "CrashDeskModel" "made" "[I", Cond.methodLink RX6 110 yX6_lets, Cond.instanceMethod yX6_lets, Cond.selects RX6 yX6_lets yX6_lets, Cond.code yX6_lets cX6_lets 4 none, Cond.fieldLink RX6 29 "CrashDeskModel" "low" "[I", Cond.fieldLink RX6 32 "CrashDeskModel" "high" "[I", Cond.fieldLink RX6 47 "CrashDeskModel" "isThere" "[Z"]
def wsX6_wrong_r2 : List Cond := [Cond.methodLink RX6 95 yX6_cell, Cond.static yX6_cell, Cond.code yX6_cell cX6_cell 2 (some .int), Cond.methodLink RX6 70 yX6_in, Cond.static yX6_in, Cond.code yX6_in cX6_in 3 (some .boolean), Cond.methodLink RX6 99 yX6_falses, Cond.instanceMethod yX6_falses, Cond.selects RX6 yX6_falses yX6_falses, Cond.code yX6_falses cX6_falses 5 (some .int), Cond.fieldLink RX6 35 "CrashDeskModel" "tRow" "[I", Cond.fieldLink RX6 38 "CrashDeskModel" "tLow" "[I", Cond.fieldLink RX6 41 "CrashDeskModel" "tHigh" "[I", Cond.methodLink RX6 106 yX6_isFirst, Cond.instanceMethod yX6_isFirst, Cond.selects RX6 yX6_isFirst yX6_isFirst, Cond.code yX6_isFirst cX6_isFirst 6 (some .boolean), Cond.methodLink RX6 102 yX6_takes, Cond.instanceMethod yX6_takes, Cond.selects RX6 yX6_takes yX6_takes, Cond.code yX6_takes cX6_takes 9 (some .boolean), Cond.fieldLink RX6 82 "CrashDeskModel" "skids" "I", Cond.fieldLink RX6 13 "CrashDeskModel" "sCar" "[I", Cond.fieldLink RX6 16 "CrashDeskModel" "sBehind" "[Z"]
def wsX6_wrong_r3 : List Cond := [Cond.fieldLink RX6 26 "CrashDeskModel" "isDropped" "[Z", Cond.fieldLink RX6 20 "CrashDeskModel" "sLeast" "[I", Cond.fieldLink RX6 23 "CrashDeskModel" "sMost" "[I", Cond.methodLink RX6 132 yX6_goes, Cond.instanceMethod yX6_goes, Cond.selects RX6 yX6_goes yX6_goes, Cond.code yX6_goes cX6_goes 10 (some .boolean), Cond.fieldLink RX6 117 "CrashDeskModel" "many" "J", Cond.fieldLink RX6 50 "CrashDeskModel" "firsts" "[I", Cond.fieldLink RX6 7 "CrashDeskModel" "mass" "[I", Cond.methodLink RX6 114 yX6_counts, Cond.instanceMethod yX6_counts, Cond.selects RX6 yX6_counts yX6_counts, Cond.code yX6_counts cX6_counts 6 none, Cond.methodLink RX6 125 yX6_masks, Cond.instanceMethod yX6_masks, Cond.selects RX6 yX6_masks yX6_masks, Cond.code yX6_masks cX6_masks 8 none, Cond.methodLink RX6 135 yJ6_bitCount_0f7a4, Cond.static yJ6_bitCount_0f7a4, Cond.initialized RJ6, Cond.code yJ6_bitCount_0f7a4 cJ6_bitCount_0f7a4 1 (some .int), Cond.constant RJ6 265 (1431655765), Cond.constant RJ6 266 (858993459)]
def wsX6_wrong_r4 : List Cond := [Cond.constant RJ6 267 (252645135)]
def wsX6_wrong : List Cond := .code yX6_wrong cX6_wrong 2 (some .int) :: ((wsX6_wrong_r1 ++ (wsX6_wrong_r2 ++ (wsX6_wrong_r3 ++ wsX6_wrong_r4))) ++ wsX60)
def wsX6_which_r1 : List Cond := [Cond.fieldLink RX6 66 "CrashDeskModel" "thrown" "I", Cond.methodLink RX6 145 yX6_fewest, Cond.instanceMethod yX6_fewest, Cond.selects RX6 yX6_fewest yX6_fewest, Cond.initialized RX6, Cond.code yX6_fewest cX6_fewest 4 (some .int), Cond.fieldLink RX6 53 "CrashDeskModel" "isMask" "[Z", Cond.fieldLink RX6 121 "CrashDeskModel" "wanted" "Z", Cond.fieldLink RX6 92 "CrashDeskModel" "tales" "I", Cond.methodLink RX6 129 yX6_makes, Cond.instanceMethod yX6_makes, Cond.selects RX6 yX6_makes yX6_makes, Cond.code yX6_makes cX6_makes 6 none, Cond.fieldLink RX6 63 "CrashDeskModel" "mades" "[I", Cond.fieldLink RX6 57 "CrashDeskModel" "isMade" "[Z", Cond.fieldLink RX6 44 "CrashDeskModel" "isLet" "[Z", Cond.fieldLink RX6 60 "CrashDeskModel" "made" "[I", Cond.methodLink RX6 110 yX6_lets, Cond.instanceMethod yX6_lets, Cond.selects RX6 yX6_lets yX6_lets, Cond.code yX6_lets cX6_lets 4 none, Cond.fieldLink RX6 29 "CrashDeskModel" "low" "[I", Cond.fieldLink RX6 32 "CrashDeskModel" "high" "[I", Cond.fieldLink RX6 47 "CrashDeskModel" "isThere" "[Z"]
def wsX6_which_r2 : List Cond := [Cond.methodLink RX6 95 yX6_cell, Cond.static yX6_cell, Cond.code yX6_cell cX6_cell 2 (some .int), Cond.methodLink RX6 70 yX6_in, Cond.static yX6_in, Cond.code yX6_in cX6_in 3 (some .boolean), Cond.methodLink RX6 99 yX6_falses, Cond.instanceMethod yX6_falses, Cond.selects RX6 yX6_falses yX6_falses, Cond.code yX6_falses cX6_falses 5 (some .int), Cond.fieldLink RX6 35 "CrashDeskModel" "tRow" "[I", Cond.fieldLink RX6 38 "CrashDeskModel" "tLow" "[I", Cond.fieldLink RX6 41 "CrashDeskModel" "tHigh" "[I", Cond.methodLink RX6 106 yX6_isFirst, Cond.instanceMethod yX6_isFirst, Cond.selects RX6 yX6_isFirst yX6_isFirst, Cond.code yX6_isFirst cX6_isFirst 6 (some .boolean), Cond.methodLink RX6 102 yX6_takes, Cond.instanceMethod yX6_takes, Cond.selects RX6 yX6_takes yX6_takes, Cond.code yX6_takes cX6_takes 9 (some .boolean), Cond.fieldLink RX6 82 "CrashDeskModel" "skids" "I", Cond.fieldLink RX6 13 "CrashDeskModel" "sCar" "[I", Cond.fieldLink RX6 16 "CrashDeskModel" "sBehind" "[Z"]
def wsX6_which_r3 : List Cond := [Cond.fieldLink RX6 26 "CrashDeskModel" "isDropped" "[Z", Cond.fieldLink RX6 20 "CrashDeskModel" "sLeast" "[I", Cond.fieldLink RX6 23 "CrashDeskModel" "sMost" "[I", Cond.methodLink RX6 132 yX6_goes, Cond.instanceMethod yX6_goes, Cond.selects RX6 yX6_goes yX6_goes, Cond.code yX6_goes cX6_goes 10 (some .boolean), Cond.fieldLink RX6 117 "CrashDeskModel" "many" "J", Cond.fieldLink RX6 50 "CrashDeskModel" "firsts" "[I", Cond.fieldLink RX6 7 "CrashDeskModel" "mass" "[I", Cond.methodLink RX6 114 yX6_counts, Cond.instanceMethod yX6_counts, Cond.selects RX6 yX6_counts yX6_counts, Cond.code yX6_counts cX6_counts 6 none, Cond.methodLink RX6 125 yX6_masks, Cond.instanceMethod yX6_masks, Cond.selects RX6 yX6_masks yX6_masks, Cond.code yX6_masks cX6_masks 8 none, Cond.methodLink RX6 135 yJ6_bitCount_0f7a4, Cond.static yJ6_bitCount_0f7a4, Cond.initialized RJ6, Cond.code yJ6_bitCount_0f7a4 cJ6_bitCount_0f7a4 1 (some .int), Cond.constant RJ6 265 (1431655765), Cond.constant RJ6 266 (858993459)]
def wsX6_which_r4 : List Cond := [Cond.constant RJ6 267 (252645135)]
def wsX6_which : List Cond := .code yX6_which cX6_which 1 (some .int) :: ((wsX6_which_r1 ++ (wsX6_which_r2 ++ (wsX6_which_r3 ++ wsX6_which_r4))) ++ wsX60)
def wsX6_odds_r1 : List Cond := [Cond.fieldLink RX6 66 "CrashDeskModel" "thrown" "I", Cond.fieldLink RX6 82 "CrashDeskModel" "skids" "I", Cond.fieldLink RX6 26 "CrashDeskModel" "isDropped" "[Z", Cond.methodLink RX6 132 yX6_goes, Cond.instanceMethod yX6_goes, Cond.selects RX6 yX6_goes yX6_goes, Cond.initialized RX6, Cond.code yX6_goes cX6_goes 10 (some .boolean), Cond.fieldLink RX6 117 "CrashDeskModel" "many" "J", Cond.fieldLink RX6 50 "CrashDeskModel" "firsts" "[I", Cond.fieldLink RX6 7 "CrashDeskModel" "mass" "[I", Cond.fieldLink RX6 44 "CrashDeskModel" "isLet" "[Z", Cond.fieldLink RX6 47 "CrashDeskModel" "isThere" "[Z", Cond.fieldLink RX6 121 "CrashDeskModel" "wanted" "Z", Cond.methodLink RX6 110 yX6_lets, Cond.instanceMethod yX6_lets, Cond.selects RX6 yX6_lets yX6_lets, Cond.code yX6_lets cX6_lets 4 none, Cond.fieldLink RX6 29 "CrashDeskModel" "low" "[I", Cond.fieldLink RX6 32 "CrashDeskModel" "high" "[I", Cond.methodLink RX6 95 yX6_cell, Cond.static yX6_cell, Cond.code yX6_cell cX6_cell 2 (some .int), Cond.methodLink RX6 70 yX6_in]
def wsX6_odds_r2 : List Cond := [Cond.static yX6_in, Cond.code yX6_in cX6_in 3 (some .boolean), Cond.methodLink RX6 99 yX6_falses, Cond.instanceMethod yX6_falses, Cond.selects RX6 yX6_falses yX6_falses, Cond.code yX6_falses cX6_falses 5 (some .int), Cond.fieldLink RX6 92 "CrashDeskModel" "tales" "I", Cond.fieldLink RX6 35 "CrashDeskModel" "tRow" "[I", Cond.fieldLink RX6 38 "CrashDeskModel" "tLow" "[I", Cond.fieldLink RX6 41 "CrashDeskModel" "tHigh" "[I", Cond.methodLink RX6 114 yX6_counts, Cond.instanceMethod yX6_counts, Cond.selects RX6 yX6_counts yX6_counts, Cond.code yX6_counts cX6_counts 6 none, Cond.methodLink RX6 106 yX6_isFirst, Cond.instanceMethod yX6_isFirst, Cond.selects RX6 yX6_isFirst yX6_isFirst, Cond.code yX6_isFirst cX6_isFirst 6 (some .boolean), Cond.methodLink RX6 102 yX6_takes, Cond.instanceMethod yX6_takes, Cond.selects RX6 yX6_takes yX6_takes, Cond.code yX6_takes cX6_takes 9 (some .boolean), Cond.fieldLink RX6 13 "CrashDeskModel" "sCar" "[I", Cond.fieldLink RX6 16 "CrashDeskModel" "sBehind" "[Z"]
def wsX6_odds_r3 : List Cond := [Cond.fieldLink RX6 20 "CrashDeskModel" "sLeast" "[I", Cond.fieldLink RX6 23 "CrashDeskModel" "sMost" "[I", Cond.methodLink RX6 125 yX6_masks, Cond.instanceMethod yX6_masks, Cond.selects RX6 yX6_masks yX6_masks, Cond.code yX6_masks cX6_masks 8 none, Cond.fieldLink RX6 63 "CrashDeskModel" "mades" "[I", Cond.fieldLink RX6 53 "CrashDeskModel" "isMask" "[Z", Cond.fieldLink RX6 60 "CrashDeskModel" "made" "[I"]
def wsX6_odds : List Cond := .code yX6_odds cX6_odds 3 (some .int) :: ((wsX6_odds_r1 ++ (wsX6_odds_r2 ++ wsX6_odds_r3)) ++ wsX60)
def wsX6_avoided_r1 : List Cond := [Cond.fieldLink RX6 66 "CrashDeskModel" "thrown" "I", Cond.fieldLink RX6 47 "CrashDeskModel" "isThere" "[Z", Cond.methodLink RX6 74 yX6_noCar, Cond.static yX6_noCar, Cond.initialized RX6, Cond.code yX6_noCar cX6_noCar 1 (some .boolean), Cond.methodLink RX6 70 yX6_in, Cond.static yX6_in, Cond.code yX6_in cX6_in 3 (some .boolean), Cond.methodLink RX6 78 yX6_throwsIf, Cond.instanceMethod yX6_throwsIf, Cond.selects RX6 yX6_throwsIf yX6_throwsIf, Cond.code yX6_throwsIf cX6_throwsIf 3 (some .boolean), Cond.methodLink RX6 132 yX6_goes, Cond.instanceMethod yX6_goes, Cond.selects RX6 yX6_goes yX6_goes, Cond.code yX6_goes cX6_goes 10 (some .boolean), Cond.fieldLink RX6 117 "CrashDeskModel" "many" "J", Cond.fieldLink RX6 50 "CrashDeskModel" "firsts" "[I", Cond.fieldLink RX6 7 "CrashDeskModel" "mass" "[I", Cond.fieldLink RX6 44 "CrashDeskModel" "isLet" "[Z", Cond.fieldLink RX6 121 "CrashDeskModel" "wanted" "Z", Cond.methodLink RX6 110 yX6_lets, Cond.instanceMethod yX6_lets]
def wsX6_avoided_r2 : List Cond := [Cond.selects RX6 yX6_lets yX6_lets, Cond.code yX6_lets cX6_lets 4 none, Cond.fieldLink RX6 29 "CrashDeskModel" "low" "[I", Cond.fieldLink RX6 32 "CrashDeskModel" "high" "[I", Cond.methodLink RX6 95 yX6_cell, Cond.static yX6_cell, Cond.code yX6_cell cX6_cell 2 (some .int), Cond.methodLink RX6 99 yX6_falses, Cond.instanceMethod yX6_falses, Cond.selects RX6 yX6_falses yX6_falses, Cond.code yX6_falses cX6_falses 5 (some .int), Cond.fieldLink RX6 92 "CrashDeskModel" "tales" "I", Cond.fieldLink RX6 35 "CrashDeskModel" "tRow" "[I", Cond.fieldLink RX6 38 "CrashDeskModel" "tLow" "[I", Cond.fieldLink RX6 41 "CrashDeskModel" "tHigh" "[I", Cond.methodLink RX6 114 yX6_counts, Cond.instanceMethod yX6_counts, Cond.selects RX6 yX6_counts yX6_counts, Cond.code yX6_counts cX6_counts 6 none, Cond.methodLink RX6 106 yX6_isFirst, Cond.instanceMethod yX6_isFirst, Cond.selects RX6 yX6_isFirst yX6_isFirst, Cond.code yX6_isFirst cX6_isFirst 6 (some .boolean), Cond.methodLink RX6 102 yX6_takes]
def wsX6_avoided_r3 : List Cond := [Cond.instanceMethod yX6_takes, Cond.selects RX6 yX6_takes yX6_takes, Cond.code yX6_takes cX6_takes 9 (some .boolean), Cond.fieldLink RX6 82 "CrashDeskModel" "skids" "I", Cond.fieldLink RX6 13 "CrashDeskModel" "sCar" "[I", Cond.fieldLink RX6 16 "CrashDeskModel" "sBehind" "[Z", Cond.fieldLink RX6 26 "CrashDeskModel" "isDropped" "[Z", Cond.fieldLink RX6 20 "CrashDeskModel" "sLeast" "[I", Cond.fieldLink RX6 23 "CrashDeskModel" "sMost" "[I", Cond.methodLink RX6 125 yX6_masks, Cond.instanceMethod yX6_masks, Cond.selects RX6 yX6_masks yX6_masks, Cond.code yX6_masks cX6_masks 8 none, Cond.fieldLink RX6 63 "CrashDeskModel" "mades" "[I", Cond.fieldLink RX6 53 "CrashDeskModel" "isMask" "[Z", Cond.fieldLink RX6 60 "CrashDeskModel" "made" "[I"]
def wsX6_avoided : List Cond := .code yX6_avoided cX6_avoided 8 (some .int) :: ((wsX6_avoided_r1 ++ (wsX6_avoided_r2 ++ wsX6_avoided_r3)) ++ wsX60)
def wsX6_look : List Cond := .code yX6_look cX6_look 3 (some .int) :: ([.fieldLink RX6 66 "CrashDeskModel" "thrown" "I", .fieldLink RX6 82 "CrashDeskModel" "skids" "I", .fieldLink RX6 13 "CrashDeskModel" "sCar" "[I", .fieldLink RX6 16 "CrashDeskModel" "sBehind" "[Z", .fieldLink RX6 20 "CrashDeskModel" "sLeast" "[I", .fieldLink RX6 23 "CrashDeskModel" "sMost" "[I", .fieldLink RX6 26 "CrashDeskModel" "isDropped" "[Z", .methodLink RX6 70 yX6_in, .static yX6_in, .initialized RX6, .code yX6_in cX6_in 3 (some .boolean), .methodLink RX6 78 yX6_throwsIf, .instanceMethod yX6_throwsIf, .selects RX6 yX6_throwsIf yX6_throwsIf, .code yX6_throwsIf cX6_throwsIf 3 (some .boolean)] ++ wsX60)
def wsX6_can_r1 : List Cond := [Cond.fieldLink RX6 66 "CrashDeskModel" "thrown" "I", Cond.fieldLink RX6 47 "CrashDeskModel" "isThere" "[Z", Cond.methodLink RX6 85 yX6_noSpeed, Cond.static yX6_noSpeed, Cond.initialized RX6, Cond.code yX6_noSpeed cX6_noSpeed 2 (some .boolean), Cond.methodLink RX6 74 yX6_noCar, Cond.static yX6_noCar, Cond.code yX6_noCar cX6_noCar 1 (some .boolean), Cond.methodLink RX6 70 yX6_in, Cond.static yX6_in, Cond.code yX6_in cX6_in 3 (some .boolean), Cond.methodLink RX6 78 yX6_throwsIf, Cond.instanceMethod yX6_throwsIf, Cond.selects RX6 yX6_throwsIf yX6_throwsIf, Cond.code yX6_throwsIf cX6_throwsIf 3 (some .boolean), Cond.methodLink RX6 132 yX6_goes, Cond.instanceMethod yX6_goes, Cond.selects RX6 yX6_goes yX6_goes, Cond.code yX6_goes cX6_goes 10 (some .boolean), Cond.fieldLink RX6 117 "CrashDeskModel" "many" "J", Cond.fieldLink RX6 50 "CrashDeskModel" "firsts" "[I", Cond.fieldLink RX6 7 "CrashDeskModel" "mass" "[I", Cond.fieldLink RX6 44 "CrashDeskModel" "isLet" "[Z"]
def wsX6_can_r2 : List Cond := [Cond.fieldLink RX6 121 "CrashDeskModel" "wanted" "Z", Cond.methodLink RX6 110 yX6_lets, Cond.instanceMethod yX6_lets, Cond.selects RX6 yX6_lets yX6_lets, Cond.code yX6_lets cX6_lets 4 none, Cond.fieldLink RX6 29 "CrashDeskModel" "low" "[I", Cond.fieldLink RX6 32 "CrashDeskModel" "high" "[I", Cond.methodLink RX6 95 yX6_cell, Cond.static yX6_cell, Cond.code yX6_cell cX6_cell 2 (some .int), Cond.methodLink RX6 99 yX6_falses, Cond.instanceMethod yX6_falses, Cond.selects RX6 yX6_falses yX6_falses, Cond.code yX6_falses cX6_falses 5 (some .int), Cond.fieldLink RX6 92 "CrashDeskModel" "tales" "I", Cond.fieldLink RX6 35 "CrashDeskModel" "tRow" "[I", Cond.fieldLink RX6 38 "CrashDeskModel" "tLow" "[I", Cond.fieldLink RX6 41 "CrashDeskModel" "tHigh" "[I", Cond.methodLink RX6 114 yX6_counts, Cond.instanceMethod yX6_counts, Cond.selects RX6 yX6_counts yX6_counts, Cond.code yX6_counts cX6_counts 6 none, Cond.methodLink RX6 106 yX6_isFirst, Cond.instanceMethod yX6_isFirst]
def wsX6_can_r3 : List Cond := [Cond.selects RX6 yX6_isFirst yX6_isFirst, Cond.code yX6_isFirst cX6_isFirst 6 (some .boolean), Cond.methodLink RX6 102 yX6_takes, Cond.instanceMethod yX6_takes, Cond.selects RX6 yX6_takes yX6_takes, Cond.code yX6_takes cX6_takes 9 (some .boolean), Cond.fieldLink RX6 82 "CrashDeskModel" "skids" "I", Cond.fieldLink RX6 13 "CrashDeskModel" "sCar" "[I", Cond.fieldLink RX6 16 "CrashDeskModel" "sBehind" "[Z", Cond.fieldLink RX6 26 "CrashDeskModel" "isDropped" "[Z", Cond.fieldLink RX6 20 "CrashDeskModel" "sLeast" "[I", Cond.fieldLink RX6 23 "CrashDeskModel" "sMost" "[I", Cond.methodLink RX6 125 yX6_masks, Cond.instanceMethod yX6_masks, Cond.selects RX6 yX6_masks yX6_masks, Cond.code yX6_masks cX6_masks 8 none, Cond.fieldLink RX6 63 "CrashDeskModel" "mades" "[I", Cond.fieldLink RX6 53 "CrashDeskModel" "isMask" "[Z", Cond.fieldLink RX6 60 "CrashDeskModel" "made" "[I"]
def wsX6_can : List Cond := .code yX6_can cX6_can 4 (some .boolean) :: ((wsX6_can_r1 ++ (wsX6_can_r2 ++ wsX6_can_r3)) ++ wsX60)
def wsX6_count : List Cond := .code yX6_count cX6_count 4 (some .int) :: ([.fieldLink RX6 66 "CrashDeskModel" "thrown" "I", .fieldLink RX6 82 "CrashDeskModel" "skids" "I", .fieldLink RX6 26 "CrashDeskModel" "isDropped" "[Z", .fieldLink RX6 92 "CrashDeskModel" "tales" "I", .fieldLink RX6 7 "CrashDeskModel" "mass" "[I"] ++ wsX60)
def wsJ9_abs_0f7a4 : List Cond := .code yJ9_abs_0f7a4 cJ9_abs_0f7a4 1 (some .int) :: ([])
def wsJ9_max_7cf53 : List Cond := .code yJ9_max_7cf53 cJ9_max_7cf53 2 (some .int) :: ([])
def wsJ9_min_7cf53 : List Cond := .code yJ9_min_7cf53 cJ9_min_7cf53 2 (some .int) :: ([])
def wsL_mass_r1 : List Cond := [Cond.classLink RL 13 "java/lang/IndexOutOfBoundsException", Cond.classLink RL 15 "java/lang/IllegalArgumentException", Cond.methodLink RL 7 yX5_mass, Cond.instanceMethod yX5_mass, Cond.selects RX5 yX5_mass yX5_mass, Cond.initialized RX5, Cond.code yX5_mass cX5_mass 4 none, Cond.fieldLink RX5 55 "CrashDesk$Car" "mass" "I", Cond.fieldLink RX5 35 "CrashDesk" "reckoned" "Z", Cond.methodLink RX5 47 yX5_carOf, Cond.instanceMethod yX5_carOf, Cond.selects RX5 yX5_carOf yX5_carOf, Cond.code yX5_carOf cX5_carOf 2 (some (.object "CrashDesk$Car")), Cond.fieldLink RX5 31 "CrashDesk" "meeting" "LCrashDesk$Meeting;", Cond.methodLink RX5 60 yX5_testCar, Cond.static yX5_testCar, Cond.code yX5_testCar cX5_testCar 1 none, Cond.classLink RX5 164 "java/lang/IndexOutOfBoundsException", Cond.initialized "java/lang/IndexOutOfBoundsException", Cond.methodLink RX5 180 yX1_pick, Cond.instanceMethod yX1_pick, Cond.selects RX1 yX1_pick yX1_pick, Cond.initialized RX1, Cond.code yX1_pick cX1_pick 2 (some (.object "CrashDesk$Car"))]
def wsL_mass_r2 : List Cond := [Cond.fieldLink RX1 12 "CrashDesk$Meeting" "zero" "LCrashDesk$Car;", Cond.fieldLink RX1 18 "CrashDesk$Meeting" "one" "LCrashDesk$Car;", Cond.methodLink RX5 51 yX5_testNumber, Cond.static yX5_testNumber, Cond.code yX5_testNumber cX5_testNumber 3 none, Cond.classLink RX5 171 "java/lang/IllegalArgumentException", Cond.initialized "java/lang/IllegalArgumentException"]
def wsL_mass : List Cond := .codeWith yL_mass cL_mass 4 (some .int) [(0, 6, 9, 13), (0, 6, 12, 15)] :: ((wsL_mass_r1 ++ wsL_mass_r2) ++ wsX00 ++ wsX50 ++ wsX10 ++ (vx_atS RX5 168 "java/lang/IndexOutOfBoundsException" ["java/lang/RuntimeException", "java/lang/Exception"]).filter goodWord ++ (vx_atS RX5 175 "java/lang/IllegalArgumentException" ["java/lang/RuntimeException", "java/lang/Exception"]).filter goodWord)
def wsL_skid_r1 : List Cond := [Cond.classLink RL 13 "java/lang/IndexOutOfBoundsException", Cond.classLink RL 15 "java/lang/IllegalArgumentException", Cond.classLink RL 21 "java/lang/UnsupportedOperationException", Cond.methodLink RL 17 yX5_skid, Cond.instanceMethod yX5_skid, Cond.selects RX5 yX5_skid yX5_skid, Cond.initialized RX5, Cond.code yX5_skid cX5_skid 8 (some .int), Cond.classLink RX5 68 "java/lang/UnsupportedOperationException", Cond.initialized "java/lang/UnsupportedOperationException", Cond.fieldLink RX5 21 "CrashDesk" "skidCount" "I", Cond.fieldLink RX5 11 "CrashDesk" "skids" "[LCrashDesk$Skid;", Cond.fieldLink RX5 75 "CrashDesk$Skid" "car" "I", Cond.fieldLink RX5 78 "CrashDesk$Skid" "behind" "Z", Cond.fieldLink RX5 81 "CrashDesk$Skid" "least" "I", Cond.fieldLink RX5 84 "CrashDesk$Skid" "greatest" "I", Cond.fieldLink RX5 87 "CrashDesk$Skid" "counts" "Z", Cond.fieldLink RX5 35 "CrashDesk" "reckoned" "Z", Cond.methodLink RX5 60 yX5_testCar, Cond.static yX5_testCar, Cond.code yX5_testCar cX5_testCar 1 none, Cond.classLink RX5 164 "java/lang/IndexOutOfBoundsException", Cond.initialized "java/lang/IndexOutOfBoundsException", Cond.methodLink RX5 64 yX5_testSpan]
def wsL_skid_r2 : List Cond := [Cond.static yX5_testSpan, Cond.code yX5_testSpan cX5_testSpan 4 none, Cond.classLink RX5 171 "java/lang/IllegalArgumentException", Cond.initialized "java/lang/IllegalArgumentException"]
def wsL_skid : List Cond := .codeWith yL_skid cL_skid 9 (some .int) [(0, 18, 21, 13), (0, 18, 25, 15), (0, 18, 29, 21)] :: ((wsL_skid_r1 ++ wsL_skid_r2) ++ wsX50 ++ wsX20 ++ (vx_atS RX5 72 "java/lang/UnsupportedOperationException" ["java/lang/RuntimeException", "java/lang/Exception"]).filter goodWord ++ (vx_atS RX5 168 "java/lang/IndexOutOfBoundsException" ["java/lang/RuntimeException", "java/lang/Exception"]).filter goodWord ++ (vx_atS RX5 175 "java/lang/IllegalArgumentException" ["java/lang/RuntimeException", "java/lang/Exception"]).filter goodWord)
def wsL_drop : List Cond := .codeWith yL_drop cL_drop 5 (some .int) [(0, 17, 20, 13)] :: ([.classLink RL 13 "java/lang/IndexOutOfBoundsException", .methodLink RL 23 yX5_drop, .instanceMethod yX5_drop, .selects RX5 yX5_drop yX5_drop, .initialized RX5, .code yX5_drop cX5_drop 4 (some .boolean), .fieldLink RX5 87 "CrashDesk$Skid" "counts" "Z", .fieldLink RX5 35 "CrashDesk" "reckoned" "Z", .methodLink RX5 90 yX5_skidOf, .instanceMethod yX5_skidOf, .selects RX5 yX5_skidOf yX5_skidOf, .code yX5_skidOf cX5_skidOf 2 (some (.object "CrashDesk$Skid")), .classLink RX5 164 "java/lang/IndexOutOfBoundsException", .initialized "java/lang/IndexOutOfBoundsException", .fieldLink RX5 21 "CrashDesk" "skidCount" "I", .fieldLink RX5 11 "CrashDesk" "skids" "[LCrashDesk$Skid;"] ++ wsX20 ++ wsX50 ++ (vx_atS RX5 168 "java/lang/IndexOutOfBoundsException" ["java/lang/RuntimeException", "java/lang/Exception"]).filter goodWord)
def wsL_sure_r1 : List Cond := [Cond.classLink RL 13 "java/lang/IndexOutOfBoundsException", Cond.classLink RL 15 "java/lang/IllegalArgumentException", Cond.methodLink RL 27 yX5_sure, Cond.instanceMethod yX5_sure, Cond.selects RX5 yX5_sure yX5_sure, Cond.initialized RX5, Cond.code yX5_sure cX5_sure 6 none, Cond.fieldLink RX5 98 "CrashDesk$Speed" "low" "I", Cond.fieldLink RX5 103 "CrashDesk$Speed" "high" "I", Cond.fieldLink RX5 35 "CrashDesk" "reckoned" "Z", Cond.methodLink RX5 94 yX5_speedOf, Cond.instanceMethod yX5_speedOf, Cond.selects RX5 yX5_speedOf yX5_speedOf, Cond.code yX5_speedOf cX5_speedOf 3 (some (.object "CrashDesk$Speed")), Cond.methodLink RX5 106 yX5_testSpeed, Cond.static yX5_testSpeed, Cond.code yX5_testSpeed cX5_testSpeed 2 none, Cond.classLink RX5 164 "java/lang/IndexOutOfBoundsException", Cond.initialized "java/lang/IndexOutOfBoundsException", Cond.methodLink RX5 60 yX5_testCar, Cond.static yX5_testCar, Cond.code yX5_testCar cX5_testCar 1 none, Cond.methodLink RX5 47 yX5_carOf, Cond.instanceMethod yX5_carOf]
def wsL_sure_r2 : List Cond := [Cond.selects RX5 yX5_carOf yX5_carOf, Cond.code yX5_carOf cX5_carOf 2 (some (.object "CrashDesk$Car")), Cond.fieldLink RX5 31 "CrashDesk" "meeting" "LCrashDesk$Meeting;", Cond.methodLink RX5 180 yX1_pick, Cond.instanceMethod yX1_pick, Cond.selects RX1 yX1_pick yX1_pick, Cond.initialized RX1, Cond.code yX1_pick cX1_pick 2 (some (.object "CrashDesk$Car")), Cond.fieldLink RX1 12 "CrashDesk$Meeting" "zero" "LCrashDesk$Car;", Cond.fieldLink RX1 18 "CrashDesk$Meeting" "one" "LCrashDesk$Car;", Cond.methodLink RX5 183 yX0_pick, Cond.instanceMethod yX0_pick, Cond.selects RX0 yX0_pick yX0_pick, Cond.initialized RX0, Cond.code yX0_pick cX0_pick 2 (some (.object "CrashDesk$Speed")), Cond.fieldLink RX0 18 "CrashDesk$Car" "first" "LCrashDesk$Speed;", Cond.fieldLink RX0 22 "CrashDesk$Car" "at" "LCrashDesk$Speed;", Cond.fieldLink RX0 25 "CrashDesk$Car" "after" "LCrashDesk$Speed;", Cond.methodLink RX5 64 yX5_testSpan, Cond.static yX5_testSpan, Cond.code yX5_testSpan cX5_testSpan 4 none, Cond.classLink RX5 171 "java/lang/IllegalArgumentException", Cond.initialized "java/lang/IllegalArgumentException"]
def wsL_sure : List Cond := .codeWith yL_sure cL_sure 6 (some .int) [(0, 9, 12, 13), (0, 9, 16, 15)] :: ((wsL_sure_r1 ++ wsL_sure_r2) ++ wsX30 ++ wsX50 ++ wsX10 ++ wsX00 ++ (vx_atS RX5 168 "java/lang/IndexOutOfBoundsException" ["java/lang/RuntimeException", "java/lang/Exception"]).filter goodWord ++ (vx_atS RX5 175 "java/lang/IllegalArgumentException" ["java/lang/RuntimeException", "java/lang/Exception"]).filter goodWord)
def wsL_tale_r1 : List Cond := [Cond.classLink RL 13 "java/lang/IndexOutOfBoundsException", Cond.classLink RL 15 "java/lang/IllegalArgumentException", Cond.classLink RL 21 "java/lang/UnsupportedOperationException", Cond.methodLink RL 31 yX5_tale, Cond.instanceMethod yX5_tale, Cond.selects RX5 yX5_tale yX5_tale, Cond.initialized RX5, Cond.code yX5_tale cX5_tale 6 (some .int), Cond.classLink RX5 68 "java/lang/UnsupportedOperationException", Cond.initialized "java/lang/UnsupportedOperationException", Cond.fieldLink RX5 25 "CrashDesk" "taleCount" "I", Cond.fieldLink RX5 17 "CrashDesk" "tales" "[LCrashDesk$Tale;", Cond.fieldLink RX5 112 "CrashDesk$Tale" "car" "I", Cond.fieldLink RX5 113 "CrashDesk$Tale" "speed" "I", Cond.fieldLink RX5 116 "CrashDesk$Tale" "low" "I", Cond.fieldLink RX5 117 "CrashDesk$Tale" "high" "I", Cond.fieldLink RX5 35 "CrashDesk" "reckoned" "Z", Cond.methodLink RX5 106 yX5_testSpeed, Cond.static yX5_testSpeed, Cond.code yX5_testSpeed cX5_testSpeed 2 none, Cond.classLink RX5 164 "java/lang/IndexOutOfBoundsException", Cond.initialized "java/lang/IndexOutOfBoundsException", Cond.methodLink RX5 60 yX5_testCar, Cond.static yX5_testCar]
def wsL_tale_r2 : List Cond := [Cond.code yX5_testCar cX5_testCar 1 none, Cond.methodLink RX5 64 yX5_testSpan, Cond.static yX5_testSpan, Cond.code yX5_testSpan cX5_testSpan 4 none, Cond.classLink RX5 171 "java/lang/IllegalArgumentException", Cond.initialized "java/lang/IllegalArgumentException"]
def wsL_tale : List Cond := .codeWith yL_tale cL_tale 7 (some .int) [(0, 14, 17, 13), (0, 14, 21, 15), (0, 14, 25, 21)] :: ((wsL_tale_r1 ++ wsL_tale_r2) ++ wsX50 ++ wsX40 ++ (vx_atS RX5 72 "java/lang/UnsupportedOperationException" ["java/lang/RuntimeException", "java/lang/Exception"]).filter goodWord ++ (vx_atS RX5 168 "java/lang/IndexOutOfBoundsException" ["java/lang/RuntimeException", "java/lang/Exception"]).filter goodWord ++ (vx_atS RX5 175 "java/lang/IllegalArgumentException" ["java/lang/RuntimeException", "java/lang/Exception"]).filter goodWord)
def wsL_span_r1 : List Cond := [Cond.classLink RL 13 "java/lang/IndexOutOfBoundsException", Cond.classLink RL 39 "java/util/NoSuchElementException", Cond.methodLink RL 35 yX5_span, Cond.instanceMethod yX5_span, Cond.selects RX5 yX5_span yX5_span, Cond.initialized RX5, Cond.code yX5_span cX5_span 6 (some .int), Cond.methodLink RX5 94 yX5_speedOf, Cond.instanceMethod yX5_speedOf, Cond.selects RX5 yX5_speedOf yX5_speedOf, Cond.code yX5_speedOf cX5_speedOf 3 (some (.object "CrashDesk$Speed")), Cond.methodLink RX5 106 yX5_testSpeed, Cond.static yX5_testSpeed, Cond.code yX5_testSpeed cX5_testSpeed 2 none, Cond.classLink RX5 164 "java/lang/IndexOutOfBoundsException", Cond.initialized "java/lang/IndexOutOfBoundsException", Cond.methodLink RX5 60 yX5_testCar, Cond.static yX5_testCar, Cond.code yX5_testCar cX5_testCar 1 none, Cond.methodLink RX5 47 yX5_carOf, Cond.instanceMethod yX5_carOf, Cond.selects RX5 yX5_carOf yX5_carOf, Cond.code yX5_carOf cX5_carOf 2 (some (.object "CrashDesk$Car")), Cond.fieldLink RX5 31 "CrashDesk" "meeting" "LCrashDesk$Meeting;"]
def wsL_span_r2 : List Cond := [Cond.methodLink RX5 180 yX1_pick, Cond.instanceMethod yX1_pick, Cond.selects RX1 yX1_pick yX1_pick, Cond.initialized RX1, Cond.code yX1_pick cX1_pick 2 (some (.object "CrashDesk$Car")), Cond.fieldLink RX1 12 "CrashDesk$Meeting" "zero" "LCrashDesk$Car;", Cond.fieldLink RX1 18 "CrashDesk$Meeting" "one" "LCrashDesk$Car;", Cond.methodLink RX5 183 yX0_pick, Cond.instanceMethod yX0_pick, Cond.selects RX0 yX0_pick yX0_pick, Cond.initialized RX0, Cond.code yX0_pick cX0_pick 2 (some (.object "CrashDesk$Speed")), Cond.fieldLink RX0 18 "CrashDesk$Car" "first" "LCrashDesk$Speed;", Cond.fieldLink RX0 22 "CrashDesk$Car" "at" "LCrashDesk$Speed;", Cond.fieldLink RX0 25 "CrashDesk$Car" "after" "LCrashDesk$Speed;", Cond.methodLink RX5 125 yX5_allTales, Cond.instanceMethod yX5_allTales, Cond.selects RX5 yX5_allTales yX5_allTales, Cond.code yX5_allTales cX5_allTales 1 (some .int), Cond.fieldLink RX5 25 "CrashDesk" "taleCount" "I", Cond.methodLink RX5 118 yX5_reckon, Cond.instanceMethod yX5_reckon, Cond.selects RX5 yX5_reckon yX5_reckon, Cond.code yX5_reckon cX5_reckon 7 none]
def wsL_span_r3 : List Cond := [Cond.fieldLink RX5 35 "CrashDesk" "reckoned" "Z", Cond.fieldLink RX5 39 "CrashDesk" "reckonedTales" "I", Cond.fieldLink RX5 42 "CrashDesk" "reckonedWithout" "I", Cond.fieldLink RX5 157 "CrashDesk$Meeting" "zero" "LCrashDesk$Car;", Cond.fieldLink RX5 161 "CrashDesk$Meeting" "one" "LCrashDesk$Car;", Cond.fieldLink RX5 17 "CrashDesk" "tales" "[LCrashDesk$Tale;", Cond.fieldLink RX5 112 "CrashDesk$Tale" "car" "I", Cond.fieldLink RX5 113 "CrashDesk$Tale" "speed" "I", Cond.fieldLink RX5 21 "CrashDesk" "skidCount" "I", Cond.fieldLink RX5 11 "CrashDesk" "skids" "[LCrashDesk$Skid;", Cond.fieldLink RX5 87 "CrashDesk$Skid" "counts" "Z", Cond.fieldLink RX5 75 "CrashDesk$Skid" "car" "I", Cond.methodLink RX5 188 yX0_clear, Cond.instanceMethod yX0_clear, Cond.selects RX0 yX0_clear yX0_clear, Cond.code yX0_clear cX0_clear 1 none, Cond.fieldLink RX0 32 "CrashDesk$Car" "aheadLeast" "I", Cond.fieldLink RX0 35 "CrashDesk$Car" "aheadGreatest" "I", Cond.fieldLink RX0 38 "CrashDesk$Car" "behindLeast" "I", Cond.fieldLink RX0 41 "CrashDesk$Car" "behindGreatest" "I", Cond.fieldLink RX0 44 "CrashDesk$Car" "skidsBehind" "Z", Cond.methodLink RX0 48 yX3_clear, Cond.instanceMethod yX3_clear, Cond.selects RX3 yX3_clear yX3_clear]
def wsL_span_r4 : List Cond := [Cond.initialized RX3, Cond.code yX3_clear cX3_clear 2 none, Cond.fieldLink RX3 9 "CrashDesk$Speed" "low" "I", Cond.fieldLink RX3 15 "CrashDesk$Speed" "high" "I", Cond.fieldLink RX3 28 "CrashDesk$Speed" "seen" "[Z", Cond.methodLink RX3 32 yX3_setPrice, Cond.instanceMethod yX3_setPrice, Cond.selects RX3 yX3_setPrice yX3_setPrice, Cond.code yX3_setPrice cX3_setPrice 3 none, Cond.fieldLink RX3 24 "CrashDesk$Speed" "prices" "[I", Cond.methodLink RX5 191 yX3_hear, Cond.instanceMethod yX3_hear, Cond.selects RX3 yX3_hear yX3_hear, Cond.code yX3_hear cX3_hear 5 none, Cond.fieldLink RX3 36 "CrashDesk$Tale" "low" "I", Cond.fieldLink RX3 39 "CrashDesk$Tale" "high" "I", Cond.methodLink RX3 40 yX3_isOpen, Cond.instanceMethod yX3_isOpen, Cond.selects RX3 yX3_isOpen yX3_isOpen, Cond.code yX3_isOpen cX3_isOpen 2 (some .boolean), Cond.methodLink RX3 44 yX3_priceOf, Cond.instanceMethod yX3_priceOf, Cond.selects RX3 yX3_priceOf yX3_priceOf, Cond.code yX3_priceOf cX3_priceOf 2 (some .int)]
def wsL_span_r5 : List Cond := [Cond.methodLink RX5 195 yX0_add, Cond.instanceMethod yX0_add, Cond.selects RX0 yX0_add yX0_add, Cond.code yX0_add cX0_add 2 none, Cond.fieldLink RX0 51 "CrashDesk$Skid" "behind" "Z", Cond.fieldLink RX0 56 "CrashDesk$Skid" "least" "I", Cond.fieldLink RX0 59 "CrashDesk$Skid" "greatest" "I", Cond.methodLink RX5 199 yX1_reckon, Cond.instanceMethod yX1_reckon, Cond.selects RX1 yX1_reckon yX1_reckon, Cond.code yX1_reckon cX1_reckon 2 none, Cond.fieldLink RX1 21 "CrashDesk$Meeting" "wayCount" "J", Cond.fieldLink RX1 25 "CrashDesk$Meeting" "cheapest" "I", Cond.fieldLink RX1 35 "CrashDesk$Car" "mass" "I", Cond.fieldLink RX1 29 "CrashDesk$Meeting" "loss" "I", Cond.fieldLink RX1 32 "CrashDesk$Meeting" "gain" "I", Cond.fieldLink RX1 45 "CrashDesk$Car" "at" "LCrashDesk$Speed;", Cond.fieldLink RX1 49 "CrashDesk$Speed" "bottom" "I", Cond.fieldLink RX1 54 "CrashDesk$Speed" "top" "I", Cond.methodLink RX1 38 yX1_lowestShare, Cond.static yX1_lowestShare, Cond.code yX1_lowestShare cX1_lowestShare 3 (some .int), Cond.methodLink RX1 42 yX0_settle, Cond.instanceMethod yX0_settle]
def wsL_span_r6 : List Cond := [Cond.selects RX0 yX0_settle yX0_settle, Cond.code yX0_settle cX0_settle 2 none, Cond.methodLink RX0 62 yX0_isTakenBehind, Cond.instanceMethod yX0_isTakenBehind, Cond.selects RX0 yX0_isTakenBehind yX0_isTakenBehind, Cond.code yX0_isTakenBehind cX0_isTakenBehind 3 (some .boolean), Cond.methodLink RX0 66 yX3_setPrice, Cond.methodLink RX0 70 yX3_isOpen, Cond.methodLink RX0 73 yX0_joinFirsts, Cond.instanceMethod yX0_joinFirsts, Cond.selects RX0 yX0_joinFirsts yX0_joinFirsts, Cond.code yX0_joinFirsts cX0_joinFirsts 6 none, Cond.methodLink RX0 86 Lib.Math.abs.name, Cond.static Lib.Math.abs.name, Cond.initialized "java/lang/Math", Cond.code Lib.Math.abs.name Lib.Math.abs.code 1 (some .int), Cond.fieldLink RX0 28 "CrashDesk$Car" "firstCounts" "[I", Cond.methodLink RX0 95 yX0_isTakenAhead, Cond.instanceMethod yX0_isTakenAhead, Cond.selects RX0 yX0_isTakenAhead yX0_isTakenAhead, Cond.code yX0_isTakenAhead cX0_isTakenAhead 4 (some .boolean), Cond.methodLink RX0 99 yX0_firstFor, Cond.static yX0_firstFor, Cond.code yX0_firstFor cX0_firstFor 2 (some .int)]
def wsL_span_r7 : List Cond := [Cond.methodLink RX0 106 yX3_priceOf, Cond.static yX5_cheaper, Cond.code yX5_cheaper cX5_cheaper 2 (some .int), Cond.methodLink RX0 77 yX3_bound, Cond.instanceMethod yX3_bound, Cond.selects RX3 yX3_bound yX3_bound, Cond.code yX3_bound cX3_bound 2 none, Cond.fieldLink RX3 18 "CrashDesk$Speed" "bottom" "I", Cond.fieldLink RX3 21 "CrashDesk$Speed" "top" "I", Cond.methodLink RX3 48 Lib.Math.min.name, Cond.static Lib.Math.min.name, Cond.code Lib.Math.min.name Lib.Math.min.code 2 (some .int), Cond.methodLink RX1 57 yX3_isOpen, Cond.methodLink RX1 61 yX1_pushFrom, Cond.instanceMethod yX1_pushFrom, Cond.selects RX1 yX1_pushFrom yX1_pushFrom, Cond.code yX1_pushFrom cX1_pushFrom 3 none, Cond.fieldLink RX1 68 "CrashDesk$Car" "after" "LCrashDesk$Speed;", Cond.methodLink RX1 71 yX1_meet, Cond.instanceMethod yX1_meet, Cond.selects RX1 yX1_meet yX1_meet, Cond.code yX1_meet cX1_meet 13 none, Cond.methodLink RX1 75 Lib.Math.max.name, Cond.static Lib.Math.max.name]
def wsL_span_r8 : List Cond := [Cond.code Lib.Math.max.name Lib.Math.max.code 2 (some .int), Cond.methodLink RX1 80 Lib.Math.min.name, Cond.methodLink RX1 97 yX3_see, Cond.instanceMethod yX3_see, Cond.selects RX3 yX3_see yX3_see, Cond.code yX3_see cX3_see 2 none, Cond.methodLink RX1 100 yX0_firstCount, Cond.instanceMethod yX0_firstCount, Cond.selects RX0 yX0_firstCount yX0_firstCount, Cond.code yX0_firstCount cX0_firstCount 2 (some .int), Cond.methodLink RX1 104 yX3_priceOf, Cond.methodLink RX1 65 yX0_seeFirsts, Cond.instanceMethod yX0_seeFirsts, Cond.selects RX0 yX0_seeFirsts yX0_seeFirsts, Cond.code yX0_seeFirsts cX0_seeFirsts 3 none, Cond.fieldLink RX0 80 "CrashDesk$Speed" "bottom" "I", Cond.fieldLink RX0 83 "CrashDesk$Speed" "top" "I", Cond.methodLink RX0 92 yX3_isSeen, Cond.instanceMethod yX3_isSeen, Cond.selects RX3 yX3_isSeen yX3_isSeen, Cond.code yX3_isSeen cX3_isSeen 2 (some .boolean), Cond.methodLink RX0 103 yX3_see, Cond.methodLink RX5 129 yX5_testWay, Cond.instanceMethod yX5_testWay]
def wsL_span_r9 : List Cond := [Cond.selects RX5 yX5_testWay yX5_testWay, Cond.code yX5_testWay cX5_testWay 1 none, Cond.classLink RX5 149 "java/util/NoSuchElementException", Cond.initialized "java/util/NoSuchElementException", Cond.fieldLink RX5 121 "CrashDesk$Meeting" "wayCount" "J", Cond.methodLink RX5 132 yX3_greatestSeen, Cond.instanceMethod yX3_greatestSeen, Cond.selects RX3 yX3_greatestSeen yX3_greatestSeen, Cond.code yX3_greatestSeen cX3_greatestSeen 2 (some .int), Cond.methodLink RX3 54 yX3_isSeen, Cond.methodLink RX5 135 yX3_leastSeen, Cond.instanceMethod yX3_leastSeen, Cond.selects RX3 yX3_leastSeen yX3_leastSeen, Cond.code yX3_leastSeen cX3_leastSeen 2 (some .int)]
def wsL_span : List Cond := .codeWith yL_span cL_span 7 (some .int) [(0, 14, 17, 13), (0, 14, 21, 39)] :: ((wsL_span_r1 ++ (wsL_span_r2 ++ (wsL_span_r3 ++ (wsL_span_r4 ++ (wsL_span_r5 ++ (wsL_span_r6 ++ (wsL_span_r7 ++ (wsL_span_r8 ++ wsL_span_r9)))))))) ++ wsX50 ++ wsX10 ++ wsX00 ++ wsX40 ++ wsX20 ++ wsX30 ++ (vx_atS RX5 168 "java/lang/IndexOutOfBoundsException" ["java/lang/RuntimeException", "java/lang/Exception"]).filter goodWord ++ (vx_atS RX5 153 "java/util/NoSuchElementException" ["java/lang/RuntimeException", "java/lang/Exception"]).filter goodWord)
def wsL_avoided_r1 : List Cond := [Cond.classLink RL 13 "java/lang/IndexOutOfBoundsException", Cond.classLink RL 15 "java/lang/IllegalArgumentException", Cond.classLink RL 39 "java/util/NoSuchElementException", Cond.methodLink RL 41 yX5_avoided, Cond.instanceMethod yX5_avoided, Cond.selects RX5 yX5_avoided yX5_avoided, Cond.initialized RX5, Cond.code yX5_avoided cX5_avoided 9 (some .int), Cond.fieldLink RX5 141 "CrashDesk$Car" "first" "LCrashDesk$Speed;", Cond.methodLink RX5 47 yX5_carOf, Cond.instanceMethod yX5_carOf, Cond.selects RX5 yX5_carOf yX5_carOf, Cond.code yX5_carOf cX5_carOf 2 (some (.object "CrashDesk$Car")), Cond.fieldLink RX5 31 "CrashDesk" "meeting" "LCrashDesk$Meeting;", Cond.methodLink RX5 60 yX5_testCar, Cond.static yX5_testCar, Cond.code yX5_testCar cX5_testCar 1 none, Cond.classLink RX5 164 "java/lang/IndexOutOfBoundsException", Cond.initialized "java/lang/IndexOutOfBoundsException", Cond.methodLink RX5 180 yX1_pick, Cond.instanceMethod yX1_pick, Cond.selects RX1 yX1_pick yX1_pick, Cond.initialized RX1, Cond.code yX1_pick cX1_pick 2 (some (.object "CrashDesk$Car"))]
def wsL_avoided_r2 : List Cond := [Cond.fieldLink RX1 12 "CrashDesk$Meeting" "zero" "LCrashDesk$Car;", Cond.fieldLink RX1 18 "CrashDesk$Meeting" "one" "LCrashDesk$Car;", Cond.methodLink RX5 51 yX5_testNumber, Cond.static yX5_testNumber, Cond.code yX5_testNumber cX5_testNumber 3 none, Cond.classLink RX5 171 "java/lang/IllegalArgumentException", Cond.initialized "java/lang/IllegalArgumentException", Cond.methodLink RX5 118 yX5_reckon, Cond.instanceMethod yX5_reckon, Cond.selects RX5 yX5_reckon yX5_reckon, Cond.code yX5_reckon cX5_reckon 7 none, Cond.fieldLink RX5 35 "CrashDesk" "reckoned" "Z", Cond.fieldLink RX5 39 "CrashDesk" "reckonedTales" "I", Cond.fieldLink RX5 42 "CrashDesk" "reckonedWithout" "I", Cond.fieldLink RX5 157 "CrashDesk$Meeting" "zero" "LCrashDesk$Car;", Cond.fieldLink RX5 161 "CrashDesk$Meeting" "one" "LCrashDesk$Car;", Cond.fieldLink RX5 25 "CrashDesk" "taleCount" "I", Cond.fieldLink RX5 17 "CrashDesk" "tales" "[LCrashDesk$Tale;", Cond.fieldLink RX5 112 "CrashDesk$Tale" "car" "I", Cond.fieldLink RX5 113 "CrashDesk$Tale" "speed" "I", Cond.fieldLink RX5 21 "CrashDesk" "skidCount" "I", Cond.fieldLink RX5 11 "CrashDesk" "skids" "[LCrashDesk$Skid;", Cond.fieldLink RX5 87 "CrashDesk$Skid" "counts" "Z", Cond.fieldLink RX5 75 "CrashDesk$Skid" "car" "I"]
def wsL_avoided_r3 : List Cond := [Cond.methodLink RX5 188 yX0_clear, Cond.instanceMethod yX0_clear, Cond.selects RX0 yX0_clear yX0_clear, Cond.initialized RX0, Cond.code yX0_clear cX0_clear 1 none, Cond.fieldLink RX0 18 "CrashDesk$Car" "first" "LCrashDesk$Speed;", Cond.fieldLink RX0 22 "CrashDesk$Car" "at" "LCrashDesk$Speed;", Cond.fieldLink RX0 25 "CrashDesk$Car" "after" "LCrashDesk$Speed;", Cond.fieldLink RX0 32 "CrashDesk$Car" "aheadLeast" "I", Cond.fieldLink RX0 35 "CrashDesk$Car" "aheadGreatest" "I", Cond.fieldLink RX0 38 "CrashDesk$Car" "behindLeast" "I", Cond.fieldLink RX0 41 "CrashDesk$Car" "behindGreatest" "I", Cond.fieldLink RX0 44 "CrashDesk$Car" "skidsBehind" "Z", Cond.methodLink RX0 48 yX3_clear, Cond.instanceMethod yX3_clear, Cond.selects RX3 yX3_clear yX3_clear, Cond.initialized RX3, Cond.code yX3_clear cX3_clear 2 none, Cond.fieldLink RX3 9 "CrashDesk$Speed" "low" "I", Cond.fieldLink RX3 15 "CrashDesk$Speed" "high" "I", Cond.fieldLink RX3 28 "CrashDesk$Speed" "seen" "[Z", Cond.methodLink RX3 32 yX3_setPrice, Cond.instanceMethod yX3_setPrice, Cond.selects RX3 yX3_setPrice yX3_setPrice]
def wsL_avoided_r4 : List Cond := [Cond.code yX3_setPrice cX3_setPrice 3 none, Cond.fieldLink RX3 24 "CrashDesk$Speed" "prices" "[I", Cond.methodLink RX5 183 yX0_pick, Cond.instanceMethod yX0_pick, Cond.selects RX0 yX0_pick yX0_pick, Cond.code yX0_pick cX0_pick 2 (some (.object "CrashDesk$Speed")), Cond.methodLink RX5 191 yX3_hear, Cond.instanceMethod yX3_hear, Cond.selects RX3 yX3_hear yX3_hear, Cond.code yX3_hear cX3_hear 5 none, Cond.fieldLink RX3 36 "CrashDesk$Tale" "low" "I", Cond.fieldLink RX3 39 "CrashDesk$Tale" "high" "I", Cond.methodLink RX3 40 yX3_isOpen, Cond.instanceMethod yX3_isOpen, Cond.selects RX3 yX3_isOpen yX3_isOpen, Cond.code yX3_isOpen cX3_isOpen 2 (some .boolean), Cond.methodLink RX3 44 yX3_priceOf, Cond.instanceMethod yX3_priceOf, Cond.selects RX3 yX3_priceOf yX3_priceOf, Cond.code yX3_priceOf cX3_priceOf 2 (some .int), Cond.methodLink RX5 195 yX0_add, Cond.instanceMethod yX0_add, Cond.selects RX0 yX0_add yX0_add, Cond.code yX0_add cX0_add 2 none]
def wsL_avoided_r5 : List Cond := [Cond.fieldLink RX0 51 "CrashDesk$Skid" "behind" "Z", Cond.fieldLink RX0 56 "CrashDesk$Skid" "least" "I", Cond.fieldLink RX0 59 "CrashDesk$Skid" "greatest" "I", Cond.methodLink RX5 199 yX1_reckon, Cond.instanceMethod yX1_reckon, Cond.selects RX1 yX1_reckon yX1_reckon, Cond.code yX1_reckon cX1_reckon 2 none, Cond.fieldLink RX1 21 "CrashDesk$Meeting" "wayCount" "J", Cond.fieldLink RX1 25 "CrashDesk$Meeting" "cheapest" "I", Cond.fieldLink RX1 35 "CrashDesk$Car" "mass" "I", Cond.fieldLink RX1 29 "CrashDesk$Meeting" "loss" "I", Cond.fieldLink RX1 32 "CrashDesk$Meeting" "gain" "I", Cond.fieldLink RX1 45 "CrashDesk$Car" "at" "LCrashDesk$Speed;", Cond.fieldLink RX1 49 "CrashDesk$Speed" "bottom" "I", Cond.fieldLink RX1 54 "CrashDesk$Speed" "top" "I", Cond.methodLink RX1 38 yX1_lowestShare, Cond.static yX1_lowestShare, Cond.code yX1_lowestShare cX1_lowestShare 3 (some .int), Cond.methodLink RX1 42 yX0_settle, Cond.instanceMethod yX0_settle, Cond.selects RX0 yX0_settle yX0_settle, Cond.code yX0_settle cX0_settle 2 none, Cond.methodLink RX0 62 yX0_isTakenBehind, Cond.instanceMethod yX0_isTakenBehind]
def wsL_avoided_r6 : List Cond := [Cond.selects RX0 yX0_isTakenBehind yX0_isTakenBehind, Cond.code yX0_isTakenBehind cX0_isTakenBehind 3 (some .boolean), Cond.methodLink RX0 66 yX3_setPrice, Cond.methodLink RX0 70 yX3_isOpen, Cond.methodLink RX0 73 yX0_joinFirsts, Cond.instanceMethod yX0_joinFirsts, Cond.selects RX0 yX0_joinFirsts yX0_joinFirsts, Cond.code yX0_joinFirsts cX0_joinFirsts 6 none, Cond.methodLink RX0 86 Lib.Math.abs.name, Cond.static Lib.Math.abs.name, Cond.initialized "java/lang/Math", Cond.code Lib.Math.abs.name Lib.Math.abs.code 1 (some .int), Cond.fieldLink RX0 28 "CrashDesk$Car" "firstCounts" "[I", Cond.methodLink RX0 95 yX0_isTakenAhead, Cond.instanceMethod yX0_isTakenAhead, Cond.selects RX0 yX0_isTakenAhead yX0_isTakenAhead, Cond.code yX0_isTakenAhead cX0_isTakenAhead 4 (some .boolean), Cond.methodLink RX0 99 yX0_firstFor, Cond.static yX0_firstFor, Cond.code yX0_firstFor cX0_firstFor 2 (some .int), Cond.methodLink RX0 106 yX3_priceOf, Cond.static yX5_cheaper, Cond.code yX5_cheaper cX5_cheaper 2 (some .int), Cond.methodLink RX0 77 yX3_bound]
def wsL_avoided_r7 : List Cond := [Cond.instanceMethod yX3_bound, Cond.selects RX3 yX3_bound yX3_bound, Cond.code yX3_bound cX3_bound 2 none, Cond.fieldLink RX3 18 "CrashDesk$Speed" "bottom" "I", Cond.fieldLink RX3 21 "CrashDesk$Speed" "top" "I", Cond.methodLink RX3 48 Lib.Math.min.name, Cond.static Lib.Math.min.name, Cond.code Lib.Math.min.name Lib.Math.min.code 2 (some .int), Cond.methodLink RX1 57 yX3_isOpen, Cond.methodLink RX1 61 yX1_pushFrom, Cond.instanceMethod yX1_pushFrom, Cond.selects RX1 yX1_pushFrom yX1_pushFrom, Cond.code yX1_pushFrom cX1_pushFrom 3 none, Cond.fieldLink RX1 68 "CrashDesk$Car" "after" "LCrashDesk$Speed;", Cond.methodLink RX1 71 yX1_meet, Cond.instanceMethod yX1_meet, Cond.selects RX1 yX1_meet yX1_meet, Cond.code yX1_meet cX1_meet 13 none, Cond.methodLink RX1 75 Lib.Math.max.name, Cond.static Lib.Math.max.name, Cond.code Lib.Math.max.name Lib.Math.max.code 2 (some .int), Cond.methodLink RX1 80 Lib.Math.min.name, Cond.methodLink RX1 97 yX3_see, Cond.instanceMethod yX3_see]
def wsL_avoided_r8 : List Cond := [Cond.selects RX3 yX3_see yX3_see, Cond.code yX3_see cX3_see 2 none, Cond.methodLink RX1 100 yX0_firstCount, Cond.instanceMethod yX0_firstCount, Cond.selects RX0 yX0_firstCount yX0_firstCount, Cond.code yX0_firstCount cX0_firstCount 2 (some .int), Cond.methodLink RX1 104 yX3_priceOf, Cond.methodLink RX1 65 yX0_seeFirsts, Cond.instanceMethod yX0_seeFirsts, Cond.selects RX0 yX0_seeFirsts yX0_seeFirsts, Cond.code yX0_seeFirsts cX0_seeFirsts 3 none, Cond.fieldLink RX0 80 "CrashDesk$Speed" "bottom" "I", Cond.fieldLink RX0 83 "CrashDesk$Speed" "top" "I", Cond.methodLink RX0 92 yX3_isSeen, Cond.instanceMethod yX3_isSeen, Cond.selects RX3 yX3_isSeen yX3_isSeen, Cond.code yX3_isSeen cX3_isSeen 2 (some .boolean), Cond.methodLink RX0 103 yX3_see, Cond.methodLink RX5 129 yX5_testWay, Cond.instanceMethod yX5_testWay, Cond.selects RX5 yX5_testWay yX5_testWay, Cond.code yX5_testWay cX5_testWay 1 none, Cond.classLink RX5 149 "java/util/NoSuchElementException", Cond.initialized "java/util/NoSuchElementException"]
def wsL_avoided_r9 : List Cond := [Cond.fieldLink RX5 121 "CrashDesk$Meeting" "wayCount" "J", Cond.methodLink RX5 145 yX3_isSeen]
def wsL_avoided : List Cond := .codeWith yL_avoided cL_avoided 6 (some .int) [(0, 12, 15, 13), (0, 12, 19, 15), (0, 12, 23, 39)] :: ((wsL_avoided_r1 ++ (wsL_avoided_r2 ++ (wsL_avoided_r3 ++ (wsL_avoided_r4 ++ (wsL_avoided_r5 ++ (wsL_avoided_r6 ++ (wsL_avoided_r7 ++ (wsL_avoided_r8 ++ wsL_avoided_r9)))))))) ++ wsX00 ++ wsX50 ++ wsX10 ++ wsX40 ++ wsX20 ++ wsX30 ++ (vx_atS RX5 168 "java/lang/IndexOutOfBoundsException" ["java/lang/RuntimeException", "java/lang/Exception"]).filter goodWord ++ (vx_atS RX5 175 "java/lang/IllegalArgumentException" ["java/lang/RuntimeException", "java/lang/Exception"]).filter goodWord ++ (vx_atS RX5 153 "java/util/NoSuchElementException" ["java/lang/RuntimeException", "java/lang/Exception"]).filter goodWord)
def wsL_look : List Cond := .codeWith yL_look cL_look 5 (some .int) [(0, 10, 13, 13), (0, 10, 17, 39)] :: ([.classLink RL 13 "java/lang/IndexOutOfBoundsException", .classLink RL 39 "java/util/NoSuchElementException", .methodLink RL 45 yX5_look, .instanceMethod yX5_look, .selects RX5 yX5_look yX5_look, .initialized RX5, .code yX5_look cX5_look 4 (some .int), .classLink RX5 149 "java/util/NoSuchElementException", .initialized "java/util/NoSuchElementException", .fieldLink RX5 75 "CrashDesk$Skid" "car" "I", .fieldLink RX5 78 "CrashDesk$Skid" "behind" "Z", .fieldLink RX5 81 "CrashDesk$Skid" "least" "I", .fieldLink RX5 84 "CrashDesk$Skid" "greatest" "I", .fieldLink RX5 87 "CrashDesk$Skid" "counts" "Z", .methodLink RX5 90 yX5_skidOf, .instanceMethod yX5_skidOf, .selects RX5 yX5_skidOf yX5_skidOf, .code yX5_skidOf cX5_skidOf 2 (some (.object "CrashDesk$Skid")), .classLink RX5 164 "java/lang/IndexOutOfBoundsException", .initialized "java/lang/IndexOutOfBoundsException", .fieldLink RX5 21 "CrashDesk" "skidCount" "I", .fieldLink RX5 11 "CrashDesk" "skids" "[LCrashDesk$Skid;"] ++ wsX20 ++ wsX50 ++ (vx_atS RX5 153 "java/util/NoSuchElementException" ["java/lang/RuntimeException", "java/lang/Exception"]).filter goodWord ++ (vx_atS RX5 168 "java/lang/IndexOutOfBoundsException" ["java/lang/RuntimeException", "java/lang/Exception"]).filter goodWord)
def wsL_can_r1 : List Cond := [Cond.classLink RL 13 "java/lang/IndexOutOfBoundsException", Cond.methodLink RL 49 yX5_can, Cond.instanceMethod yX5_can, Cond.selects RX5 yX5_can yX5_can, Cond.initialized RX5, Cond.code yX5_can cX5_can 5 (some .boolean), Cond.methodLink RX5 94 yX5_speedOf, Cond.instanceMethod yX5_speedOf, Cond.selects RX5 yX5_speedOf yX5_speedOf, Cond.code yX5_speedOf cX5_speedOf 3 (some (.object "CrashDesk$Speed")), Cond.methodLink RX5 106 yX5_testSpeed, Cond.static yX5_testSpeed, Cond.code yX5_testSpeed cX5_testSpeed 2 none, Cond.classLink RX5 164 "java/lang/IndexOutOfBoundsException", Cond.initialized "java/lang/IndexOutOfBoundsException", Cond.methodLink RX5 60 yX5_testCar, Cond.static yX5_testCar, Cond.code yX5_testCar cX5_testCar 1 none, Cond.methodLink RX5 47 yX5_carOf, Cond.instanceMethod yX5_carOf, Cond.selects RX5 yX5_carOf yX5_carOf, Cond.code yX5_carOf cX5_carOf 2 (some (.object "CrashDesk$Car")), Cond.fieldLink RX5 31 "CrashDesk" "meeting" "LCrashDesk$Meeting;", Cond.methodLink RX5 180 yX1_pick]
def wsL_can_r2 : List Cond := [Cond.instanceMethod yX1_pick, Cond.selects RX1 yX1_pick yX1_pick, Cond.initialized RX1, Cond.code yX1_pick cX1_pick 2 (some (.object "CrashDesk$Car")), Cond.fieldLink RX1 12 "CrashDesk$Meeting" "zero" "LCrashDesk$Car;", Cond.fieldLink RX1 18 "CrashDesk$Meeting" "one" "LCrashDesk$Car;", Cond.methodLink RX5 183 yX0_pick, Cond.instanceMethod yX0_pick, Cond.selects RX0 yX0_pick yX0_pick, Cond.initialized RX0, Cond.code yX0_pick cX0_pick 2 (some (.object "CrashDesk$Speed")), Cond.fieldLink RX0 18 "CrashDesk$Car" "first" "LCrashDesk$Speed;", Cond.fieldLink RX0 22 "CrashDesk$Car" "at" "LCrashDesk$Speed;", Cond.fieldLink RX0 25 "CrashDesk$Car" "after" "LCrashDesk$Speed;", Cond.methodLink RX5 118 yX5_reckon, Cond.instanceMethod yX5_reckon, Cond.selects RX5 yX5_reckon yX5_reckon, Cond.code yX5_reckon cX5_reckon 7 none, Cond.fieldLink RX5 35 "CrashDesk" "reckoned" "Z", Cond.fieldLink RX5 39 "CrashDesk" "reckonedTales" "I", Cond.fieldLink RX5 42 "CrashDesk" "reckonedWithout" "I", Cond.fieldLink RX5 157 "CrashDesk$Meeting" "zero" "LCrashDesk$Car;", Cond.fieldLink RX5 161 "CrashDesk$Meeting" "one" "LCrashDesk$Car;", Cond.fieldLink RX5 25 "CrashDesk" "taleCount" "I"]
def wsL_can_r3 : List Cond := [Cond.fieldLink RX5 17 "CrashDesk" "tales" "[LCrashDesk$Tale;", Cond.fieldLink RX5 112 "CrashDesk$Tale" "car" "I", Cond.fieldLink RX5 113 "CrashDesk$Tale" "speed" "I", Cond.fieldLink RX5 21 "CrashDesk" "skidCount" "I", Cond.fieldLink RX5 11 "CrashDesk" "skids" "[LCrashDesk$Skid;", Cond.fieldLink RX5 87 "CrashDesk$Skid" "counts" "Z", Cond.fieldLink RX5 75 "CrashDesk$Skid" "car" "I", Cond.methodLink RX5 188 yX0_clear, Cond.instanceMethod yX0_clear, Cond.selects RX0 yX0_clear yX0_clear, Cond.code yX0_clear cX0_clear 1 none, Cond.fieldLink RX0 32 "CrashDesk$Car" "aheadLeast" "I", Cond.fieldLink RX0 35 "CrashDesk$Car" "aheadGreatest" "I", Cond.fieldLink RX0 38 "CrashDesk$Car" "behindLeast" "I", Cond.fieldLink RX0 41 "CrashDesk$Car" "behindGreatest" "I", Cond.fieldLink RX0 44 "CrashDesk$Car" "skidsBehind" "Z", Cond.methodLink RX0 48 yX3_clear, Cond.instanceMethod yX3_clear, Cond.selects RX3 yX3_clear yX3_clear, Cond.initialized RX3, Cond.code yX3_clear cX3_clear 2 none, Cond.fieldLink RX3 9 "CrashDesk$Speed" "low" "I", Cond.fieldLink RX3 15 "CrashDesk$Speed" "high" "I", Cond.fieldLink RX3 28 "CrashDesk$Speed" "seen" "[Z"]
def wsL_can_r4 : List Cond := [Cond.methodLink RX3 32 yX3_setPrice, Cond.instanceMethod yX3_setPrice, Cond.selects RX3 yX3_setPrice yX3_setPrice, Cond.code yX3_setPrice cX3_setPrice 3 none, Cond.fieldLink RX3 24 "CrashDesk$Speed" "prices" "[I", Cond.methodLink RX5 191 yX3_hear, Cond.instanceMethod yX3_hear, Cond.selects RX3 yX3_hear yX3_hear, Cond.code yX3_hear cX3_hear 5 none, Cond.fieldLink RX3 36 "CrashDesk$Tale" "low" "I", Cond.fieldLink RX3 39 "CrashDesk$Tale" "high" "I", Cond.methodLink RX3 40 yX3_isOpen, Cond.instanceMethod yX3_isOpen, Cond.selects RX3 yX3_isOpen yX3_isOpen, Cond.code yX3_isOpen cX3_isOpen 2 (some .boolean), Cond.methodLink RX3 44 yX3_priceOf, Cond.instanceMethod yX3_priceOf, Cond.selects RX3 yX3_priceOf yX3_priceOf, Cond.code yX3_priceOf cX3_priceOf 2 (some .int), Cond.methodLink RX5 195 yX0_add, Cond.instanceMethod yX0_add, Cond.selects RX0 yX0_add yX0_add, Cond.code yX0_add cX0_add 2 none, Cond.fieldLink RX0 51 "CrashDesk$Skid" "behind" "Z"]
def wsL_can_r5 : List Cond := [Cond.fieldLink RX0 56 "CrashDesk$Skid" "least" "I", Cond.fieldLink RX0 59 "CrashDesk$Skid" "greatest" "I", Cond.methodLink RX5 199 yX1_reckon, Cond.instanceMethod yX1_reckon, Cond.selects RX1 yX1_reckon yX1_reckon, Cond.code yX1_reckon cX1_reckon 2 none, Cond.fieldLink RX1 21 "CrashDesk$Meeting" "wayCount" "J", Cond.fieldLink RX1 25 "CrashDesk$Meeting" "cheapest" "I", Cond.fieldLink RX1 35 "CrashDesk$Car" "mass" "I", Cond.fieldLink RX1 29 "CrashDesk$Meeting" "loss" "I", Cond.fieldLink RX1 32 "CrashDesk$Meeting" "gain" "I", Cond.fieldLink RX1 45 "CrashDesk$Car" "at" "LCrashDesk$Speed;", Cond.fieldLink RX1 49 "CrashDesk$Speed" "bottom" "I", Cond.fieldLink RX1 54 "CrashDesk$Speed" "top" "I", Cond.methodLink RX1 38 yX1_lowestShare, Cond.static yX1_lowestShare, Cond.code yX1_lowestShare cX1_lowestShare 3 (some .int), Cond.methodLink RX1 42 yX0_settle, Cond.instanceMethod yX0_settle, Cond.selects RX0 yX0_settle yX0_settle, Cond.code yX0_settle cX0_settle 2 none, Cond.methodLink RX0 62 yX0_isTakenBehind, Cond.instanceMethod yX0_isTakenBehind, Cond.selects RX0 yX0_isTakenBehind yX0_isTakenBehind]
def wsL_can_r6 : List Cond := [Cond.code yX0_isTakenBehind cX0_isTakenBehind 3 (some .boolean), Cond.methodLink RX0 66 yX3_setPrice, Cond.methodLink RX0 70 yX3_isOpen, Cond.methodLink RX0 73 yX0_joinFirsts, Cond.instanceMethod yX0_joinFirsts, Cond.selects RX0 yX0_joinFirsts yX0_joinFirsts, Cond.code yX0_joinFirsts cX0_joinFirsts 6 none, Cond.methodLink RX0 86 Lib.Math.abs.name, Cond.static Lib.Math.abs.name, Cond.initialized "java/lang/Math", Cond.code Lib.Math.abs.name Lib.Math.abs.code 1 (some .int), Cond.fieldLink RX0 28 "CrashDesk$Car" "firstCounts" "[I", Cond.methodLink RX0 95 yX0_isTakenAhead, Cond.instanceMethod yX0_isTakenAhead, Cond.selects RX0 yX0_isTakenAhead yX0_isTakenAhead, Cond.code yX0_isTakenAhead cX0_isTakenAhead 4 (some .boolean), Cond.methodLink RX0 99 yX0_firstFor, Cond.static yX0_firstFor, Cond.code yX0_firstFor cX0_firstFor 2 (some .int), Cond.methodLink RX0 106 yX3_priceOf, Cond.static yX5_cheaper, Cond.code yX5_cheaper cX5_cheaper 2 (some .int), Cond.methodLink RX0 77 yX3_bound, Cond.instanceMethod yX3_bound]
def wsL_can_r7 : List Cond := [Cond.selects RX3 yX3_bound yX3_bound, Cond.code yX3_bound cX3_bound 2 none, Cond.fieldLink RX3 18 "CrashDesk$Speed" "bottom" "I", Cond.fieldLink RX3 21 "CrashDesk$Speed" "top" "I", Cond.methodLink RX3 48 Lib.Math.min.name, Cond.static Lib.Math.min.name, Cond.code Lib.Math.min.name Lib.Math.min.code 2 (some .int), Cond.methodLink RX1 57 yX3_isOpen, Cond.methodLink RX1 61 yX1_pushFrom, Cond.instanceMethod yX1_pushFrom, Cond.selects RX1 yX1_pushFrom yX1_pushFrom, Cond.code yX1_pushFrom cX1_pushFrom 3 none, Cond.fieldLink RX1 68 "CrashDesk$Car" "after" "LCrashDesk$Speed;", Cond.methodLink RX1 71 yX1_meet, Cond.instanceMethod yX1_meet, Cond.selects RX1 yX1_meet yX1_meet, Cond.code yX1_meet cX1_meet 13 none, Cond.methodLink RX1 75 Lib.Math.max.name, Cond.static Lib.Math.max.name, Cond.code Lib.Math.max.name Lib.Math.max.code 2 (some .int), Cond.methodLink RX1 80 Lib.Math.min.name, Cond.methodLink RX1 97 yX3_see, Cond.instanceMethod yX3_see, Cond.selects RX3 yX3_see yX3_see]
def wsL_can_r8 : List Cond := [Cond.code yX3_see cX3_see 2 none, Cond.methodLink RX1 100 yX0_firstCount, Cond.instanceMethod yX0_firstCount, Cond.selects RX0 yX0_firstCount yX0_firstCount, Cond.code yX0_firstCount cX0_firstCount 2 (some .int), Cond.methodLink RX1 104 yX3_priceOf, Cond.methodLink RX1 65 yX0_seeFirsts, Cond.instanceMethod yX0_seeFirsts, Cond.selects RX0 yX0_seeFirsts yX0_seeFirsts, Cond.code yX0_seeFirsts cX0_seeFirsts 3 none, Cond.fieldLink RX0 80 "CrashDesk$Speed" "bottom" "I", Cond.fieldLink RX0 83 "CrashDesk$Speed" "top" "I", Cond.methodLink RX0 92 yX3_isSeen, Cond.instanceMethod yX3_isSeen, Cond.selects RX3 yX3_isSeen yX3_isSeen, Cond.code yX3_isSeen cX3_isSeen 2 (some .boolean), Cond.methodLink RX0 103 yX3_see, Cond.methodLink RX5 145 yX3_isSeen]
def wsL_can : List Cond := .codeWith yL_can cL_can 6 (some .int) [(0, 19, 22, 13)] :: ((wsL_can_r1 ++ (wsL_can_r2 ++ (wsL_can_r3 ++ (wsL_can_r4 ++ (wsL_can_r5 ++ (wsL_can_r6 ++ (wsL_can_r7 ++ wsL_can_r8))))))) ++ wsX50 ++ wsX10 ++ wsX00 ++ wsX40 ++ wsX20 ++ wsX30 ++ (vx_atS RX5 168 "java/lang/IndexOutOfBoundsException" ["java/lang/RuntimeException", "java/lang/Exception"]).filter goodWord)
def wsL_law0_r1 : List Cond := [Cond.classLink RL 8 RX5, Cond.instantiable RX5 8, Cond.initialized RX5, Cond.classLink RL 54 RX6, Cond.instantiable RX6 23, Cond.initialized RX6, Cond.arrayClass .long, Cond.methodLink RL 53 yX5_init, Cond.instanceMethod yX5_init, Cond.code yX5_init cX5_init 2 none, Cond.methodLink RX5 3 objectInit, Cond.instanceMethod objectInit, Cond.code objectInit ⟨#[0xb1]⟩ 1 none, Cond.classLink RX5 9 RX2, Cond.fieldLink RX5 11 "CrashDesk" "skids" "[LCrashDesk$Skid;", Cond.classLink RX5 15 RX4, Cond.fieldLink RX5 17 "CrashDesk" "tales" "[LCrashDesk$Tale;", Cond.fieldLink RX5 21 "CrashDesk" "skidCount" "I", Cond.fieldLink RX5 25 "CrashDesk" "taleCount" "I", Cond.classLink RX5 28 RX1, Cond.instantiable RX1 6, Cond.initialized RX1, Cond.fieldLink RX5 31 "CrashDesk" "meeting" "LCrashDesk$Meeting;", Cond.fieldLink RX5 35 "CrashDesk" "reckoned" "Z"]
def wsL_law0_r2 : List Cond := [Cond.fieldLink RX5 39 "CrashDesk" "reckonedTales" "I", Cond.fieldLink RX5 42 "CrashDesk" "reckonedWithout" "I", Cond.instantiable RX2 5, Cond.initialized RX2, Cond.instantiable RX4 4, Cond.initialized RX4, Cond.instanceMethod yX1_init, Cond.code yX1_init cX1_init 1 none, Cond.methodLink RX1 3 objectInit, Cond.classLink RX1 9 RX0, Cond.instantiable RX0 10, Cond.initialized RX0, Cond.fieldLink RX1 12 "CrashDesk$Meeting" "zero" "LCrashDesk$Car;", Cond.fieldLink RX1 18 "CrashDesk$Meeting" "one" "LCrashDesk$Car;", Cond.fieldLink RX1 21 "CrashDesk$Meeting" "wayCount" "J", Cond.fieldLink RX1 25 "CrashDesk$Meeting" "cheapest" "I", Cond.fieldLink RX1 29 "CrashDesk$Meeting" "loss" "I", Cond.fieldLink RX1 32 "CrashDesk$Meeting" "gain" "I", Cond.instanceMethod yX0_init, Cond.code yX0_init cX0_init 1 none, Cond.methodLink RX0 3 objectInit, Cond.fieldLink RX0 9 "CrashDesk$Car" "mass" "I", Cond.classLink RX0 15 RX3, Cond.instantiable RX3 6]
def wsL_law0_r3 : List Cond := [Cond.initialized RX3, Cond.fieldLink RX0 18 "CrashDesk$Car" "first" "LCrashDesk$Speed;", Cond.fieldLink RX0 22 "CrashDesk$Car" "at" "LCrashDesk$Speed;", Cond.fieldLink RX0 25 "CrashDesk$Car" "after" "LCrashDesk$Speed;", Cond.arrayClass .int, Cond.fieldLink RX0 28 "CrashDesk$Car" "firstCounts" "[I", Cond.fieldLink RX0 32 "CrashDesk$Car" "aheadLeast" "I", Cond.fieldLink RX0 35 "CrashDesk$Car" "aheadGreatest" "I", Cond.fieldLink RX0 38 "CrashDesk$Car" "behindLeast" "I", Cond.fieldLink RX0 41 "CrashDesk$Car" "behindGreatest" "I", Cond.fieldLink RX0 44 "CrashDesk$Car" "skidsBehind" "Z", Cond.instanceMethod yX3_init, Cond.code yX3_init cX3_init 1 none, Cond.methodLink RX3 3 objectInit, Cond.fieldLink RX3 9 "CrashDesk$Speed" "low" "I", Cond.fieldLink RX3 15 "CrashDesk$Speed" "high" "I", Cond.fieldLink RX3 18 "CrashDesk$Speed" "bottom" "I", Cond.fieldLink RX3 21 "CrashDesk$Speed" "top" "I", Cond.fieldLink RX3 24 "CrashDesk$Speed" "prices" "[I", Cond.arrayClass .boolean, Cond.fieldLink RX3 28 "CrashDesk$Speed" "seen" "[Z", Cond.instanceMethod yX2_init, Cond.code yX2_init cX2_init 1 none, Cond.methodLink RX2 1 objectInit]
def wsL_law0_r4 : List Cond := [Cond.fieldLink RX2 7 "CrashDesk$Skid" "car" "I", Cond.fieldLink RX2 13 "CrashDesk$Skid" "behind" "Z", Cond.fieldLink RX2 17 "CrashDesk$Skid" "least" "I", Cond.fieldLink RX2 20 "CrashDesk$Skid" "greatest" "I", Cond.fieldLink RX2 23 "CrashDesk$Skid" "counts" "Z", Cond.instanceMethod yX4_init, Cond.code yX4_init cX4_init 1 none, Cond.methodLink RX4 1 objectInit, Cond.fieldLink RX4 7 "CrashDesk$Tale" "car" "I", Cond.fieldLink RX4 13 "CrashDesk$Tale" "speed" "I", Cond.fieldLink RX4 16 "CrashDesk$Tale" "low" "I", Cond.fieldLink RX4 19 "CrashDesk$Tale" "high" "I", Cond.methodLink RL 56 yX6_init, Cond.instanceMethod yX6_init, Cond.code yX6_init cX6_init 1 none, Cond.methodLink RX6 1 objectInit, Cond.fieldLink RX6 7 "CrashDeskModel" "mass" "[I", Cond.fieldLink RX6 13 "CrashDeskModel" "sCar" "[I", Cond.fieldLink RX6 16 "CrashDeskModel" "sBehind" "[Z", Cond.fieldLink RX6 20 "CrashDeskModel" "sLeast" "[I", Cond.fieldLink RX6 23 "CrashDeskModel" "sMost" "[I", Cond.fieldLink RX6 26 "CrashDeskModel" "isDropped" "[Z", Cond.fieldLink RX6 29 "CrashDeskModel" "low" "[I", Cond.fieldLink RX6 32 "CrashDeskModel" "high" "[I"]
def wsL_law0_r5 : List Cond := [Cond.fieldLink RX6 35 "CrashDeskModel" "tRow" "[I", Cond.fieldLink RX6 38 "CrashDeskModel" "tLow" "[I", Cond.fieldLink RX6 41 "CrashDeskModel" "tHigh" "[I", Cond.fieldLink RX6 44 "CrashDeskModel" "isLet" "[Z", Cond.fieldLink RX6 47 "CrashDeskModel" "isThere" "[Z", Cond.fieldLink RX6 50 "CrashDeskModel" "firsts" "[I", Cond.fieldLink RX6 53 "CrashDeskModel" "isMask" "[Z", Cond.constant RX6 56 (206848), Cond.fieldLink RX6 57 "CrashDeskModel" "isMade" "[Z", Cond.fieldLink RX6 60 "CrashDeskModel" "made" "[I", Cond.fieldLink RX6 63 "CrashDeskModel" "mades" "[I", Cond.methodLink RL 57 yL_mass, Cond.static yL_mass, Cond.initialized RL, Cond.codeWith yL_mass cL_mass 4 (some .int) [(0, 6, 9, 13), (0, 6, 12, 15)], Cond.classLink RL 13 "java/lang/IndexOutOfBoundsException", Cond.classLink RL 15 "java/lang/IllegalArgumentException", Cond.methodLink RL 7 yX5_mass, Cond.instanceMethod yX5_mass, Cond.selects RX5 yX5_mass yX5_mass, Cond.code yX5_mass cX5_mass 4 none, Cond.fieldLink RX5 55 "CrashDesk$Car" "mass" "I", Cond.methodLink RX5 47 yX5_carOf, Cond.instanceMethod yX5_carOf]
def wsL_law0_r6 : List Cond := [Cond.selects RX5 yX5_carOf yX5_carOf, Cond.code yX5_carOf cX5_carOf 2 (some (.object "CrashDesk$Car")), Cond.methodLink RX5 60 yX5_testCar, Cond.static yX5_testCar, Cond.code yX5_testCar cX5_testCar 1 none, Cond.classLink RX5 164 "java/lang/IndexOutOfBoundsException", Cond.initialized "java/lang/IndexOutOfBoundsException", Cond.methodLink RX5 180 yX1_pick, Cond.instanceMethod yX1_pick, Cond.selects RX1 yX1_pick yX1_pick, Cond.code yX1_pick cX1_pick 2 (some (.object "CrashDesk$Car")), Cond.methodLink RX5 51 yX5_testNumber, Cond.static yX5_testNumber, Cond.code yX5_testNumber cX5_testNumber 3 none, Cond.classLink RX5 171 "java/lang/IllegalArgumentException", Cond.initialized "java/lang/IllegalArgumentException", Cond.methodLink RL 62 yX6_mass, Cond.instanceMethod yX6_mass, Cond.selects RX6 yX6_mass yX6_mass, Cond.code yX6_mass cX6_mass 3 none, Cond.fieldLink RX6 66 "CrashDeskModel" "thrown" "I", Cond.methodLink RX6 74 yX6_noCar, Cond.static yX6_noCar, Cond.code yX6_noCar cX6_noCar 1 (some .boolean)]
def wsL_law0_r7 : List Cond := [Cond.methodLink RX6 70 yX6_in, Cond.static yX6_in, Cond.code yX6_in cX6_in 3 (some .boolean), Cond.methodLink RX6 78 yX6_throwsIf, Cond.instanceMethod yX6_throwsIf, Cond.selects RX6 yX6_throwsIf yX6_throwsIf, Cond.code yX6_throwsIf cX6_throwsIf 3 (some .boolean), Cond.methodLink RL 63 yX6_thrown, Cond.instanceMethod yX6_thrown, Cond.selects RX6 yX6_thrown yX6_thrown, Cond.code yX6_thrown cX6_thrown 1 (some .int), Cond.methodLink RL 67 yL_skid, Cond.static yL_skid, Cond.codeWith yL_skid cL_skid 9 (some .int) [(0, 18, 21, 13), (0, 18, 25, 15), (0, 18, 29, 21)], Cond.classLink RL 21 "java/lang/UnsupportedOperationException", Cond.methodLink RL 17 yX5_skid, Cond.instanceMethod yX5_skid, Cond.selects RX5 yX5_skid yX5_skid, Cond.code yX5_skid cX5_skid 8 (some .int), Cond.classLink RX5 68 "java/lang/UnsupportedOperationException", Cond.initialized "java/lang/UnsupportedOperationException", Cond.fieldLink RX5 75 "CrashDesk$Skid" "car" "I", Cond.fieldLink RX5 78 "CrashDesk$Skid" "behind" "Z", Cond.fieldLink RX5 81 "CrashDesk$Skid" "least" "I"]
def wsL_law0_r8 : List Cond := [Cond.fieldLink RX5 84 "CrashDesk$Skid" "greatest" "I", Cond.fieldLink RX5 87 "CrashDesk$Skid" "counts" "Z", Cond.methodLink RX5 64 yX5_testSpan, Cond.static yX5_testSpan, Cond.code yX5_testSpan cX5_testSpan 4 none, Cond.methodLink RL 70 yX6_skid, Cond.instanceMethod yX6_skid, Cond.selects RX6 yX6_skid yX6_skid, Cond.code yX6_skid cX6_skid 7 (some .int), Cond.fieldLink RX6 82 "CrashDeskModel" "skids" "I", Cond.methodLink RL 71 yL_drop, Cond.static yL_drop, Cond.codeWith yL_drop cL_drop 5 (some .int) [(0, 17, 20, 13)], Cond.methodLink RL 23 yX5_drop, Cond.instanceMethod yX5_drop, Cond.selects RX5 yX5_drop yX5_drop, Cond.code yX5_drop cX5_drop 4 (some .boolean), Cond.methodLink RX5 90 yX5_skidOf, Cond.instanceMethod yX5_skidOf, Cond.selects RX5 yX5_skidOf yX5_skidOf, Cond.code yX5_skidOf cX5_skidOf 2 (some (.object "CrashDesk$Skid")), Cond.methodLink RL 74 yX6_drop, Cond.instanceMethod yX6_drop, Cond.selects RX6 yX6_drop yX6_drop]
def wsL_law0_r9 : List Cond := [Cond.code yX6_drop cX6_drop 4 (some .boolean), Cond.methodLink RL 75 yL_sure, Cond.static yL_sure, Cond.codeWith yL_sure cL_sure 6 (some .int) [(0, 9, 12, 13), (0, 9, 16, 15)], Cond.methodLink RL 27 yX5_sure, Cond.instanceMethod yX5_sure, Cond.selects RX5 yX5_sure yX5_sure, Cond.code yX5_sure cX5_sure 6 none, Cond.fieldLink RX5 98 "CrashDesk$Speed" "low" "I", Cond.fieldLink RX5 103 "CrashDesk$Speed" "high" "I", Cond.methodLink RX5 94 yX5_speedOf, Cond.instanceMethod yX5_speedOf, Cond.selects RX5 yX5_speedOf yX5_speedOf, Cond.code yX5_speedOf cX5_speedOf 3 (some (.object "CrashDesk$Speed")), Cond.methodLink RX5 106 yX5_testSpeed, Cond.static yX5_testSpeed, Cond.code yX5_testSpeed cX5_testSpeed 2 none, Cond.methodLink RX5 183 yX0_pick, Cond.instanceMethod yX0_pick, Cond.selects RX0 yX0_pick yX0_pick, Cond.code yX0_pick cX0_pick 2 (some (.object "CrashDesk$Speed")), Cond.methodLink RL 78 yX6_sure, Cond.instanceMethod yX6_sure, Cond.selects RX6 yX6_sure yX6_sure]
def wsL_law0_r10 : List Cond := [Cond.code yX6_sure cX6_sure 5 none, Cond.methodLink RX6 85 yX6_noSpeed, Cond.static yX6_noSpeed, Cond.code yX6_noSpeed cX6_noSpeed 2 (some .boolean), Cond.methodLink RX6 89 yX6_noSpan, Cond.static yX6_noSpan, Cond.code yX6_noSpan cX6_noSpan 2 (some .boolean), Cond.methodLink RL 79 yL_tale, Cond.static yL_tale, Cond.codeWith yL_tale cL_tale 7 (some .int) [(0, 14, 17, 13), (0, 14, 21, 15), (0, 14, 25, 21)], Cond.methodLink RL 31 yX5_tale, Cond.instanceMethod yX5_tale, Cond.selects RX5 yX5_tale yX5_tale, Cond.code yX5_tale cX5_tale 6 (some .int), Cond.fieldLink RX5 112 "CrashDesk$Tale" "car" "I", Cond.fieldLink RX5 113 "CrashDesk$Tale" "speed" "I", Cond.fieldLink RX5 116 "CrashDesk$Tale" "low" "I", Cond.fieldLink RX5 117 "CrashDesk$Tale" "high" "I", Cond.methodLink RL 82 yX6_tale, Cond.instanceMethod yX6_tale, Cond.selects RX6 yX6_tale yX6_tale, Cond.code yX6_tale cX6_tale 5 (some .int), Cond.fieldLink RX6 92 "CrashDeskModel" "tales" "I", Cond.methodLink RL 83 yX5_hush]
def wsL_law0_r11 : List Cond := [Cond.instanceMethod yX5_hush, Cond.selects RX5 yX5_hush yX5_hush, Cond.code yX5_hush cX5_hush 2 (some .int), Cond.methodLink RL 86 yX6_hush, Cond.instanceMethod yX6_hush, Cond.selects RX6 yX6_hush yX6_hush, Cond.code yX6_hush cX6_hush 2 (some .int), Cond.methodLink RL 87 yX5_ways, Cond.instanceMethod yX5_ways, Cond.selects RX5 yX5_ways yX5_ways, Cond.code yX5_ways cX5_ways 1 (some .long), Cond.fieldLink RX5 121 "CrashDesk$Meeting" "wayCount" "J", Cond.methodLink RX5 118 yX5_reckon, Cond.instanceMethod yX5_reckon, Cond.selects RX5 yX5_reckon yX5_reckon, Cond.code yX5_reckon cX5_reckon 7 none, Cond.fieldLink RX5 157 "CrashDesk$Meeting" "zero" "LCrashDesk$Car;", Cond.fieldLink RX5 161 "CrashDesk$Meeting" "one" "LCrashDesk$Car;", Cond.methodLink RX5 188 yX0_clear, Cond.instanceMethod yX0_clear, Cond.selects RX0 yX0_clear yX0_clear, Cond.code yX0_clear cX0_clear 1 none, Cond.methodLink RX0 48 yX3_clear, Cond.instanceMethod yX3_clear]
def wsL_law0_r12 : List Cond := [Cond.selects RX3 yX3_clear yX3_clear, Cond.code yX3_clear cX3_clear 2 none, Cond.methodLink RX3 32 yX3_setPrice, Cond.instanceMethod yX3_setPrice, Cond.selects RX3 yX3_setPrice yX3_setPrice, Cond.code yX3_setPrice cX3_setPrice 3 none, Cond.methodLink RX5 191 yX3_hear, Cond.instanceMethod yX3_hear, Cond.selects RX3 yX3_hear yX3_hear, Cond.code yX3_hear cX3_hear 5 none, Cond.fieldLink RX3 36 "CrashDesk$Tale" "low" "I", Cond.fieldLink RX3 39 "CrashDesk$Tale" "high" "I", Cond.methodLink RX3 40 yX3_isOpen, Cond.instanceMethod yX3_isOpen, Cond.selects RX3 yX3_isOpen yX3_isOpen, Cond.code yX3_isOpen cX3_isOpen 2 (some .boolean), Cond.methodLink RX3 44 yX3_priceOf, Cond.instanceMethod yX3_priceOf, Cond.selects RX3 yX3_priceOf yX3_priceOf, Cond.code yX3_priceOf cX3_priceOf 2 (some .int), Cond.methodLink RX5 195 yX0_add, Cond.instanceMethod yX0_add, Cond.selects RX0 yX0_add yX0_add, Cond.code yX0_add cX0_add 2 none]
def wsL_law0_r13 : List Cond := [Cond.fieldLink RX0 51 "CrashDesk$Skid" "behind" "Z", Cond.fieldLink RX0 56 "CrashDesk$Skid" "least" "I", Cond.fieldLink RX0 59 "CrashDesk$Skid" "greatest" "I", Cond.methodLink RX5 199 yX1_reckon, Cond.instanceMethod yX1_reckon, Cond.selects RX1 yX1_reckon yX1_reckon, Cond.code yX1_reckon cX1_reckon 2 none, Cond.fieldLink RX1 35 "CrashDesk$Car" "mass" "I", Cond.fieldLink RX1 45 "CrashDesk$Car" "at" "LCrashDesk$Speed;", Cond.fieldLink RX1 49 "CrashDesk$Speed" "bottom" "I", Cond.fieldLink RX1 54 "CrashDesk$Speed" "top" "I", Cond.methodLink RX1 38 yX1_lowestShare, Cond.static yX1_lowestShare, Cond.code yX1_lowestShare cX1_lowestShare 3 (some .int), Cond.methodLink RX1 42 yX0_settle, Cond.instanceMethod yX0_settle, Cond.selects RX0 yX0_settle yX0_settle, Cond.code yX0_settle cX0_settle 2 none, Cond.methodLink RX0 62 yX0_isTakenBehind, Cond.instanceMethod yX0_isTakenBehind, Cond.selects RX0 yX0_isTakenBehind yX0_isTakenBehind, Cond.code yX0_isTakenBehind cX0_isTakenBehind 3 (some .boolean), Cond.methodLink RX0 66 yX3_setPrice, Cond.methodLink RX0 70 yX3_isOpen]
def wsL_law0_r14 : List Cond := [Cond.methodLink RX0 73 yX0_joinFirsts, Cond.instanceMethod yX0_joinFirsts, Cond.selects RX0 yX0_joinFirsts yX0_joinFirsts, Cond.code yX0_joinFirsts cX0_joinFirsts 6 none, Cond.methodLink RX0 86 Lib.Math.abs.name, Cond.static Lib.Math.abs.name, Cond.initialized "java/lang/Math", Cond.code Lib.Math.abs.name Lib.Math.abs.code 1 (some .int), Cond.methodLink RX0 95 yX0_isTakenAhead, Cond.instanceMethod yX0_isTakenAhead, Cond.selects RX0 yX0_isTakenAhead yX0_isTakenAhead, Cond.code yX0_isTakenAhead cX0_isTakenAhead 4 (some .boolean), Cond.methodLink RX0 99 yX0_firstFor, Cond.static yX0_firstFor, Cond.code yX0_firstFor cX0_firstFor 2 (some .int), Cond.methodLink RX0 106 yX3_priceOf, Cond.static yX5_cheaper, Cond.code yX5_cheaper cX5_cheaper 2 (some .int), Cond.methodLink RX0 77 yX3_bound, Cond.instanceMethod yX3_bound, Cond.selects RX3 yX3_bound yX3_bound, Cond.code yX3_bound cX3_bound 2 none, Cond.methodLink RX3 48 Lib.Math.min.name, Cond.static Lib.Math.min.name]
def wsL_law0_r15 : List Cond := [Cond.code Lib.Math.min.name Lib.Math.min.code 2 (some .int), Cond.methodLink RX1 57 yX3_isOpen, Cond.methodLink RX1 61 yX1_pushFrom, Cond.instanceMethod yX1_pushFrom, Cond.selects RX1 yX1_pushFrom yX1_pushFrom, Cond.code yX1_pushFrom cX1_pushFrom 3 none, Cond.fieldLink RX1 68 "CrashDesk$Car" "after" "LCrashDesk$Speed;", Cond.methodLink RX1 71 yX1_meet, Cond.instanceMethod yX1_meet, Cond.selects RX1 yX1_meet yX1_meet, Cond.code yX1_meet cX1_meet 13 none, Cond.methodLink RX1 75 Lib.Math.max.name, Cond.static Lib.Math.max.name, Cond.code Lib.Math.max.name Lib.Math.max.code 2 (some .int), Cond.methodLink RX1 80 Lib.Math.min.name, Cond.methodLink RX1 97 yX3_see, Cond.instanceMethod yX3_see, Cond.selects RX3 yX3_see yX3_see, Cond.code yX3_see cX3_see 2 none, Cond.methodLink RX1 100 yX0_firstCount, Cond.instanceMethod yX0_firstCount, Cond.selects RX0 yX0_firstCount yX0_firstCount, Cond.code yX0_firstCount cX0_firstCount 2 (some .int), Cond.methodLink RX1 104 yX3_priceOf]
def wsL_law0_r16 : List Cond := [Cond.methodLink RX1 65 yX0_seeFirsts, Cond.instanceMethod yX0_seeFirsts, Cond.selects RX0 yX0_seeFirsts yX0_seeFirsts, Cond.code yX0_seeFirsts cX0_seeFirsts 3 none, Cond.fieldLink RX0 80 "CrashDesk$Speed" "bottom" "I", Cond.fieldLink RX0 83 "CrashDesk$Speed" "top" "I", Cond.methodLink RX0 92 yX3_isSeen, Cond.instanceMethod yX3_isSeen, Cond.selects RX3 yX3_isSeen yX3_isSeen, Cond.code yX3_isSeen cX3_isSeen 2 (some .boolean), Cond.methodLink RX0 103 yX3_see, Cond.methodLink RL 91 yX6_ways, Cond.instanceMethod yX6_ways, Cond.selects RX6 yX6_ways yX6_ways, Cond.code yX6_ways cX6_ways 2 (some .long), Cond.fieldLink RX6 117 "CrashDeskModel" "many" "J", Cond.methodLink RX6 132 yX6_goes, Cond.instanceMethod yX6_goes, Cond.selects RX6 yX6_goes yX6_goes, Cond.code yX6_goes cX6_goes 10 (some .boolean), Cond.fieldLink RX6 121 "CrashDeskModel" "wanted" "Z", Cond.methodLink RX6 110 yX6_lets, Cond.instanceMethod yX6_lets, Cond.selects RX6 yX6_lets yX6_lets]
def wsL_law0_r17 : List Cond := [Cond.code yX6_lets cX6_lets 4 none, Cond.methodLink RX6 95 yX6_cell, Cond.static yX6_cell, Cond.code yX6_cell cX6_cell 2 (some .int), Cond.methodLink RX6 99 yX6_falses, Cond.instanceMethod yX6_falses, Cond.selects RX6 yX6_falses yX6_falses, Cond.code yX6_falses cX6_falses 5 (some .int), Cond.methodLink RX6 114 yX6_counts, Cond.instanceMethod yX6_counts, Cond.selects RX6 yX6_counts yX6_counts, Cond.code yX6_counts cX6_counts 6 none, Cond.methodLink RX6 106 yX6_isFirst, Cond.instanceMethod yX6_isFirst, Cond.selects RX6 yX6_isFirst yX6_isFirst, Cond.code yX6_isFirst cX6_isFirst 6 (some .boolean), Cond.methodLink RX6 102 yX6_takes, Cond.instanceMethod yX6_takes, Cond.selects RX6 yX6_takes yX6_takes, Cond.code yX6_takes cX6_takes 9 (some .boolean), Cond.methodLink RX6 125 yX6_masks, Cond.instanceMethod yX6_masks, Cond.selects RX6 yX6_masks yX6_masks, Cond.code yX6_masks cX6_masks 8 none]
def wsL_law0_r18 : List Cond := [Cond.methodLink RL 92 yL_span, Cond.static yL_span, Cond.codeWith yL_span cL_span 7 (some .int) [(0, 14, 17, 13), (0, 14, 21, 39)], Cond.classLink RL 39 "java/util/NoSuchElementException", Cond.methodLink RL 35 yX5_span, Cond.instanceMethod yX5_span, Cond.selects RX5 yX5_span yX5_span, Cond.code yX5_span cX5_span 6 (some .int), Cond.methodLink RX5 125 yX5_allTales, Cond.instanceMethod yX5_allTales, Cond.selects RX5 yX5_allTales yX5_allTales, Cond.code yX5_allTales cX5_allTales 1 (some .int), Cond.methodLink RX5 129 yX5_testWay, Cond.instanceMethod yX5_testWay, Cond.selects RX5 yX5_testWay yX5_testWay, Cond.code yX5_testWay cX5_testWay 1 none, Cond.classLink RX5 149 "java/util/NoSuchElementException", Cond.initialized "java/util/NoSuchElementException", Cond.methodLink RX5 132 yX3_greatestSeen, Cond.instanceMethod yX3_greatestSeen, Cond.selects RX3 yX3_greatestSeen yX3_greatestSeen, Cond.code yX3_greatestSeen cX3_greatestSeen 2 (some .int), Cond.methodLink RX3 54 yX3_isSeen, Cond.methodLink RX5 135 yX3_leastSeen]
def wsL_law0_r19 : List Cond := [Cond.instanceMethod yX3_leastSeen, Cond.selects RX3 yX3_leastSeen yX3_leastSeen, Cond.code yX3_leastSeen cX3_leastSeen 2 (some .int), Cond.methodLink RL 95 yX6_span, Cond.instanceMethod yX6_span, Cond.selects RX6 yX6_span yX6_span, Cond.code yX6_span cX6_span 6 (some .int), Cond.methodLink RX6 141 yX6_all, Cond.instanceMethod yX6_all, Cond.selects RX6 yX6_all yX6_all, Cond.code yX6_all cX6_all 1 (some .int), Cond.methodLink RL 96 yX5_fit, Cond.instanceMethod yX5_fit, Cond.selects RX5 yX5_fit yX5_fit, Cond.code yX5_fit cX5_fit 2 (some .boolean), Cond.methodLink RL 100 yX6_fit, Cond.instanceMethod yX6_fit, Cond.selects RX6 yX6_fit yX6_fit, Cond.code yX6_fit cX6_fit 2 (some .boolean), Cond.methodLink RL 101 yX5_wrong, Cond.instanceMethod yX5_wrong, Cond.selects RX5 yX5_wrong yX5_wrong, Cond.code yX5_wrong cX5_wrong 1 (some .int), Cond.fieldLink RX5 138 "CrashDesk$Meeting" "cheapest" "I"]
def wsL_law0_r20 : List Cond := [Cond.methodLink RL 104 yX6_wrong, Cond.instanceMethod yX6_wrong, Cond.selects RX6 yX6_wrong yX6_wrong, Cond.code yX6_wrong cX6_wrong 2 (some .int), Cond.methodLink RX6 145 yX6_fewest, Cond.instanceMethod yX6_fewest, Cond.selects RX6 yX6_fewest yX6_fewest, Cond.code yX6_fewest cX6_fewest 4 (some .int), Cond.methodLink RX6 129 yX6_makes, Cond.instanceMethod yX6_makes, Cond.selects RX6 yX6_makes yX6_makes, Cond.code yX6_makes cX6_makes 6 none, Cond.methodLink RX6 135 yJ6_bitCount_0f7a4, Cond.static yJ6_bitCount_0f7a4, Cond.initialized RJ6, Cond.code yJ6_bitCount_0f7a4 cJ6_bitCount_0f7a4 1 (some .int), Cond.constant RJ6 265 (1431655765), Cond.constant RJ6 266 (858993459), Cond.constant RJ6 267 (252645135), Cond.methodLink RL 105 yX5_which, Cond.instanceMethod yX5_which, Cond.selects RX5 yX5_which yX5_which, Cond.code yX5_which cX5_which 1 (some .int), Cond.methodLink RL 108 yX6_which]
def wsL_law0_r21 : List Cond := [Cond.instanceMethod yX6_which, Cond.selects RX6 yX6_which yX6_which, Cond.code yX6_which cX6_which 1 (some .int), Cond.methodLink RL 109 yX5_odds, Cond.instanceMethod yX5_odds, Cond.selects RX5 yX5_odds yX5_odds, Cond.code yX5_odds cX5_odds 3 (some .int), Cond.methodLink RL 112 yX6_odds, Cond.instanceMethod yX6_odds, Cond.selects RX6 yX6_odds yX6_odds, Cond.code yX6_odds cX6_odds 3 (some .int), Cond.methodLink RL 113 yL_avoided, Cond.static yL_avoided, Cond.codeWith yL_avoided cL_avoided 6 (some .int) [(0, 12, 15, 13), (0, 12, 19, 15), (0, 12, 23, 39)], Cond.methodLink RL 41 yX5_avoided, Cond.instanceMethod yX5_avoided, Cond.selects RX5 yX5_avoided yX5_avoided, Cond.code yX5_avoided cX5_avoided 9 (some .int), Cond.fieldLink RX5 141 "CrashDesk$Car" "first" "LCrashDesk$Speed;", Cond.methodLink RX5 145 yX3_isSeen, Cond.methodLink RL 116 yX6_avoided, Cond.instanceMethod yX6_avoided, Cond.selects RX6 yX6_avoided yX6_avoided, Cond.code yX6_avoided cX6_avoided 8 (some .int)]
def wsL_law0_r22 : List Cond := [Cond.methodLink RL 117 yL_look, Cond.static yL_look, Cond.codeWith yL_look cL_look 5 (some .int) [(0, 10, 13, 13), (0, 10, 17, 39)], Cond.methodLink RL 45 yX5_look, Cond.instanceMethod yX5_look, Cond.selects RX5 yX5_look yX5_look, Cond.code yX5_look cX5_look 4 (some .int), Cond.methodLink RL 120 yX6_look, Cond.instanceMethod yX6_look, Cond.selects RX6 yX6_look yX6_look, Cond.code yX6_look cX6_look 3 (some .int), Cond.methodLink RL 121 yL_can, Cond.static yL_can, Cond.codeWith yL_can cL_can 6 (some .int) [(0, 19, 22, 13)], Cond.methodLink RL 49 yX5_can, Cond.instanceMethod yX5_can, Cond.selects RX5 yX5_can yX5_can, Cond.code yX5_can cX5_can 5 (some .boolean), Cond.methodLink RL 123 yX6_can, Cond.instanceMethod yX6_can, Cond.selects RX6 yX6_can yX6_can, Cond.code yX6_can cX6_can 4 (some .boolean), Cond.methodLink RL 124 yX5_count, Cond.instanceMethod yX5_count]
def wsL_law0_r23 : List Cond := [Cond.selects RX5 yX5_count yX5_count, Cond.code yX5_count cX5_count 2 (some .int), Cond.methodLink RX5 154 yX5_countingSkids, Cond.instanceMethod yX5_countingSkids, Cond.selects RX5 yX5_countingSkids yX5_countingSkids, Cond.code yX5_countingSkids cX5_countingSkids 3 (some .int), Cond.methodLink RL 128 yX6_count, Cond.instanceMethod yX6_count, Cond.selects RX6 yX6_count yX6_count, Cond.code yX6_count cX6_count 4 (some .int)]
def wsL_law0 : List Cond := (wsL_law0_r1 ++ (wsL_law0_r2 ++ (wsL_law0_r3 ++ (wsL_law0_r4 ++ (wsL_law0_r5 ++ (wsL_law0_r6 ++ (wsL_law0_r7 ++ (wsL_law0_r8 ++ (wsL_law0_r9 ++ (wsL_law0_r10 ++ (wsL_law0_r11 ++ (wsL_law0_r12 ++ (wsL_law0_r13 ++ (wsL_law0_r14 ++ (wsL_law0_r15 ++ (wsL_law0_r16 ++ (wsL_law0_r17 ++ (wsL_law0_r18 ++ (wsL_law0_r19 ++ (wsL_law0_r20 ++ (wsL_law0_r21 ++ (wsL_law0_r22 ++ wsL_law0_r23)))))))))))))))))))))) ++ wsX50 ++ wsX60 ++ wsX10 ++ wsX20 ++ wsX40 ++ wsX00 ++ wsX30 ++ ([] : List Cond)
def wsL_law : List Cond := wsL_law0 ++ (vx_atS RX5 168 "java/lang/IndexOutOfBoundsException" ["java/lang/RuntimeException", "java/lang/Exception"]).filter goodWord ++ (vx_atS RX5 175 "java/lang/IllegalArgumentException" ["java/lang/RuntimeException", "java/lang/Exception"]).filter goodWord ++ (vx_atS RX5 72 "java/lang/UnsupportedOperationException" ["java/lang/RuntimeException", "java/lang/Exception"]).filter goodWord ++ (vx_atS RX5 153 "java/util/NoSuchElementException" ["java/lang/RuntimeException", "java/lang/Exception"]).filter goodWord
abbrev vwCl : List vw_C := [(RX0, TX0, 10), (RX1, TX1, 6), (RX2, TX2, 5), (RX3, TX3, 6), (RX4, TX4, 4), (RX5, TX5, 8), (RX6, TX6, 23)]
end
section
/-! THE PICTURE: 68 places (the desk, its rows, skids, tales, the meeting, two cars with three speeds each, the model and its rows, the law's own row); a state is what the places hold in ints, and in longs. What refers to what never changes. -/
abbrev QS : Type := (Nat → Nat → Int32) × (Nat → Int64)
def qkds : List Nat := [5, 9, 2, 2, 2, 2, 2, 2, 2, 2, 2, 2, 2, 2, 10, 4, 4, 4, 4, 4, 4, 4, 4, 4, 4, 1, 0, 3, 7, 8, 3, 7, 8, 3, 7, 8, 7, 0, 3, 7, 8, 3, 7, 8, 3, 7, 8, 7, 6, 7, 7, 8, 7, 7, 8, 7, 7, 7, 7, 7, 8, 8, 7, 8, 8, 7, 7, 11]
def qns : List Nat := [0, 12, 0, 0, 0, 0, 0, 0, 0, 0, 0, 0, 0, 0, 10, 0, 0, 0, 0, 0, 0, 0, 0, 0, 0, 0, 0, 0, 101, 101, 0, 101, 101, 0, 101, 101, 101, 0, 0, 101, 101, 0, 101, 101, 0, 101, 101, 101, 0, 2, 12, 12, 12, 12, 12, 6, 6, 10, 10, 10, 606, 606, 202, 1024, 206848, 20402, 202, 1]
def qk (k : Nat) : Nat := qkds.getD k 12
def qn (k : Nat) : Nat := qns.getD k 0
theorem qk_lt {k c : Nat} (h : qk k = c) (hc : c < 12) : k < 68 := by
  rcases Nat.lt_or_ge k 68 with q | q
  · exact q
  · have e : qk k = 12 := by
      unfold qk
      rw [List.getD_eq_getElem?_getD, List.getElem?_eq_none (show qkds.length ≤ k from q)]
      rfl
    omega
theorem q_sp {k : Nat} (h : qk k = 3) : qk (k + 1) = 7 ∧ qn (k + 1) = 101 ∧ qk (k + 2) = 8 ∧ qn (k + 2) = 101 := (show ∀ k, k < 68 → qk k = 3 → qk (k + 1) = 7 ∧ qn (k + 1) = 101 ∧ qk (k + 2) = 8 ∧ qn (k + 2) = 101 by decide +kernel) k (qk_lt h (by decide)) h
theorem q_car {k : Nat} (h : qk k = 0) : qk (k + 1) = 3 ∧ qk (k + 4) = 3 ∧ qk (k + 7) = 3 ∧ qk (k + 10) = 7 ∧ qn (k + 10) = 101 := (show ∀ k, k < 68 → qk k = 0 → qk (k + 1) = 3 ∧ qk (k + 4) = 3 ∧ qk (k + 7) = 3 ∧ qk (k + 10) = 7 ∧ qn (k + 10) = 101 by decide +kernel) k (qk_lt h (by decide)) h
theorem q_skid {j : Nat} (h : j < 12) : qk (2 + j) = 2 := (show ∀ j, j < 12 → qk (2 + j) = 2 by decide +kernel) j h
theorem q_tale {j : Nat} (h : j < 10) : qk (15 + j) = 4 := (show ∀ j, j < 10 → qk (15 + j) = 4 by decide +kernel) j h
/-- what stands at a place -/
def cel (ca : Nat → ClassId) (ad : Nat → Nat) (k : Nat) (r : Nat → Int32) (M : Nat → Int64) : va_E :=
  if qk k = 0 then .inr (0, [.int (r 0), .ref (ad (k + 1)), .ref (ad (k + 4)), .ref (ad (k + 7)), .ref (ad (k + 10)), .int (r 5), .int (r 6), .int (r 7), .int (r 8), .int (r 9)])
  else if qk k = 1 then .inr (1, [.ref (ad 26), .ref (ad 37), .long (M k), .int (r 3), .int (r 4), .int (r 5)])
  else if qk k = 2 then .inr (2, [.int (r 0), .int (r 1), .int (r 2), .int (r 3), .int (r 4)])
  else if qk k = 3 then .inr (3, [.int (r 0), .int (r 1), .int (r 2), .int (r 3), .ref (ad (k + 1)), .ref (ad (k + 2))])
  else if qk k = 4 then .inr (4, [.int (r 0), .int (r 1), .int (r 2), .int (r 3)])
  else if qk k = 5 then .inr (5, [.ref (ad 1), .ref (ad 14), .int (r 2), .int (r 3), .ref (ad 25), .int (r 5), .int (r 6), .int (r 7)])
  else if qk k = 6 then .inr (6, [.int (r 0), .ref (ad 49), .ref (ad 50), .ref (ad 51), .ref (ad 52), .ref (ad 53), .ref (ad 54), .int (r 7), .ref (ad 55), .ref (ad 56), .ref (ad 57), .ref (ad 58), .ref (ad 59), .int (r 13), .ref (ad 60), .ref (ad 61), .ref (ad 62), .long (M k), .int (r 18), .ref (ad 63), .ref (ad 64), .ref (ad 65), .ref (ad 66)])
  else if qk k = 7 then .inl (ca 0, qn k, .inl r)
  else if qk k = 8 then .inl (ca 1, qn k, .inl r)
  else if qk k = 9 then .inl (ca 2, qn k, .inr (.inr (.inr (.inr (fun j => some (ad (2 + j)))))))
  else if qk k = 10 then .inl (ca 3, qn k, .inr (.inr (.inr (.inr (fun j => some (ad (15 + j)))))))
  else .inl (ca 4, qn k, .inr (.inl (fun j => M (k + j))))
section
variable {ca : Nat → ClassId} {ad : Nat → Nat} {k : Nat} {r : Nat → Int32} {M : Nat → Int64}
theorem cel_0 (h : qk k = 0) : cel ca ad k r M = .inr (0, [.int (r 0), .ref (ad (k + 1)), .ref (ad (k + 4)), .ref (ad (k + 7)), .ref (ad (k + 10)), .int (r 5), .int (r 6), .int (r 7), .int (r 8), .int (r 9)]) := by simp [cel, h]
theorem cel_1 (h : qk k = 1) : cel ca ad k r M = .inr (1, [.ref (ad 26), .ref (ad 37), .long (M k), .int (r 3), .int (r 4), .int (r 5)]) := by simp [cel, h]
theorem cel_2 (h : qk k = 2) : cel ca ad k r M = .inr (2, [.int (r 0), .int (r 1), .int (r 2), .int (r 3), .int (r 4)]) := by simp [cel, h]
theorem cel_3 (h : qk k = 3) : cel ca ad k r M = .inr (3, [.int (r 0), .int (r 1), .int (r 2), .int (r 3), .ref (ad (k + 1)), .ref (ad (k + 2))]) := by simp [cel, h]
theorem cel_4 (h : qk k = 4) : cel ca ad k r M = .inr (4, [.int (r 0), .int (r 1), .int (r 2), .int (r 3)]) := by simp [cel, h]
theorem cel_5 (h : qk k = 5) : cel ca ad k r M = .inr (5, [.ref (ad 1), .ref (ad 14), .int (r 2), .int (r 3), .ref (ad 25), .int (r 5), .int (r 6), .int (r 7)]) := by simp [cel, h]
theorem cel_6 (h : qk k = 6) : cel ca ad k r M = .inr (6, [.int (r 0), .ref (ad 49), .ref (ad 50), .ref (ad 51), .ref (ad 52), .ref (ad 53), .ref (ad 54), .int (r 7), .ref (ad 55), .ref (ad 56), .ref (ad 57), .ref (ad 58), .ref (ad 59), .int (r 13), .ref (ad 60), .ref (ad 61), .ref (ad 62), .long (M k), .int (r 18), .ref (ad 63), .ref (ad 64), .ref (ad 65), .ref (ad 66)]) := by simp [cel, h]
theorem cel_7 (h : qk k = 7) : cel ca ad k r M = .inl (ca 0, qn k, .inl r) := by simp [cel, h]
theorem cel_8 (h : qk k = 8) : cel ca ad k r M = .inl (ca 1, qn k, .inl r) := by simp [cel, h]
theorem cel_9 (h : qk k = 9) : cel ca ad k r M = .inl (ca 2, qn k, .inr (.inr (.inr (.inr (fun j => some (ad (2 + j))))))) := by simp [cel, h]
theorem cel_10 (h : qk k = 10) : cel ca ad k r M = .inl (ca 3, qn k, .inr (.inr (.inr (.inr (fun j => some (ad (15 + j))))))) := by simp [cel, h]
theorem cel_11 (h : qk k = 11) : cel ca ad k r M = .inl (ca 4, qn k, .inr (.inl (fun j => M (k + j)))) := by simp [cel, h]
theorem cel_ob (h : qk k < 7) : ∃ fs, cel ca ad k r M = .inr (qk k, fs) := by
  rcases (show qk k = 0 ∨ qk k = 1 ∨ qk k = 2 ∨ qk k = 3 ∨ qk k = 4 ∨ qk k = 5 ∨ qk k = 6 by omega) with q | q | q | q | q | q | q
  · exact ⟨_, by rw [cel_0 q, q]⟩
  · exact ⟨_, by rw [cel_1 q, q]⟩
  · exact ⟨_, by rw [cel_2 q, q]⟩
  · exact ⟨_, by rw [cel_3 q, q]⟩
  · exact ⟨_, by rw [cel_4 q, q]⟩
  · exact ⟨_, by rw [cel_5 q, q]⟩
  · exact ⟨_, by rw [cel_6 q, q]⟩
end
def wd (ca : Nat → ClassId) (ad : Nat → Nat) (S : QS) : va_W := (List.range 68).map (fun k => (ad k, cel ca ad k (S.1 k) S.2))
theorem wd_at {ca : Nat → ClassId} {ad : Nat → Nat} {S : QS} {k : Nat} (h : k < 68) : (wd ca ad S)[k]? = some (ad k, cel ca ad k (S.1 k) S.2) := by simp [wd, h]
theorem wd_len {ca : Nat → ClassId} {ad : Nat → Nat} {S : QS} : (wd ca ad S).length = 68 := by simp [wd]
theorem wd_inv {ca : Nat → ClassId} {ad : Nat → Nat} {S : QS} {k : Nat} {q : Nat × va_E} (h : (wd ca ad S)[k]? = some q) : k < 68 ∧ q = (ad k, cel ca ad k (S.1 k) S.2) := by
  have hk : k < 68 := by
    have := (List.getElem?_eq_some_iff.mp h).1
    rw [wd_len] at this
    exact this
  exact ⟨hk, (Option.some.inj ((wd_at hk).symm.trans h)).symm⟩
def Inj (ad : Nat → Nat) : Prop := ∀ i j, i < 68 → j < 68 → ad i = ad j → i = j
def Aq (ad : Nat → Nat) (sz : Nat) : Nat → Prop := fun q => (∃ k, k < 68 ∧ q = ad k) ∨ sz ≤ q
theorem Aq_in {ad : Nat → Nat} {sz k : Nat} (h : k < 68) : Aq ad sz (ad k) := Or.inl ⟨k, h, rfl⟩
theorem Aq_up {ad : Nat → Nat} {sz q : Nat} (h : sz ≤ q) : Aq ad sz q := Or.inr h
theorem Aq_mono {ad : Nat → Nat} {sz sz2 : Nat} (h : sz ≤ sz2) : ∀ q, Aq ad sz2 q → Aq ad sz q := fun q hq => hq.elim Or.inl (fun z => Or.inr (Nat.le_trans h z))
theorem wd_D {ca : Nat → ClassId} {ad : Nat → Nat} {S : QS} {sz : Nat} (hj : Inj ad) : va_D (Aq ad sz) (wd ca ad S) := by
  refine ⟨fun i j p q hi hj2 e => ?_, fun k q hk => ?_⟩
  · obtain ⟨h1, rfl⟩ := wd_inv hi
    obtain ⟨h2, rfl⟩ := wd_inv hj2
    exact hj i j h1 h2 e
  · obtain ⟨h1, rfl⟩ := wd_inv hk
    exact Aq_in h1
theorem wd_setV {ca : Nat → ClassId} {ad : Nat → Nat} {S : QS} {k : Nat} {r : Nat → Int32} {e : va_E} (hk : k < 68) (he : cel ca ad k r S.2 = e) : (wd ca ad S).set k (ad k, e) = wd ca ad (va_up S.1 k r, S.2) := by
  apply List.ext_getElem?
  intro i
  subst he
  by_cases h : i = k
  · subst h
    rw [List.getElem?_set_self (by rw [wd_len]; exact hk), wd_at hk]
    show _ = some (ad i, cel ca ad i (va_up S.1 i r i) S.2)
    rw [va_up_self]
  · rw [List.getElem?_set_ne (Ne.symm h)]
    rcases Nat.lt_or_ge i 68 with q | q
    · rw [wd_at q, wd_at q]
      show _ = some (ad i, cel ca ad i (va_up S.1 k r i) S.2)
      rw [va_up_ne _ _ h]
    · rw [List.getElem?_eq_none (by rw [wd_len]; exact q), List.getElem?_eq_none (by rw [wd_len]; exact q)]
theorem qk_one {i : Nat} (h : i < 68) : (qk i = 1 → i = 25) ∧ (qk i = 6 → i = 48) ∧ (qk i = 11 → i = 67) := (show ∀ i, i < 68 → (qk i = 1 → i = 25) ∧ (qk i = 6 → i = 48) ∧ (qk i = 11 → i = 67) by decide +kernel) i h
theorem cel_M {ca : Nat → ClassId} {ad : Nat → Nat} {i k : Nat} {r : Nat → Int32} {M : Nat → Int64} {x : Int64} (hi : i < 68) (hk : k < 68) (h : i ≠ k) : cel ca ad i r (va_up M k x) = cel ca ad i r M := by
  have h2 : ∀ j, 68 ≤ j → va_up M k x j = M j := fun j hj => va_up_ne _ _ (by omega)
  have h3 : va_up M k x i = M i := va_up_ne _ _ h
  by_cases h11 : qk i = 11
  · rw [cel_11 h11, cel_11 h11]
    have e : (fun j => va_up M k x (i + j)) = fun j => M (i + j) := by
      funext j
      have := (qk_one hi).2.2 h11
      by_cases hj : j = 0
      · subst hj; exact h3
      · exact h2 _ (by omega)
    rw [e]
  · have hh : qk i < 12 := (show ∀ i, i < 68 → qk i < 12 by decide +kernel) i hi
    rcases (show qk i = 0 ∨ qk i = 1 ∨ qk i = 2 ∨ qk i = 3 ∨ qk i = 4 ∨ qk i = 5 ∨ qk i = 6 ∨ qk i = 7 ∨ qk i = 8 ∨ qk i = 9 ∨ qk i = 10 by omega) with q | q | q | q | q | q | q | q | q | q | q
    · rw [cel_0 q, cel_0 q]
    · rw [cel_1 q, cel_1 q, h3]
    · rw [cel_2 q, cel_2 q]
    · rw [cel_3 q, cel_3 q]
    · rw [cel_4 q, cel_4 q]
    · rw [cel_5 q, cel_5 q]
    · rw [cel_6 q, cel_6 q, h3]
    · rw [cel_7 q, cel_7 q]
    · rw [cel_8 q, cel_8 q]
    · rw [cel_9 q, cel_9 q]
    · rw [cel_10 q, cel_10 q]
theorem wd_setM {ca : Nat → ClassId} {ad : Nat → Nat} {S : QS} {k : Nat} {x : Int64} {e : va_E} (hk : k < 68) (he : cel ca ad k (S.1 k) (va_up S.2 k x) = e) : (wd ca ad S).set k (ad k, e) = wd ca ad (S.1, va_up S.2 k x) := by
  apply List.ext_getElem?
  intro i
  subst he
  by_cases h : i = k
  · subst h
    rw [List.getElem?_set_self (by rw [wd_len]; exact hk), wd_at hk]
  · rw [List.getElem?_set_ne (Ne.symm h)]
    rcases Nat.lt_or_ge i 68 with q | q
    · rw [wd_at q, wd_at q, cel_M q hk h]
    · rw [List.getElem?_eq_none (by rw [wd_len]; exact q), List.getElem?_eq_none (by rw [wd_len]; exact q)]
/-! the pure steps -/
def rdA (k n : Nat) (i : Int32) (S : QS) : Option Int32 := if ¬ (i < 0 ∨ n ≤ i.toNatClampNeg) then some (S.1 k i.toNatClampNeg) else none
def setF (k j : Nat) (x : Int32) (S : QS) : QS := (va_up S.1 k (upd (S.1 k) j x), S.2)
def setL (k : Nat) (x : Int64) (S : QS) : QS := (S.1, va_up S.2 k x)
def wrA (k n : Nat) (i x : Int32) (S : QS) : Option QS := if ¬ (i < 0 ∨ n ≤ i.toNatClampNeg) then some (setF k i.toNatClampNeg x S) else none
def zb (x : Int32) : Option Int32 := if x = 0 ∨ x = 1 then some x else none
def wrZ (k n : Nat) (i x : Int32) (S : QS) : Option QS := if ¬ (i < 0 ∨ n ≤ i.toNatClampNeg) ∧ (x = 0 ∨ x = 1) then some (setF k i.toNatClampNeg x S) else none
def stF (k j : Nat) (x : Int32) (S : QS) : Option QS := some (setF k j x S)
def stZ (k j : Nat) (x : Int32) (S : QS) : Option QS := if x = 0 ∨ x = 1 then some (setF k j x S) else none
def stL (k : Nat) (x : Int64) (S : QS) : Option QS := some (setL k x S)
def rdQ (b n : Nat) (i : Int32) : Option Nat := if ¬ (i < 0 ∨ n ≤ i.toNatClampNeg) then some (b + i.toNatClampNeg) else none
def dvI (x y : Int32) : Option Int32 := if ¬ y = 0 then some (x / y) else none
def rmI (x y : Int32) : Option Int32 := if ¬ y = 0 then some (x - x / y * y) else none
/-- a call that may throw: what it throws goes on -/
def bx {α β : Type} (o : Option ((String × QS) ⊕ α)) (f : α → Option ((String × QS) ⊕ β)) : Option ((String × QS) ⊕ β) := match o with
  | none => none
  | some (.inl e) => some (.inl e)
  | some (.inr a) => f a
/-- a call that may throw, and what its handlers do -/
def bh {α β : Type} (o : Option ((String × QS) ⊕ α)) (h : String → QS → Option β) (f : α → Option β) : Option β := match o with
  | none => none
  | some (.inl e) => h e.1 e.2
  | some (.inr a) => f a
theorem bd_e {α β : Type} {o : Option α} {f : α → Option β} {y : β} (h : o.bind f = some y) : ∃ x, o = some x ∧ f x = some y := by
  cases o with
  | none => simp at h
  | some x => exact ⟨x, rfl, h⟩
theorem bx_e {α β : Type} {o : Option ((String × QS) ⊕ α)} {f : α → Option ((String × QS) ⊕ β)} {y : (String × QS) ⊕ β} (h : bx o f = some y) : ∃ x, o = some x := by
  cases o with
  | none => simp [bx] at h
  | some x => exact ⟨x, rfl⟩
theorem bx_l {α β : Type} {o : Option ((String × QS) ⊕ α)} {f : α → Option ((String × QS) ⊕ β)} {y : (String × QS) ⊕ β} {x : (String × QS) ⊕ α} {e : String × QS} (h : bx o f = some y) (hx : o = some x) (he : x = .inl e) : .inl e = y := by
  subst hx; subst he
  exact Option.some.inj h
theorem bx_r {α β : Type} {o : Option ((String × QS) ⊕ α)} {f : α → Option ((String × QS) ⊕ β)} {y : (String × QS) ⊕ β} {x : (String × QS) ⊕ α} {a : α} (h : bx o f = some y) (hx : o = some x) (he : x = .inr a) : f a = some y := by
  subst hx; subst he
  exact h
theorem bh_e {α β : Type} {o : Option ((String × QS) ⊕ α)} {g : String → QS → Option β} {f : α → Option β} {y : β} (h : bh o g f = some y) : ∃ x, o = some x := by
  cases o with
  | none => simp [bh] at h
  | some x => exact ⟨x, rfl⟩
theorem bh_l {α β : Type} {o : Option ((String × QS) ⊕ α)} {g : String → QS → Option β} {f : α → Option β} {y : β} {x : (String × QS) ⊕ α} {e : String × QS} (h : bh o g f = some y) (hx : o = some x) (he : x = .inl e) : g e.1 e.2 = some y := by
  subst hx; subst he
  exact h
theorem bh_r {α β : Type} {o : Option ((String × QS) ⊕ α)} {g : String → QS → Option β} {f : α → Option β} {y : β} {x : (String × QS) ⊕ α} {a : α} (h : bh o g f = some y) (hx : o = some x) (he : x = .inr a) : f a = some y := by
  subst hx; subst he
  exact h
theorem if_t {α : Sort _} {c : Prop} [Decidable c] {a b x : α} (h : c) (e : (if c then a else b) = x) : a = x := by rw [if_pos h] at e; exact e
theorem if_f {α : Sort _} {c : Prop} [Decidable c] {a b x : α} (h : ¬ c) (e : (if c then a else b) = x) : b = x := by rw [if_neg h] at e; exact e
theorem q_in {x : Int32} {k n : Nat} {i : Int32} {S : QS} (h : rdA k n i S = some x) : vp_in i n ∧ x = S.1 k i.toNatClampNeg := by
  unfold rdA at h
  by_cases c : ¬ (i < 0 ∨ n ≤ i.toNatClampNeg)
  · rw [if_pos c] at h
    exact ⟨c, (Option.some.inj h).symm⟩
  · rw [if_neg c] at h
    cases h
theorem q_inQ {b n x : Nat} {i : Int32} (h : rdQ b n i = some x) : vp_in i n ∧ i.toNatClampNeg < n ∧ x = b + i.toNatClampNeg := by
  unfold rdQ at h
  by_cases c : ¬ (i < 0 ∨ n ≤ i.toNatClampNeg)
  · rw [if_pos c] at h
    exact ⟨c, Nat.not_le.mp (fun z => c (Or.inr z)), (Option.some.inj h).symm⟩
  · rw [if_neg c] at h
    cases h
theorem q_wr {k n : Nat} {i x : Int32} {S S1 : QS} (h : wrA k n i x S = some S1) : vp_in i n ∧ S1 = setF k i.toNatClampNeg x S := by
  unfold wrA at h
  by_cases c : ¬ (i < 0 ∨ n ≤ i.toNatClampNeg)
  · rw [if_pos c] at h
    exact ⟨c, (Option.some.inj h).symm⟩
  · rw [if_neg c] at h
    cases h
theorem q_wrZ {k n : Nat} {i x : Int32} {S S1 : QS} (h : wrZ k n i x S = some S1) : vp_in i n ∧ vp_nar .boolean x = x ∧ S1 = setF k i.toNatClampNeg x S := by
  unfold wrZ at h
  by_cases c : ¬ (i < 0 ∨ n ≤ i.toNatClampNeg) ∧ (x = 0 ∨ x = 1)
  · rw [if_pos c] at h
    exact ⟨c.1, by rcases c.2 with e | e <;> subst e <;> decide, (Option.some.inj h).symm⟩
  · rw [if_neg c] at h
    cases h
theorem q_zb {x y : Int32} (h : zb x = some y) : (x = 0 ∨ x = 1) ∧ y = x := by
  unfold zb at h
  by_cases c : x = 0 ∨ x = 1
  · rw [if_pos c] at h
    exact ⟨c, (Option.some.inj h).symm⟩
  · rw [if_neg c] at h
    cases h
theorem q_stZ {k j : Nat} {x : Int32} {S S1 : QS} (h : stZ k j x S = some S1) : (x = 0 ∨ x = 1) ∧ S1 = setF k j x S := by
  unfold stZ at h
  by_cases c : x = 0 ∨ x = 1
  · rw [if_pos c] at h
    exact ⟨c, (Option.some.inj h).symm⟩
  · rw [if_neg c] at h
    cases h
theorem q_dv {x y z : Int32} (h : dvI x y = some z) : ¬ y = 0 ∧ z = x / y := by
  unfold dvI at h
  by_cases c : ¬ y = 0
  · rw [if_pos c] at h
    exact ⟨c, (Option.some.inj h).symm⟩
  · rw [if_neg c] at h
    cases h
theorem q_rm {x y z : Int32} (h : rmI x y = some z) : ¬ y = 0 ∧ z = x - x / y * y := by
  unfold rmI at h
  by_cases c : ¬ y = 0
  · rw [if_pos c] at h
    exact ⟨c, (Option.some.inj h).symm⟩
  · rw [if_neg c] at h
    cases h
theorem q_nz {x : Int32} (h : x = 0 ∨ x = 1) : narrow .boolean (.int x) = .int x := by
  rcases h with e | e <;> subst e <;> rfl
theorem q_fz {x : Int32} (h : x = 0 ∨ x = 1) : fits .boolean (.int x) = true := by
  rcases h with e | e <;> subst e <;> rfl
end
section
/-! ROWS over the picture: fields, rows of ints and bits, calls, ends -/
abbrev tys (ca : Nat → ClassId) : List (ClassId × FieldType) := [(ca 0, .int), (ca 1, .boolean), (ca 2, .object "CrashDesk$Skid"), (ca 3, .object "CrashDesk$Tale"), (ca 4, .long)]
def qnest : List Cond := [.fieldLinkNest RX1 83 "CrashDesk$Speed" "prices" "[I" "CrashDesk", .fieldLinkNest RX1 93 "CrashDesk$Speed" "seen" "[Z" "CrashDesk", .fieldLinkNest RX1 87 "CrashDesk$Car" "firstCounts" "[I" "CrashDesk", .methodLinkNest RX0 109 yX5_cheaper "CrashDesk", .methodLinkNest RX1 90 yX5_cheaper "CrashDesk", .methodLinkNest RX5 30 yX1_init "CrashDesk", .methodLinkNest RX1 11 yX0_init "CrashDesk", .methodLinkNest RX0 17 yX3_init "CrashDesk", .methodLinkNest RX5 45 yX2_init "CrashDesk", .methodLinkNest RX5 46 yX4_init "CrashDesk"]
def NN (U : State) : Prop := ∀ w ∈ qnest, va_Nw w U
theorem NN.warm {s U : State} (hW : s.WarmedH U.vm) (h : NN s) : NN U := by
  intro w hw
  have h1 := h w hw
  simp only [qnest, List.mem_cons, List.not_mem_nil, or_false] at hw
  rcases hw with rfl | rfl | rfl | rfl | rfl | rfl | rfl | rfl | rfl | rfl
  · exact va_Nw.warmF hW h1
  · exact va_Nw.warmF hW h1
  · exact va_Nw.warmF hW h1
  · exact va_Nw.warmM hW h1
  · exact va_Nw.warmM hW h1
  · exact va_Nw.warmM hW h1
  · exact va_Nw.warmM hW h1
  · exact va_Nw.warmM hW h1
  · exact va_Nw.warmM hW h1
  · exact va_Nw.warmM hW h1
theorem NN.same {s U : State} (hv : s.vm = U.vm) (h : NN s) : NN U := by
  intro w hw
  have h1 := h w hw
  simp only [qnest, List.mem_cons, List.not_mem_nil, or_false] at hw
  rcases hw with rfl | rfl | rfl | rfl | rfl | rfl | rfl | rfl | rfl | rfl
  all_goals exact va_Nw.same rfl hv h1
def KK (D : va_G) (ca : Nat → ClassId) (U : State) : Prop := va_K D vwCl (tys ca) U ∧ NN U
theorem KK.warm {D : va_G} {ca : Nat → ClassId} {s U : State} (hW : s.WarmedH U.vm) (h : KK D ca s) : KK D ca U := ⟨va_K.moved hW.alike h.1, h.2.warm hW⟩
theorem KK.call {D : va_G} {ca : Nat → ClassId} {U : State} {g : JFrame} {mk : MethodId} {a : Array Value} (h : KK D ca U) : KK D ca (U.calling g mk a) := ⟨va_K.moved (u := U) (U := U.calling g mk a) (Vm.Alike.refl U.vm) h.1, NN.same (s := U) (U := U.calling g mk a) rfl h.2⟩
/-- a method's start -/
def Pre (D : va_G) (ca : Nat → ClassId) (ad : Nat → Nat) (S : QS) (sz : Nat) (U : State) : Prop := U.heap.size = sz ∧ va_P D vwCl (wd ca ad S) U.heap ∧ KK D ca U
def Bt (D : va_G) (ca : Nat → ClassId) (ad : Nat → Nat) (S : QS) (t : State) : Prop := va_P D vwCl (wd ca ad S) t.heap
theorem Pre.blind {D : va_G} {ca : Nat → ClassId} {ad : Nat → Nat} {S : QS} {sz : Nat} {As : List Value} : FrameBlind (va_Pc As (Pre D ca ad S sz)) := fun _ _ _ _ q => ⟨q.1, q.2.1, q.2.2.1, q.2.2.2.call⟩
/-- contracts: what a method answers, and the state behind it -/
abbrev Cv (l : Launch) (D : va_G) (ca : Nat → ClassId) (ad : Nat → Nat) (y : MethodName) (ws : List Cond) (rm : Room) (As : List Value) (S S1 : QS) : Prop := ∀ sz, Met l y ws rm (va_Pc As (Pre D ca ad S sz)) (va_Qv (fun u : QS => u = S1) (Bt D ca ad) (Aq ad sz)) 0 0 (Aq ad sz)
abbrev Ci (l : Launch) (D : va_G) (ca : Nat → ClassId) (ad : Nat → Nat) (y : MethodName) (ws : List Cond) (rm : Room) (As : List Value) (S : QS) (x : Int32) (S1 : QS) : Prop := ∀ sz, Met l y ws rm (va_Pc As (Pre D ca ad S sz)) (va_Qi (fun (r : Int32) (u : QS) => r = x ∧ u = S1) (Bt D ca ad) (Aq ad sz)) 0 0 (Aq ad sz)
abbrev Cl (l : Launch) (D : va_G) (ca : Nat → ClassId) (ad : Nat → Nat) (y : MethodName) (ws : List Cond) (rm : Room) (As : List Value) (S : QS) (x : Int64) (S1 : QS) : Prop := ∀ sz, Met l y ws rm (va_Pc As (Pre D ca ad S sz)) (va_Ql (fun (r : Int64) (u : QS) => r = x ∧ u = S1) (Bt D ca ad) (Aq ad sz)) 0 0 (Aq ad sz)
abbrev Cr (l : Launch) (D : va_G) (ca : Nat → ClassId) (ad : Nat → Nat) (y : MethodName) (ws : List Cond) (rm : Room) (As : List Value) (S : QS) (x : Nat) (S1 : QS) : Prop := ∀ sz, Met l y ws rm (va_Pc As (Pre D ca ad S sz)) (va_Qr (fun u : QS => u = S1) (fun u a t => a = ad x ∧ Bt D ca ad u t) (Aq ad sz)) 0 0 (Aq ad sz)
section
variable {p : Program} {l : Launch} {e : Env} {R : Room} {s : State} {m : MethodId} {args : Array Value} {below : List Frame} {meth : Method} {c : Code} {H : Heap} {locs : List Loc} {cells slots : Nat} {Q : State → Prop} {cc : ByteArray} {pc : Nat} {ls : Array Slot} {rest : List Value} {D : va_G} {ca : Nat → ClassId} {ad : Nat → Nat} {S S1 : QS} {own : String} {index : Nat}
theorem hFree {q : Nat} (hS : va_S (Aq ad s.heap.size) s.heap H locs) : Aq ad H.size q → Aq ad s.heap.size q := Aq_mono hS.1 q
theorem r_recv (hKK : KK D ca s) (hP : va_P D vwCl (wd ca ad S) H) {b ci : Nat} {q : vw_C} (hk : qk b = ci) (hc : vwCl[ci]? = some q) : ∃ cell : Cell, H[ad b]? = some cell ∧ cell.vm.isStatics = false ∧ s.vm.findClass q.1 = some cell.cls := by
  have h7 : ci < 7 := (List.getElem?_eq_some_iff.mp hc).1
  obtain ⟨fs, hf⟩ := cel_ob (ca := ca) (ad := ad) (k := b) (r := S.1 b) (M := S.2) (by omega)
  rw [hk] at hf
  exact va_recv hKK.1 hP (ci := ci) (q0 := b) hc ((wd_at (qk_lt hk (by omega))).trans (by rw [hf]))
theorem r_iald (hx : p.tables.exec = Jvm.exec) (hb : c.code = cc) (hKK : KK D ca s) (hP : va_P D vwCl (wd ca ad S) H) {k n : Nat} {i x : Int32} (hk : qk k = 7) (hn : qn k = n) (h : rdA k n i S = some x) (hdg : decode cc pc = .ok (.iaload, 1)) (kk : W p l e R s m args below meth c H locs cells slots Q (F0 m (pc + 1) ls (.int x :: rest))) : W p l e R s m args below meth c H locs cells slots Q (F0 m pc ls (.int i :: .ref (ad k) :: rest)) := by
  obtain ⟨h1, rfl⟩ := q_in h
  subst hn
  exact va_iald (D := D) hx hb hKK.1 hP k 0 ((wd_at (qk_lt hk (by decide))).trans (by rw [cel_7 hk])) rfl h1 hdg kk
theorem r_zald (hx : p.tables.exec = Jvm.exec) (hb : c.code = cc) (hKK : KK D ca s) (hP : va_P D vwCl (wd ca ad S) H) {k n : Nat} {i x : Int32} (hk : qk k = 8) (hn : qn k = n) (h : rdA k n i S = some x) (hdg : decode cc pc = .ok (.baload, 1)) (kk : W p l e R s m args below meth c H locs cells slots Q (F0 m (pc + 1) ls (.int x :: rest))) : W p l e R s m args below meth c H locs cells slots Q (F0 m pc ls (.int i :: .ref (ad k) :: rest)) := by
  obtain ⟨h1, rfl⟩ := q_in h
  subst hn
  exact va_zald (D := D) hx hb hKK.1 hP k 1 ((wd_at (qk_lt hk (by decide))).trans (by rw [cel_8 hk])) rfl h1 hdg kk
theorem r_sald (hx : p.tables.exec = Jvm.exec) (hb : c.code = cc) (hKK : KK D ca s) (hP : va_P D vwCl (wd ca ad S) H) {i : Int32} {x : Nat} (h : rdQ 2 12 i = some x) (hdg : decode cc pc = .ok (.aaload, 1)) (kk : qk x = 2 → W p l e R s m args below meth c H locs cells slots Q (F0 m (pc + 1) ls (.ref (ad x) :: rest))) : W p l e R s m args below meth c H locs cells slots Q (F0 m pc ls (.int i :: .ref (ad 1) :: rest)) := by
  obtain ⟨h1, h2, rfl⟩ := q_inQ h
  exact va_aldq (D := D) (n := 12) (f := fun j => some (ad (2 + j))) hx hb hKK.1 hP 1 2 ((wd_at (by decide)).trans (by rw [cel_9 (by decide)]; rfl)) rfl h1 hdg (kk (q_skid h2))
theorem r_tald (hx : p.tables.exec = Jvm.exec) (hb : c.code = cc) (hKK : KK D ca s) (hP : va_P D vwCl (wd ca ad S) H) {i : Int32} {x : Nat} (h : rdQ 15 10 i = some x) (hdg : decode cc pc = .ok (.aaload, 1)) (kk : qk x = 4 → W p l e R s m args below meth c H locs cells slots Q (F0 m (pc + 1) ls (.ref (ad x) :: rest))) : W p l e R s m args below meth c H locs cells slots Q (F0 m pc ls (.int i :: .ref (ad 14) :: rest)) := by
  obtain ⟨h1, h2, rfl⟩ := q_inQ h
  exact va_aldq (D := D) (n := 10) (f := fun j => some (ad (15 + j))) hx hb hKK.1 hP 14 3 ((wd_at (by decide)).trans (by rw [cel_10 (by decide)]; rfl)) rfl h1 hdg (kk (q_tale h2))
theorem r_iast (hx : p.tables.exec = Jvm.exec) (hb : c.code = cc) (hj : Inj ad) (hKK : KK D ca s) (hP : va_P D vwCl (wd ca ad S) H) (hS : va_S (Aq ad s.heap.size) s.heap H locs) {k n : Nat} {i x : Int32} (hk : qk k = 7) (hn : qn k = n) (h : wrA k n i x S = some S1) (hdg : decode cc pc = .ok (.iastore, 1)) (kk : ∀ (H1 : Heap) (locs1 : List Loc), va_P D vwCl (wd ca ad S1) H1 → va_S (Aq ad s.heap.size) s.heap H1 locs1 → W p l e R s m args below meth c H1 locs1 cells slots Q (F0 m (pc + 1) ls rest)) : W p l e R s m args below meth c H locs cells slots Q (F0 m pc ls (.int x :: .int i :: .ref (ad k) :: rest)) := by
  obtain ⟨h1, rfl⟩ := q_wr h
  subst hn
  have h68 : k < 68 := qk_lt hk (by decide)
  refine va_iast (D := D) hx hb hKK.1 hP (wd_D hj) hS k 0 ((wd_at h68).trans (by rw [cel_7 hk])) rfl h1 hdg (fun H1 locs1 hP1 _ hS1 => kk H1 locs1 ?_ hS1)
  have e := wd_setV (ca := ca) (ad := ad) (S := S) (k := k) (r := upd (S.1 k) i.toNatClampNeg x) h68 (cel_7 hk)
  show va_P D vwCl (wd ca ad (va_up S.1 k (upd (S.1 k) i.toNatClampNeg x), S.2)) H1
  rw [← e]
  exact hP1
theorem r_zast (hx : p.tables.exec = Jvm.exec) (hb : c.code = cc) (hj : Inj ad) (hKK : KK D ca s) (hP : va_P D vwCl (wd ca ad S) H) (hS : va_S (Aq ad s.heap.size) s.heap H locs) {k n : Nat} {i x : Int32} (hk : qk k = 8) (hn : qn k = n) (h : wrZ k n i x S = some S1) (hdg : decode cc pc = .ok (.bastore, 1)) (kk : ∀ (H1 : Heap) (locs1 : List Loc), va_P D vwCl (wd ca ad S1) H1 → va_S (Aq ad s.heap.size) s.heap H1 locs1 → W p l e R s m args below meth c H1 locs1 cells slots Q (F0 m (pc + 1) ls rest)) : W p l e R s m args below meth c H locs cells slots Q (F0 m pc ls (.int x :: .int i :: .ref (ad k) :: rest)) := by
  obtain ⟨h1, hv, rfl⟩ := q_wrZ h
  subst hn
  have h68 : k < 68 := qk_lt hk (by decide)
  refine va_zast (D := D) hx hb hKK.1 hP (wd_D hj) hS k 1 ((wd_at h68).trans (by rw [cel_8 hk])) rfl h1 hdg (fun H1 locs1 hP1 _ hS1 => kk H1 locs1 ?_ hS1)
  have e := wd_setV (ca := ca) (ad := ad) (S := S) (k := k) (r := upd (S.1 k) i.toNatClampNeg x) h68 (cel_8 hk)
  show va_P D vwCl (wd ca ad (va_up S.1 k (upd (S.1 k) i.toNatClampNeg x), S.2)) H1
  rw [← e]
  rw [hv] at hP1
  exact hP1
theorem r_lald (hx : p.tables.exec = Jvm.exec) (hb : c.code = cc) (hKK : KK D ca s) (hP : va_P D vwCl (wd ca ad S) H) (hdg : decode cc pc = .ok (.laload, 1)) (kk : W p l e R s m args below meth c H locs cells slots Q (F0 m (pc + 1) ls (.long (S.2 67) :: rest))) : W p l e R s m args below meth c H locs cells slots Q (F0 m pc ls (.int 0 :: .ref (ad 67) :: rest)) :=
  va_lald (D := D) (f := fun j => S.2 (67 + j)) hx hb hKK.1 hP 67 4 ((wd_at (by decide)).trans (by rw [cel_11 (by decide)])) rfl (show vp_in 0 (qn 67) by unfold vp_in; decide) hdg kk
theorem r_last (hx : p.tables.exec = Jvm.exec) (hb : c.code = cc) (hj : Inj ad) (hKK : KK D ca s) (hP : va_P D vwCl (wd ca ad S) H) (hS : va_S (Aq ad s.heap.size) s.heap H locs) {x : Int64} (hdg : decode cc pc = .ok (.lastore, 1)) (kk : ∀ (H1 : Heap) (locs1 : List Loc), va_P D vwCl (wd ca ad (setL 67 x S)) H1 → va_S (Aq ad s.heap.size) s.heap H1 locs1 → W p l e R s m args below meth c H1 locs1 cells slots Q (F0 m (pc + 1) ls rest)) : W p l e R s m args below meth c H locs cells slots Q (F0 m pc ls (.long x :: .int 0 :: .ref (ad 67) :: rest)) := by
  refine va_last (D := D) (f := fun j => S.2 (67 + j)) hx hb hKK.1 hP (wd_D hj) hS 67 4 ((wd_at (by decide)).trans (by rw [cel_11 (by decide)])) rfl (show vp_in 0 (qn 67) by unfold vp_in; decide) hdg (fun H1 locs1 hP1 _ hS1 => kk H1 locs1 ?_ hS1)
  have e := wd_setM (ca := ca) (ad := ad) (S := S) (k := 67) (x := x) (by decide) (cel_11 (by decide))
  show va_P D vwCl (wd ca ad (S.1, va_up S.2 67 x)) H1
  rw [← e]
  have e2 : (fun j => va_up S.2 67 x (67 + j)) = vp_updL (fun j => S.2 (67 + j)) (0 : Int32).toNatClampNeg x := by
    funext j
    simp only [va_up, vp_updL, show (0 : Int32).toNatClampNeg = 0 from rfl]
    by_cases h : j = 0
    · subst h; simp
    · rw [if_neg (by omega), if_neg h]
  rw [e2]
  exact hP1
/-! ends -/
theorem r_vret (hx : p.tables.exec = Jvm.exec) (hb : c.code = cc) (hr : meth.sig.returnType = none) (hP : va_P D vwCl (wd ca ad S) H) (hS : va_S (Aq ad s.heap.size) s.heap H locs) (hdg : decode cc pc = .ok (.return_, 1)) (hlocks : meth.locks = false) : W p l e R s m args below meth c H locs cells slots (MQ below (va_Qv (fun u : QS => u = S) (Bt D ca ad) (Aq ad s.heap.size)) args s cells slots (Aq ad s.heap.size)) (F0 m pc ls []) :=
  W.vret hx hb hr (fun t ht hW => ⟨⟨S, rfl, rfl, by unfold Bt; rw [ht]; exact hP⟩, hS.F ht⟩) hS.2.2 hdg hlocks
theorem r_iret (hx : p.tables.exec = Jvm.exec) (hb : c.code = cc) (hr : meth.sig.returnType = some .int) (hP : va_P D vwCl (wd ca ad S) H) (hS : va_S (Aq ad s.heap.size) s.heap H locs) {x : Int32} (hdg : decode cc pc = .ok (.ireturn, 1)) (hlocks : meth.locks = false) : W p l e R s m args below meth c H locs cells slots (MQ below (va_Qi (fun (r : Int32) (u : QS) => r = x ∧ u = S) (Bt D ca ad) (Aq ad s.heap.size)) args s cells slots (Aq ad s.heap.size)) (F0 m pc ls [.int x]) :=
  W.iret hx hb hr (fun t ht hW => ⟨⟨x, S, rfl, ⟨rfl, rfl⟩, by unfold Bt; rw [ht]; exact hP⟩, hS.F ht⟩) hS.2.2 hdg hlocks
theorem r_zret (hx : p.tables.exec = Jvm.exec) (hb : c.code = cc) (hr : meth.sig.returnType = some .boolean) (hP : va_P D vwCl (wd ca ad S) H) (hS : va_S (Aq ad s.heap.size) s.heap H locs) {x : Int32} (hz : x = 0 ∨ x = 1) (hdg : decode cc pc = .ok (.ireturn, 1)) (hlocks : meth.locks = false) : W p l e R s m args below meth c H locs cells slots (MQ below (va_Qi (fun (r : Int32) (u : QS) => r = x ∧ u = S) (Bt D ca ad) (Aq ad s.heap.size)) args s cells slots (Aq ad s.heap.size)) (F0 m pc ls [.int x]) :=
  W.zret hx hb hr (q_nz hz) (fun t ht hW => ⟨⟨x, S, rfl, ⟨rfl, rfl⟩, by unfold Bt; rw [ht]; exact hP⟩, hS.F ht⟩) hS.2.2 hdg hlocks
theorem r_lret (hx : p.tables.exec = Jvm.exec) (hb : c.code = cc) (hr : meth.sig.returnType = some .long) (hP : va_P D vwCl (wd ca ad S) H) (hS : va_S (Aq ad s.heap.size) s.heap H locs) {x : Int64} (hdg : decode cc pc = .ok (.lreturn, 1)) (hlocks : meth.locks = false) : W p l e R s m args below meth c H locs cells slots (MQ below (va_Ql (fun (r : Int64) (u : QS) => r = x ∧ u = S) (Bt D ca ad) (Aq ad s.heap.size)) args s cells slots (Aq ad s.heap.size)) (F0 m pc ls [.long x]) :=
  W.lret hx hb hr (fun t ht hW => ⟨⟨x, S, rfl, ⟨rfl, rfl⟩, by unfold Bt; rw [ht]; exact hP⟩, hS.F ht⟩) hS.2.2 hdg hlocks
theorem r_aret (hx : p.tables.exec = Jvm.exec) (hb : c.code = cc) {C : String} (hr : meth.sig.returnType = some (.object C)) (hP : va_P D vwCl (wd ca ad S) H) (hS : va_S (Aq ad s.heap.size) s.heap H locs) {x : Nat} (hdg : decode cc pc = .ok (.areturn, 1)) (hlocks : meth.locks = false) : W p l e R s m args below meth c H locs cells slots (MQ below (va_Qr (fun u : QS => u = S) (fun u a t => a = ad x ∧ Bt D ca ad u t) (Aq ad s.heap.size)) args s cells slots (Aq ad s.heap.size)) (F0 m pc ls [.ref (ad x)]) :=
  W.aret hx hb hr (Or.inl ⟨C, rfl⟩) (Or.inr ⟨_, rfl⟩) (fun t ht hW => ⟨⟨S, ad x, rfl, rfl, rfl, by unfold Bt; rw [ht]; exact hP⟩, hS.F ht⟩) hS.2.2 hdg hlocks
/-! calls, by what runs them -/
theorem r_pre (hKK : KK D ca s) (hP : va_P D vwCl (wd ca ad S) H) {As : List Value} : PreS s H (va_Pc As (Pre D ca ad S H.size)) As := ⟨Pre.blind, fun U hU hW => ⟨rfl, by rw [hU], by rw [hU]; exact hP, hKK.warm hW⟩⟩
theorem r_preV (hKK : KK D ca s) (hP : va_P D vwCl (wd ca ad S) H) {As : List Value} {b ci : Nat} {q : vw_C} (hk : qk b = ci) (hc : vwCl[ci]? = some q) : PreV s H q.1 (ad b) (va_Pc (.ref (ad b) :: As) (Pre D ca ad S H.size)) As := ⟨Pre.blind, r_recv hKK hP hk hc, fun U hU hW => ⟨rfl, by rw [hU], by rw [hU]; exact hP, hKK.warm hW⟩⟩
variable {a : Array Value} {st0 : List Value}
theorem r_cv (hS : va_S (Aq ad s.heap.size) s.heap H locs) (hr : va_Run p l e R s m args below meth c H locs cells slots 0 0 (F0 m pc ls st0) rest (va_Qv (fun u : QS => u = S1) (Bt D ca ad) (Aq ad H.size) a) (Aq ad H.size)) (kk : ∀ (H1 : Heap) (locs1 : List Loc), va_P D vwCl (wd ca ad S1) H1 → va_S (Aq ad s.heap.size) s.heap H1 locs1 → W p l e R s m args below meth c H1 locs1 cells slots Q (F0 m (pc + 3) ls rest)) : W p l e R s m args below meth c H locs cells slots Q (F0 m pc ls st0) := by
  refine va_callv hr hS (fun q _ h => hFree hS h) (fun q h => hFree hS h) (fun u t H1 locs1 ht _ hu hB _ _ hS1 => ?_)
  subst hu
  subst ht
  exact kk _ _ hB hS1
theorem r_ci (hS : va_S (Aq ad s.heap.size) s.heap H locs) {x : Int32} (hr : va_Run p l e R s m args below meth c H locs cells slots 0 0 (F0 m pc ls st0) rest (va_Qi (fun (r : Int32) (u : QS) => r = x ∧ u = S1) (Bt D ca ad) (Aq ad H.size) a) (Aq ad H.size)) (kk : ∀ (H1 : Heap) (locs1 : List Loc), va_P D vwCl (wd ca ad S1) H1 → va_S (Aq ad s.heap.size) s.heap H1 locs1 → W p l e R s m args below meth c H1 locs1 cells slots Q (F0 m (pc + 3) ls (.int x :: rest))) : W p l e R s m args below meth c H locs cells slots Q (F0 m pc ls st0) := by
  refine va_calli hr hS (fun q _ h => hFree hS h) (fun q h => hFree hS h) (fun r u t H1 locs1 ht _ hu hB _ _ hS1 => ?_)
  obtain ⟨rfl, rfl⟩ := hu
  subst ht
  exact kk _ _ hB hS1
theorem r_cl (hS : va_S (Aq ad s.heap.size) s.heap H locs) {x : Int64} (hr : va_Run p l e R s m args below meth c H locs cells slots 0 0 (F0 m pc ls st0) rest (va_Ql (fun (r : Int64) (u : QS) => r = x ∧ u = S1) (Bt D ca ad) (Aq ad H.size) a) (Aq ad H.size)) (kk : ∀ (H1 : Heap) (locs1 : List Loc), va_P D vwCl (wd ca ad S1) H1 → va_S (Aq ad s.heap.size) s.heap H1 locs1 → W p l e R s m args below meth c H1 locs1 cells slots Q (F0 m (pc + 3) ls (.long x :: rest))) : W p l e R s m args below meth c H locs cells slots Q (F0 m pc ls st0) := by
  refine va_calll hr hS (fun q _ h => hFree hS h) (fun q h => hFree hS h) (fun r u t H1 locs1 ht _ hu hB _ _ hS1 => ?_)
  obtain ⟨rfl, rfl⟩ := hu
  subst ht
  exact kk _ _ hB hS1
theorem r_cr (hS : va_S (Aq ad s.heap.size) s.heap H locs) {x : Nat} (hr : va_Run p l e R s m args below meth c H locs cells slots 0 0 (F0 m pc ls st0) rest (va_Qr (fun u : QS => u = S1) (fun u a t => a = ad x ∧ Bt D ca ad u t) (Aq ad H.size) a) (Aq ad H.size)) (kk : ∀ (H1 : Heap) (locs1 : List Loc), va_P D vwCl (wd ca ad S1) H1 → va_S (Aq ad s.heap.size) s.heap H1 locs1 → W p l e R s m args below meth c H1 locs1 cells slots Q (F0 m (pc + 3) ls (.ref (ad x) :: rest))) : W p l e R s m args below meth c H locs cells slots Q (F0 m pc ls st0) := by
  refine va_callr hr hS (fun q _ h => hFree hS h) (fun q h => hFree hS h) (fun u ra t H1 locs1 ht _ hu hB _ _ hS1 => ?_)
  obtain ⟨h1, h2⟩ := hB
  subst hu
  subst h1
  subst ht
  exact kk _ _ h2 hS1
theorem g_X0_mass (hx : p.tables.exec = Jvm.exec) (hb : c.code = cc) (hX : ∀ w ∈ wsX00, w.before args s = true) (hown : s.vm.findClass own = some m.cls) (hKK : KK D ca s) (hP : va_P D vwCl (wd ca ad S) H) {k : Nat} (hk : qk k = 0) (hl : (Cond.fieldLink own index "CrashDesk$Car" "mass" "I").before args s = true) (hdg : decode cc pc = .ok (.getfield index, 3)) (kk : W p l e R s m args below meth c H locs cells slots Q (F0 m (pc + 3) ls (.int (S.1 k 0) :: rest))) : W p l e R s m args below meth c H locs cells slots Q (F0 m pc ls (.ref (ad k) :: rest)) :=
  va_get (D := D) (ci := 0) (C := RX0) (T := TX0) (N := 10) hx hb hX (fun _ h => h) hown hKK.1 hP k ((wd_at (qk_lt hk (by decide))).trans (by rw [cel_0 hk])) rfl 0 (by decide) hl (fun _ h => h) rfl hdg kk
theorem p_X0_mass (hx : p.tables.exec = Jvm.exec) (hb : c.code = cc) (hX : ∀ w ∈ wsX00, w.before args s = true) (hown : s.vm.findClass own = some m.cls) (hj : Inj ad) (hKK : KK D ca s) (hP : va_P D vwCl (wd ca ad S) H) (hS : va_S (Aq ad s.heap.size) s.heap H locs) {k : Nat} {x : Int32} (hk : qk k = 0) (hl : (Cond.fieldLink own index "CrashDesk$Car" "mass" "I").before args s = true) (hdg : decode cc pc = .ok (.putfield index, 3)) (kk : ∀ (H1 : Heap) (locs1 : List Loc), va_P D vwCl (wd ca ad (setF k 0 x S)) H1 → va_S (Aq ad s.heap.size) s.heap H1 locs1 → W p l e R s m args below meth c H1 locs1 cells slots Q (F0 m (pc + 3) ls rest)) : W p l e R s m args below meth c H locs cells slots Q (F0 m pc ls (.int x :: .ref (ad k) :: rest)) := by
  have h68 : k < 68 := qk_lt hk (by decide)
  refine va_put (D := D) (ci := 0) (C := RX0) (T := TX0) (N := 10) (ty := .int) hx hb hX (fun _ h => h) tyX0 tyX0_ok nmX0 hown hKK.1 hP (wd_D hj) hS k ((wd_at h68).trans (by rw [cel_0 hk])) rfl 0 (by decide) hl (fun _ h => h) rfl (by decide +kernel) rfl rfl (Nat.le_of_ble_eq_true rfl) hdg (fun H1 locs1 hP1 _ hS1 => kk H1 locs1 ?_ hS1)
  have e := wd_setV (ca := ca) (ad := ad) (S := S) (k := k) (r := upd (S.1 k) 0 x) h68 (cel_0 hk)
  show va_P D vwCl (wd ca ad (va_up S.1 k (upd (S.1 k) 0 x), S.2)) H1
  rw [← e]
  exact hP1
theorem g_X0_first (hx : p.tables.exec = Jvm.exec) (hb : c.code = cc) (hX : ∀ w ∈ wsX00, w.before args s = true) (hown : s.vm.findClass own = some m.cls) (hKK : KK D ca s) (hP : va_P D vwCl (wd ca ad S) H) {k : Nat} (hk : qk k = 0) (hl : (Cond.fieldLink own index "CrashDesk$Car" "first" "LCrashDesk$Speed;").before args s = true) (hdg : decode cc pc = .ok (.getfield index, 3)) (kk : W p l e R s m args below meth c H locs cells slots Q (F0 m (pc + 3) ls (.ref (ad (k + 1)) :: rest))) : W p l e R s m args below meth c H locs cells slots Q (F0 m pc ls (.ref (ad k) :: rest)) :=
  va_get (D := D) (ci := 0) (C := RX0) (T := TX0) (N := 10) hx hb hX (fun _ h => h) hown hKK.1 hP k ((wd_at (qk_lt hk (by decide))).trans (by rw [cel_0 hk])) rfl 1 (by decide) hl (fun _ h => h) rfl hdg kk
theorem g_X0_at (hx : p.tables.exec = Jvm.exec) (hb : c.code = cc) (hX : ∀ w ∈ wsX00, w.before args s = true) (hown : s.vm.findClass own = some m.cls) (hKK : KK D ca s) (hP : va_P D vwCl (wd ca ad S) H) {k : Nat} (hk : qk k = 0) (hl : (Cond.fieldLink own index "CrashDesk$Car" "at" "LCrashDesk$Speed;").before args s = true) (hdg : decode cc pc = .ok (.getfield index, 3)) (kk : W p l e R s m args below meth c H locs cells slots Q (F0 m (pc + 3) ls (.ref (ad (k + 4)) :: rest))) : W p l e R s m args below meth c H locs cells slots Q (F0 m pc ls (.ref (ad k) :: rest)) :=
  va_get (D := D) (ci := 0) (C := RX0) (T := TX0) (N := 10) hx hb hX (fun _ h => h) hown hKK.1 hP k ((wd_at (qk_lt hk (by decide))).trans (by rw [cel_0 hk])) rfl 2 (by decide) hl (fun _ h => h) rfl hdg kk
theorem g_X0_after (hx : p.tables.exec = Jvm.exec) (hb : c.code = cc) (hX : ∀ w ∈ wsX00, w.before args s = true) (hown : s.vm.findClass own = some m.cls) (hKK : KK D ca s) (hP : va_P D vwCl (wd ca ad S) H) {k : Nat} (hk : qk k = 0) (hl : (Cond.fieldLink own index "CrashDesk$Car" "after" "LCrashDesk$Speed;").before args s = true) (hdg : decode cc pc = .ok (.getfield index, 3)) (kk : W p l e R s m args below meth c H locs cells slots Q (F0 m (pc + 3) ls (.ref (ad (k + 7)) :: rest))) : W p l e R s m args below meth c H locs cells slots Q (F0 m pc ls (.ref (ad k) :: rest)) :=
  va_get (D := D) (ci := 0) (C := RX0) (T := TX0) (N := 10) hx hb hX (fun _ h => h) hown hKK.1 hP k ((wd_at (qk_lt hk (by decide))).trans (by rw [cel_0 hk])) rfl 3 (by decide) hl (fun _ h => h) rfl hdg kk
theorem g_X0_firstCounts (hx : p.tables.exec = Jvm.exec) (hb : c.code = cc) (hX : ∀ w ∈ wsX00, w.before args s = true) (hown : s.vm.findClass own = some m.cls) (hKK : KK D ca s) (hP : va_P D vwCl (wd ca ad S) H) {k : Nat} (hk : qk k = 0) (hl : (Cond.fieldLink own index "CrashDesk$Car" "firstCounts" "[I").before args s = true) (hdg : decode cc pc = .ok (.getfield index, 3)) (kk : W p l e R s m args below meth c H locs cells slots Q (F0 m (pc + 3) ls (.ref (ad (k + 10)) :: rest))) : W p l e R s m args below meth c H locs cells slots Q (F0 m pc ls (.ref (ad k) :: rest)) :=
  va_get (D := D) (ci := 0) (C := RX0) (T := TX0) (N := 10) hx hb hX (fun _ h => h) hown hKK.1 hP k ((wd_at (qk_lt hk (by decide))).trans (by rw [cel_0 hk])) rfl 4 (by decide) hl (fun _ h => h) rfl hdg kk
theorem gN_X0_firstCounts (hx : p.tables.exec = Jvm.exec) (hb : c.code = cc) (hX : ∀ w ∈ wsX00, w.before args s = true) (hown : s.vm.findClass own = some m.cls) (hKK : KK D ca s) (hP : va_P D vwCl (wd ca ad S) H) {k : Nat} (hk : qk k = 0) (hl : va_Nw (.fieldLinkNest own index "CrashDesk$Car" "firstCounts" "[I" "CrashDesk") s) (hdg : decode cc pc = .ok (.getfield index, 3)) (kk : W p l e R s m args below meth c H locs cells slots Q (F0 m (pc + 3) ls (.ref (ad (k + 10)) :: rest))) : W p l e R s m args below meth c H locs cells slots Q (F0 m pc ls (.ref (ad k) :: rest)) :=
  va_getN (D := D) (ci := 0) (C := RX0) (T := TX0) (N := 10) hx hb hX (fun _ h => h) hown hKK.1 hP k ((wd_at (qk_lt hk (by decide))).trans (by rw [cel_0 hk])) rfl 4 (by decide) (va_Nw.use rfl hl) (fun _ h => h) rfl hdg kk
theorem g_X0_aheadLeast (hx : p.tables.exec = Jvm.exec) (hb : c.code = cc) (hX : ∀ w ∈ wsX00, w.before args s = true) (hown : s.vm.findClass own = some m.cls) (hKK : KK D ca s) (hP : va_P D vwCl (wd ca ad S) H) {k : Nat} (hk : qk k = 0) (hl : (Cond.fieldLink own index "CrashDesk$Car" "aheadLeast" "I").before args s = true) (hdg : decode cc pc = .ok (.getfield index, 3)) (kk : W p l e R s m args below meth c H locs cells slots Q (F0 m (pc + 3) ls (.int (S.1 k 5) :: rest))) : W p l e R s m args below meth c H locs cells slots Q (F0 m pc ls (.ref (ad k) :: rest)) :=
  va_get (D := D) (ci := 0) (C := RX0) (T := TX0) (N := 10) hx hb hX (fun _ h => h) hown hKK.1 hP k ((wd_at (qk_lt hk (by decide))).trans (by rw [cel_0 hk])) rfl 5 (by decide) hl (fun _ h => h) rfl hdg kk
theorem p_X0_aheadLeast (hx : p.tables.exec = Jvm.exec) (hb : c.code = cc) (hX : ∀ w ∈ wsX00, w.before args s = true) (hown : s.vm.findClass own = some m.cls) (hj : Inj ad) (hKK : KK D ca s) (hP : va_P D vwCl (wd ca ad S) H) (hS : va_S (Aq ad s.heap.size) s.heap H locs) {k : Nat} {x : Int32} (hk : qk k = 0) (hl : (Cond.fieldLink own index "CrashDesk$Car" "aheadLeast" "I").before args s = true) (hdg : decode cc pc = .ok (.putfield index, 3)) (kk : ∀ (H1 : Heap) (locs1 : List Loc), va_P D vwCl (wd ca ad (setF k 5 x S)) H1 → va_S (Aq ad s.heap.size) s.heap H1 locs1 → W p l e R s m args below meth c H1 locs1 cells slots Q (F0 m (pc + 3) ls rest)) : W p l e R s m args below meth c H locs cells slots Q (F0 m pc ls (.int x :: .ref (ad k) :: rest)) := by
  have h68 : k < 68 := qk_lt hk (by decide)
  refine va_put (D := D) (ci := 0) (C := RX0) (T := TX0) (N := 10) (ty := .int) hx hb hX (fun _ h => h) tyX0 tyX0_ok nmX0 hown hKK.1 hP (wd_D hj) hS k ((wd_at h68).trans (by rw [cel_0 hk])) rfl 5 (by decide) hl (fun _ h => h) rfl (by decide +kernel) rfl rfl (Nat.le_of_ble_eq_true rfl) hdg (fun H1 locs1 hP1 _ hS1 => kk H1 locs1 ?_ hS1)
  have e := wd_setV (ca := ca) (ad := ad) (S := S) (k := k) (r := upd (S.1 k) 5 x) h68 (cel_0 hk)
  show va_P D vwCl (wd ca ad (va_up S.1 k (upd (S.1 k) 5 x), S.2)) H1
  rw [← e]
  exact hP1
theorem g_X0_aheadGreatest (hx : p.tables.exec = Jvm.exec) (hb : c.code = cc) (hX : ∀ w ∈ wsX00, w.before args s = true) (hown : s.vm.findClass own = some m.cls) (hKK : KK D ca s) (hP : va_P D vwCl (wd ca ad S) H) {k : Nat} (hk : qk k = 0) (hl : (Cond.fieldLink own index "CrashDesk$Car" "aheadGreatest" "I").before args s = true) (hdg : decode cc pc = .ok (.getfield index, 3)) (kk : W p l e R s m args below meth c H locs cells slots Q (F0 m (pc + 3) ls (.int (S.1 k 6) :: rest))) : W p l e R s m args below meth c H locs cells slots Q (F0 m pc ls (.ref (ad k) :: rest)) :=
  va_get (D := D) (ci := 0) (C := RX0) (T := TX0) (N := 10) hx hb hX (fun _ h => h) hown hKK.1 hP k ((wd_at (qk_lt hk (by decide))).trans (by rw [cel_0 hk])) rfl 6 (by decide) hl (fun _ h => h) rfl hdg kk
theorem p_X0_aheadGreatest (hx : p.tables.exec = Jvm.exec) (hb : c.code = cc) (hX : ∀ w ∈ wsX00, w.before args s = true) (hown : s.vm.findClass own = some m.cls) (hj : Inj ad) (hKK : KK D ca s) (hP : va_P D vwCl (wd ca ad S) H) (hS : va_S (Aq ad s.heap.size) s.heap H locs) {k : Nat} {x : Int32} (hk : qk k = 0) (hl : (Cond.fieldLink own index "CrashDesk$Car" "aheadGreatest" "I").before args s = true) (hdg : decode cc pc = .ok (.putfield index, 3)) (kk : ∀ (H1 : Heap) (locs1 : List Loc), va_P D vwCl (wd ca ad (setF k 6 x S)) H1 → va_S (Aq ad s.heap.size) s.heap H1 locs1 → W p l e R s m args below meth c H1 locs1 cells slots Q (F0 m (pc + 3) ls rest)) : W p l e R s m args below meth c H locs cells slots Q (F0 m pc ls (.int x :: .ref (ad k) :: rest)) := by
  have h68 : k < 68 := qk_lt hk (by decide)
  refine va_put (D := D) (ci := 0) (C := RX0) (T := TX0) (N := 10) (ty := .int) hx hb hX (fun _ h => h) tyX0 tyX0_ok nmX0 hown hKK.1 hP (wd_D hj) hS k ((wd_at h68).trans (by rw [cel_0 hk])) rfl 6 (by decide) hl (fun _ h => h) rfl (by decide +kernel) rfl rfl (Nat.le_of_ble_eq_true rfl) hdg (fun H1 locs1 hP1 _ hS1 => kk H1 locs1 ?_ hS1)
  have e := wd_setV (ca := ca) (ad := ad) (S := S) (k := k) (r := upd (S.1 k) 6 x) h68 (cel_0 hk)
  show va_P D vwCl (wd ca ad (va_up S.1 k (upd (S.1 k) 6 x), S.2)) H1
  rw [← e]
  exact hP1
theorem g_X0_behindLeast (hx : p.tables.exec = Jvm.exec) (hb : c.code = cc) (hX : ∀ w ∈ wsX00, w.before args s = true) (hown : s.vm.findClass own = some m.cls) (hKK : KK D ca s) (hP : va_P D vwCl (wd ca ad S) H) {k : Nat} (hk : qk k = 0) (hl : (Cond.fieldLink own index "CrashDesk$Car" "behindLeast" "I").before args s = true) (hdg : decode cc pc = .ok (.getfield index, 3)) (kk : W p l e R s m args below meth c H locs cells slots Q (F0 m (pc + 3) ls (.int (S.1 k 7) :: rest))) : W p l e R s m args below meth c H locs cells slots Q (F0 m pc ls (.ref (ad k) :: rest)) :=
  va_get (D := D) (ci := 0) (C := RX0) (T := TX0) (N := 10) hx hb hX (fun _ h => h) hown hKK.1 hP k ((wd_at (qk_lt hk (by decide))).trans (by rw [cel_0 hk])) rfl 7 (by decide) hl (fun _ h => h) rfl hdg kk
theorem p_X0_behindLeast (hx : p.tables.exec = Jvm.exec) (hb : c.code = cc) (hX : ∀ w ∈ wsX00, w.before args s = true) (hown : s.vm.findClass own = some m.cls) (hj : Inj ad) (hKK : KK D ca s) (hP : va_P D vwCl (wd ca ad S) H) (hS : va_S (Aq ad s.heap.size) s.heap H locs) {k : Nat} {x : Int32} (hk : qk k = 0) (hl : (Cond.fieldLink own index "CrashDesk$Car" "behindLeast" "I").before args s = true) (hdg : decode cc pc = .ok (.putfield index, 3)) (kk : ∀ (H1 : Heap) (locs1 : List Loc), va_P D vwCl (wd ca ad (setF k 7 x S)) H1 → va_S (Aq ad s.heap.size) s.heap H1 locs1 → W p l e R s m args below meth c H1 locs1 cells slots Q (F0 m (pc + 3) ls rest)) : W p l e R s m args below meth c H locs cells slots Q (F0 m pc ls (.int x :: .ref (ad k) :: rest)) := by
  have h68 : k < 68 := qk_lt hk (by decide)
  refine va_put (D := D) (ci := 0) (C := RX0) (T := TX0) (N := 10) (ty := .int) hx hb hX (fun _ h => h) tyX0 tyX0_ok nmX0 hown hKK.1 hP (wd_D hj) hS k ((wd_at h68).trans (by rw [cel_0 hk])) rfl 7 (by decide) hl (fun _ h => h) rfl (by decide +kernel) rfl rfl (Nat.le_of_ble_eq_true rfl) hdg (fun H1 locs1 hP1 _ hS1 => kk H1 locs1 ?_ hS1)
  have e := wd_setV (ca := ca) (ad := ad) (S := S) (k := k) (r := upd (S.1 k) 7 x) h68 (cel_0 hk)
  show va_P D vwCl (wd ca ad (va_up S.1 k (upd (S.1 k) 7 x), S.2)) H1
  rw [← e]
  exact hP1
theorem g_X0_behindGreatest (hx : p.tables.exec = Jvm.exec) (hb : c.code = cc) (hX : ∀ w ∈ wsX00, w.before args s = true) (hown : s.vm.findClass own = some m.cls) (hKK : KK D ca s) (hP : va_P D vwCl (wd ca ad S) H) {k : Nat} (hk : qk k = 0) (hl : (Cond.fieldLink own index "CrashDesk$Car" "behindGreatest" "I").before args s = true) (hdg : decode cc pc = .ok (.getfield index, 3)) (kk : W p l e R s m args below meth c H locs cells slots Q (F0 m (pc + 3) ls (.int (S.1 k 8) :: rest))) : W p l e R s m args below meth c H locs cells slots Q (F0 m pc ls (.ref (ad k) :: rest)) :=
  va_get (D := D) (ci := 0) (C := RX0) (T := TX0) (N := 10) hx hb hX (fun _ h => h) hown hKK.1 hP k ((wd_at (qk_lt hk (by decide))).trans (by rw [cel_0 hk])) rfl 8 (by decide) hl (fun _ h => h) rfl hdg kk
theorem p_X0_behindGreatest (hx : p.tables.exec = Jvm.exec) (hb : c.code = cc) (hX : ∀ w ∈ wsX00, w.before args s = true) (hown : s.vm.findClass own = some m.cls) (hj : Inj ad) (hKK : KK D ca s) (hP : va_P D vwCl (wd ca ad S) H) (hS : va_S (Aq ad s.heap.size) s.heap H locs) {k : Nat} {x : Int32} (hk : qk k = 0) (hl : (Cond.fieldLink own index "CrashDesk$Car" "behindGreatest" "I").before args s = true) (hdg : decode cc pc = .ok (.putfield index, 3)) (kk : ∀ (H1 : Heap) (locs1 : List Loc), va_P D vwCl (wd ca ad (setF k 8 x S)) H1 → va_S (Aq ad s.heap.size) s.heap H1 locs1 → W p l e R s m args below meth c H1 locs1 cells slots Q (F0 m (pc + 3) ls rest)) : W p l e R s m args below meth c H locs cells slots Q (F0 m pc ls (.int x :: .ref (ad k) :: rest)) := by
  have h68 : k < 68 := qk_lt hk (by decide)
  refine va_put (D := D) (ci := 0) (C := RX0) (T := TX0) (N := 10) (ty := .int) hx hb hX (fun _ h => h) tyX0 tyX0_ok nmX0 hown hKK.1 hP (wd_D hj) hS k ((wd_at h68).trans (by rw [cel_0 hk])) rfl 8 (by decide) hl (fun _ h => h) rfl (by decide +kernel) rfl rfl (Nat.le_of_ble_eq_true rfl) hdg (fun H1 locs1 hP1 _ hS1 => kk H1 locs1 ?_ hS1)
  have e := wd_setV (ca := ca) (ad := ad) (S := S) (k := k) (r := upd (S.1 k) 8 x) h68 (cel_0 hk)
  show va_P D vwCl (wd ca ad (va_up S.1 k (upd (S.1 k) 8 x), S.2)) H1
  rw [← e]
  exact hP1
theorem g_X0_skidsBehind (hx : p.tables.exec = Jvm.exec) (hb : c.code = cc) (hX : ∀ w ∈ wsX00, w.before args s = true) (hown : s.vm.findClass own = some m.cls) (hKK : KK D ca s) (hP : va_P D vwCl (wd ca ad S) H) {k : Nat} (hk : qk k = 0) (hl : (Cond.fieldLink own index "CrashDesk$Car" "skidsBehind" "Z").before args s = true) (hdg : decode cc pc = .ok (.getfield index, 3)) (kk : W p l e R s m args below meth c H locs cells slots Q (F0 m (pc + 3) ls (.int (S.1 k 9) :: rest))) : W p l e R s m args below meth c H locs cells slots Q (F0 m pc ls (.ref (ad k) :: rest)) :=
  va_get (D := D) (ci := 0) (C := RX0) (T := TX0) (N := 10) hx hb hX (fun _ h => h) hown hKK.1 hP k ((wd_at (qk_lt hk (by decide))).trans (by rw [cel_0 hk])) rfl 9 (by decide) hl (fun _ h => h) rfl hdg kk
theorem p_X0_skidsBehind (hx : p.tables.exec = Jvm.exec) (hb : c.code = cc) (hX : ∀ w ∈ wsX00, w.before args s = true) (hown : s.vm.findClass own = some m.cls) (hj : Inj ad) (hKK : KK D ca s) (hP : va_P D vwCl (wd ca ad S) H) (hS : va_S (Aq ad s.heap.size) s.heap H locs) {k : Nat} {x : Int32} (hk : qk k = 0) (h : stZ k 9 x S = some S1) (hl : (Cond.fieldLink own index "CrashDesk$Car" "skidsBehind" "Z").before args s = true) (hdg : decode cc pc = .ok (.putfield index, 3)) (kk : ∀ (H1 : Heap) (locs1 : List Loc), va_P D vwCl (wd ca ad S1) H1 → va_S (Aq ad s.heap.size) s.heap H1 locs1 → W p l e R s m args below meth c H1 locs1 cells slots Q (F0 m (pc + 3) ls rest)) : W p l e R s m args below meth c H locs cells slots Q (F0 m pc ls (.int x :: .ref (ad k) :: rest)) := by
  obtain ⟨hz, rfl⟩ := q_stZ h
  have h68 : k < 68 := qk_lt hk (by decide)
  refine va_put (D := D) (ci := 0) (C := RX0) (T := TX0) (N := 10) (ty := .boolean) hx hb hX (fun _ h => h) tyX0 tyX0_ok nmX0 hown hKK.1 hP (wd_D hj) hS k ((wd_at h68).trans (by rw [cel_0 hk])) rfl 9 (by decide) hl (fun _ h => h) rfl (by decide +kernel) (q_nz hz) (q_fz hz) (Nat.le_of_ble_eq_true rfl) hdg (fun H1 locs1 hP1 _ hS1 => kk H1 locs1 ?_ hS1)
  have e := wd_setV (ca := ca) (ad := ad) (S := S) (k := k) (r := upd (S.1 k) 9 x) h68 (cel_0 hk)
  show va_P D vwCl (wd ca ad (va_up S.1 k (upd (S.1 k) 9 x), S.2)) H1
  rw [← e]
  exact hP1
theorem g_X1_zero (hx : p.tables.exec = Jvm.exec) (hb : c.code = cc) (hX : ∀ w ∈ wsX10, w.before args s = true) (hown : s.vm.findClass own = some m.cls) (hKK : KK D ca s) (hP : va_P D vwCl (wd ca ad S) H) {k : Nat} (hk : qk k = 1) (hl : (Cond.fieldLink own index "CrashDesk$Meeting" "zero" "LCrashDesk$Car;").before args s = true) (hdg : decode cc pc = .ok (.getfield index, 3)) (kk : W p l e R s m args below meth c H locs cells slots Q (F0 m (pc + 3) ls (.ref (ad 26) :: rest))) : W p l e R s m args below meth c H locs cells slots Q (F0 m pc ls (.ref (ad k) :: rest)) :=
  va_get (D := D) (ci := 1) (C := RX1) (T := TX1) (N := 6) hx hb hX (fun _ h => h) hown hKK.1 hP k ((wd_at (qk_lt hk (by decide))).trans (by rw [cel_1 hk])) rfl 0 (by decide) hl (fun _ h => h) rfl hdg kk
theorem g_X1_one (hx : p.tables.exec = Jvm.exec) (hb : c.code = cc) (hX : ∀ w ∈ wsX10, w.before args s = true) (hown : s.vm.findClass own = some m.cls) (hKK : KK D ca s) (hP : va_P D vwCl (wd ca ad S) H) {k : Nat} (hk : qk k = 1) (hl : (Cond.fieldLink own index "CrashDesk$Meeting" "one" "LCrashDesk$Car;").before args s = true) (hdg : decode cc pc = .ok (.getfield index, 3)) (kk : W p l e R s m args below meth c H locs cells slots Q (F0 m (pc + 3) ls (.ref (ad 37) :: rest))) : W p l e R s m args below meth c H locs cells slots Q (F0 m pc ls (.ref (ad k) :: rest)) :=
  va_get (D := D) (ci := 1) (C := RX1) (T := TX1) (N := 6) hx hb hX (fun _ h => h) hown hKK.1 hP k ((wd_at (qk_lt hk (by decide))).trans (by rw [cel_1 hk])) rfl 1 (by decide) hl (fun _ h => h) rfl hdg kk
theorem g_X1_wayCount (hx : p.tables.exec = Jvm.exec) (hb : c.code = cc) (hX : ∀ w ∈ wsX10, w.before args s = true) (hown : s.vm.findClass own = some m.cls) (hKK : KK D ca s) (hP : va_P D vwCl (wd ca ad S) H) {k : Nat} (hk : qk k = 1) (hl : (Cond.fieldLink own index "CrashDesk$Meeting" "wayCount" "J").before args s = true) (hdg : decode cc pc = .ok (.getfield index, 3)) (kk : W p l e R s m args below meth c H locs cells slots Q (F0 m (pc + 3) ls (.long (S.2 k) :: rest))) : W p l e R s m args below meth c H locs cells slots Q (F0 m pc ls (.ref (ad k) :: rest)) :=
  va_get (D := D) (ci := 1) (C := RX1) (T := TX1) (N := 6) hx hb hX (fun _ h => h) hown hKK.1 hP k ((wd_at (qk_lt hk (by decide))).trans (by rw [cel_1 hk])) rfl 2 (by decide) hl (fun _ h => h) rfl hdg kk
theorem p_X1_wayCount (hx : p.tables.exec = Jvm.exec) (hb : c.code = cc) (hX : ∀ w ∈ wsX10, w.before args s = true) (hown : s.vm.findClass own = some m.cls) (hj : Inj ad) (hKK : KK D ca s) (hP : va_P D vwCl (wd ca ad S) H) (hS : va_S (Aq ad s.heap.size) s.heap H locs) {k : Nat} {x : Int64} (hk : qk k = 1) (h : stL k x S = some S1) (hl : (Cond.fieldLink own index "CrashDesk$Meeting" "wayCount" "J").before args s = true) (hdg : decode cc pc = .ok (.putfield index, 3)) (kk : ∀ (H1 : Heap) (locs1 : List Loc), va_P D vwCl (wd ca ad S1) H1 → va_S (Aq ad s.heap.size) s.heap H1 locs1 → W p l e R s m args below meth c H1 locs1 cells slots Q (F0 m (pc + 3) ls rest)) : W p l e R s m args below meth c H locs cells slots Q (F0 m pc ls (.long x :: .ref (ad k) :: rest)) := by
  obtain rfl := Option.some.inj h
  have h68 : k < 68 := qk_lt hk (by decide)
  refine va_put (D := D) (ci := 1) (C := RX1) (T := TX1) (N := 6) (ty := .long) hx hb hX (fun _ h => h) tyX1 tyX1_ok nmX1 hown hKK.1 hP (wd_D hj) hS k ((wd_at h68).trans (by rw [cel_1 hk])) rfl 2 (by decide) hl (fun _ h => h) rfl (by decide +kernel) rfl rfl (Nat.le_of_ble_eq_true rfl) hdg (fun H1 locs1 hP1 _ hS1 => kk H1 locs1 ?_ hS1)
  have e := wd_setM (ca := ca) (ad := ad) (S := S) (k := k) (x := x) h68 (cel_1 hk)
  show va_P D vwCl (wd ca ad (S.1, va_up S.2 k x)) H1
  rw [← e]
  rw [va_up_self]
  exact hP1
theorem g_X1_cheapest (hx : p.tables.exec = Jvm.exec) (hb : c.code = cc) (hX : ∀ w ∈ wsX10, w.before args s = true) (hown : s.vm.findClass own = some m.cls) (hKK : KK D ca s) (hP : va_P D vwCl (wd ca ad S) H) {k : Nat} (hk : qk k = 1) (hl : (Cond.fieldLink own index "CrashDesk$Meeting" "cheapest" "I").before args s = true) (hdg : decode cc pc = .ok (.getfield index, 3)) (kk : W p l e R s m args below meth c H locs cells slots Q (F0 m (pc + 3) ls (.int (S.1 k 3) :: rest))) : W p l e R s m args below meth c H locs cells slots Q (F0 m pc ls (.ref (ad k) :: rest)) :=
  va_get (D := D) (ci := 1) (C := RX1) (T := TX1) (N := 6) hx hb hX (fun _ h => h) hown hKK.1 hP k ((wd_at (qk_lt hk (by decide))).trans (by rw [cel_1 hk])) rfl 3 (by decide) hl (fun _ h => h) rfl hdg kk
theorem p_X1_cheapest (hx : p.tables.exec = Jvm.exec) (hb : c.code = cc) (hX : ∀ w ∈ wsX10, w.before args s = true) (hown : s.vm.findClass own = some m.cls) (hj : Inj ad) (hKK : KK D ca s) (hP : va_P D vwCl (wd ca ad S) H) (hS : va_S (Aq ad s.heap.size) s.heap H locs) {k : Nat} {x : Int32} (hk : qk k = 1) (hl : (Cond.fieldLink own index "CrashDesk$Meeting" "cheapest" "I").before args s = true) (hdg : decode cc pc = .ok (.putfield index, 3)) (kk : ∀ (H1 : Heap) (locs1 : List Loc), va_P D vwCl (wd ca ad (setF k 3 x S)) H1 → va_S (Aq ad s.heap.size) s.heap H1 locs1 → W p l e R s m args below meth c H1 locs1 cells slots Q (F0 m (pc + 3) ls rest)) : W p l e R s m args below meth c H locs cells slots Q (F0 m pc ls (.int x :: .ref (ad k) :: rest)) := by
  have h68 : k < 68 := qk_lt hk (by decide)
  refine va_put (D := D) (ci := 1) (C := RX1) (T := TX1) (N := 6) (ty := .int) hx hb hX (fun _ h => h) tyX1 tyX1_ok nmX1 hown hKK.1 hP (wd_D hj) hS k ((wd_at h68).trans (by rw [cel_1 hk])) rfl 3 (by decide) hl (fun _ h => h) rfl (by decide +kernel) rfl rfl (Nat.le_of_ble_eq_true rfl) hdg (fun H1 locs1 hP1 _ hS1 => kk H1 locs1 ?_ hS1)
  have e := wd_setV (ca := ca) (ad := ad) (S := S) (k := k) (r := upd (S.1 k) 3 x) h68 (cel_1 hk)
  show va_P D vwCl (wd ca ad (va_up S.1 k (upd (S.1 k) 3 x), S.2)) H1
  rw [← e]
  exact hP1
theorem g_X1_loss (hx : p.tables.exec = Jvm.exec) (hb : c.code = cc) (hX : ∀ w ∈ wsX10, w.before args s = true) (hown : s.vm.findClass own = some m.cls) (hKK : KK D ca s) (hP : va_P D vwCl (wd ca ad S) H) {k : Nat} (hk : qk k = 1) (hl : (Cond.fieldLink own index "CrashDesk$Meeting" "loss" "I").before args s = true) (hdg : decode cc pc = .ok (.getfield index, 3)) (kk : W p l e R s m args below meth c H locs cells slots Q (F0 m (pc + 3) ls (.int (S.1 k 4) :: rest))) : W p l e R s m args below meth c H locs cells slots Q (F0 m pc ls (.ref (ad k) :: rest)) :=
  va_get (D := D) (ci := 1) (C := RX1) (T := TX1) (N := 6) hx hb hX (fun _ h => h) hown hKK.1 hP k ((wd_at (qk_lt hk (by decide))).trans (by rw [cel_1 hk])) rfl 4 (by decide) hl (fun _ h => h) rfl hdg kk
theorem p_X1_loss (hx : p.tables.exec = Jvm.exec) (hb : c.code = cc) (hX : ∀ w ∈ wsX10, w.before args s = true) (hown : s.vm.findClass own = some m.cls) (hj : Inj ad) (hKK : KK D ca s) (hP : va_P D vwCl (wd ca ad S) H) (hS : va_S (Aq ad s.heap.size) s.heap H locs) {k : Nat} {x : Int32} (hk : qk k = 1) (hl : (Cond.fieldLink own index "CrashDesk$Meeting" "loss" "I").before args s = true) (hdg : decode cc pc = .ok (.putfield index, 3)) (kk : ∀ (H1 : Heap) (locs1 : List Loc), va_P D vwCl (wd ca ad (setF k 4 x S)) H1 → va_S (Aq ad s.heap.size) s.heap H1 locs1 → W p l e R s m args below meth c H1 locs1 cells slots Q (F0 m (pc + 3) ls rest)) : W p l e R s m args below meth c H locs cells slots Q (F0 m pc ls (.int x :: .ref (ad k) :: rest)) := by
  have h68 : k < 68 := qk_lt hk (by decide)
  refine va_put (D := D) (ci := 1) (C := RX1) (T := TX1) (N := 6) (ty := .int) hx hb hX (fun _ h => h) tyX1 tyX1_ok nmX1 hown hKK.1 hP (wd_D hj) hS k ((wd_at h68).trans (by rw [cel_1 hk])) rfl 4 (by decide) hl (fun _ h => h) rfl (by decide +kernel) rfl rfl (Nat.le_of_ble_eq_true rfl) hdg (fun H1 locs1 hP1 _ hS1 => kk H1 locs1 ?_ hS1)
  have e := wd_setV (ca := ca) (ad := ad) (S := S) (k := k) (r := upd (S.1 k) 4 x) h68 (cel_1 hk)
  show va_P D vwCl (wd ca ad (va_up S.1 k (upd (S.1 k) 4 x), S.2)) H1
  rw [← e]
  exact hP1
theorem g_X1_gain (hx : p.tables.exec = Jvm.exec) (hb : c.code = cc) (hX : ∀ w ∈ wsX10, w.before args s = true) (hown : s.vm.findClass own = some m.cls) (hKK : KK D ca s) (hP : va_P D vwCl (wd ca ad S) H) {k : Nat} (hk : qk k = 1) (hl : (Cond.fieldLink own index "CrashDesk$Meeting" "gain" "I").before args s = true) (hdg : decode cc pc = .ok (.getfield index, 3)) (kk : W p l e R s m args below meth c H locs cells slots Q (F0 m (pc + 3) ls (.int (S.1 k 5) :: rest))) : W p l e R s m args below meth c H locs cells slots Q (F0 m pc ls (.ref (ad k) :: rest)) :=
  va_get (D := D) (ci := 1) (C := RX1) (T := TX1) (N := 6) hx hb hX (fun _ h => h) hown hKK.1 hP k ((wd_at (qk_lt hk (by decide))).trans (by rw [cel_1 hk])) rfl 5 (by decide) hl (fun _ h => h) rfl hdg kk
theorem p_X1_gain (hx : p.tables.exec = Jvm.exec) (hb : c.code = cc) (hX : ∀ w ∈ wsX10, w.before args s = true) (hown : s.vm.findClass own = some m.cls) (hj : Inj ad) (hKK : KK D ca s) (hP : va_P D vwCl (wd ca ad S) H) (hS : va_S (Aq ad s.heap.size) s.heap H locs) {k : Nat} {x : Int32} (hk : qk k = 1) (hl : (Cond.fieldLink own index "CrashDesk$Meeting" "gain" "I").before args s = true) (hdg : decode cc pc = .ok (.putfield index, 3)) (kk : ∀ (H1 : Heap) (locs1 : List Loc), va_P D vwCl (wd ca ad (setF k 5 x S)) H1 → va_S (Aq ad s.heap.size) s.heap H1 locs1 → W p l e R s m args below meth c H1 locs1 cells slots Q (F0 m (pc + 3) ls rest)) : W p l e R s m args below meth c H locs cells slots Q (F0 m pc ls (.int x :: .ref (ad k) :: rest)) := by
  have h68 : k < 68 := qk_lt hk (by decide)
  refine va_put (D := D) (ci := 1) (C := RX1) (T := TX1) (N := 6) (ty := .int) hx hb hX (fun _ h => h) tyX1 tyX1_ok nmX1 hown hKK.1 hP (wd_D hj) hS k ((wd_at h68).trans (by rw [cel_1 hk])) rfl 5 (by decide) hl (fun _ h => h) rfl (by decide +kernel) rfl rfl (Nat.le_of_ble_eq_true rfl) hdg (fun H1 locs1 hP1 _ hS1 => kk H1 locs1 ?_ hS1)
  have e := wd_setV (ca := ca) (ad := ad) (S := S) (k := k) (r := upd (S.1 k) 5 x) h68 (cel_1 hk)
  show va_P D vwCl (wd ca ad (va_up S.1 k (upd (S.1 k) 5 x), S.2)) H1
  rw [← e]
  exact hP1
theorem g_X2_car (hx : p.tables.exec = Jvm.exec) (hb : c.code = cc) (hX : ∀ w ∈ wsX20, w.before args s = true) (hown : s.vm.findClass own = some m.cls) (hKK : KK D ca s) (hP : va_P D vwCl (wd ca ad S) H) {k : Nat} (hk : qk k = 2) (hl : (Cond.fieldLink own index "CrashDesk$Skid" "car" "I").before args s = true) (hdg : decode cc pc = .ok (.getfield index, 3)) (kk : W p l e R s m args below meth c H locs cells slots Q (F0 m (pc + 3) ls (.int (S.1 k 0) :: rest))) : W p l e R s m args below meth c H locs cells slots Q (F0 m pc ls (.ref (ad k) :: rest)) :=
  va_get (D := D) (ci := 2) (C := RX2) (T := TX2) (N := 5) hx hb hX (fun _ h => h) hown hKK.1 hP k ((wd_at (qk_lt hk (by decide))).trans (by rw [cel_2 hk])) rfl 0 (by decide) hl (fun _ h => h) rfl hdg kk
theorem p_X2_car (hx : p.tables.exec = Jvm.exec) (hb : c.code = cc) (hX : ∀ w ∈ wsX20, w.before args s = true) (hown : s.vm.findClass own = some m.cls) (hj : Inj ad) (hKK : KK D ca s) (hP : va_P D vwCl (wd ca ad S) H) (hS : va_S (Aq ad s.heap.size) s.heap H locs) {k : Nat} {x : Int32} (hk : qk k = 2) (hl : (Cond.fieldLink own index "CrashDesk$Skid" "car" "I").before args s = true) (hdg : decode cc pc = .ok (.putfield index, 3)) (kk : ∀ (H1 : Heap) (locs1 : List Loc), va_P D vwCl (wd ca ad (setF k 0 x S)) H1 → va_S (Aq ad s.heap.size) s.heap H1 locs1 → W p l e R s m args below meth c H1 locs1 cells slots Q (F0 m (pc + 3) ls rest)) : W p l e R s m args below meth c H locs cells slots Q (F0 m pc ls (.int x :: .ref (ad k) :: rest)) := by
  have h68 : k < 68 := qk_lt hk (by decide)
  refine va_put (D := D) (ci := 2) (C := RX2) (T := TX2) (N := 5) (ty := .int) hx hb hX (fun _ h => h) tyX2 tyX2_ok nmX2 hown hKK.1 hP (wd_D hj) hS k ((wd_at h68).trans (by rw [cel_2 hk])) rfl 0 (by decide) hl (fun _ h => h) rfl (by decide +kernel) rfl rfl (Nat.le_of_ble_eq_true rfl) hdg (fun H1 locs1 hP1 _ hS1 => kk H1 locs1 ?_ hS1)
  have e := wd_setV (ca := ca) (ad := ad) (S := S) (k := k) (r := upd (S.1 k) 0 x) h68 (cel_2 hk)
  show va_P D vwCl (wd ca ad (va_up S.1 k (upd (S.1 k) 0 x), S.2)) H1
  rw [← e]
  exact hP1
theorem g_X2_behind (hx : p.tables.exec = Jvm.exec) (hb : c.code = cc) (hX : ∀ w ∈ wsX20, w.before args s = true) (hown : s.vm.findClass own = some m.cls) (hKK : KK D ca s) (hP : va_P D vwCl (wd ca ad S) H) {k : Nat} (hk : qk k = 2) (hl : (Cond.fieldLink own index "CrashDesk$Skid" "behind" "Z").before args s = true) (hdg : decode cc pc = .ok (.getfield index, 3)) (kk : W p l e R s m args below meth c H locs cells slots Q (F0 m (pc + 3) ls (.int (S.1 k 1) :: rest))) : W p l e R s m args below meth c H locs cells slots Q (F0 m pc ls (.ref (ad k) :: rest)) :=
  va_get (D := D) (ci := 2) (C := RX2) (T := TX2) (N := 5) hx hb hX (fun _ h => h) hown hKK.1 hP k ((wd_at (qk_lt hk (by decide))).trans (by rw [cel_2 hk])) rfl 1 (by decide) hl (fun _ h => h) rfl hdg kk
theorem p_X2_behind (hx : p.tables.exec = Jvm.exec) (hb : c.code = cc) (hX : ∀ w ∈ wsX20, w.before args s = true) (hown : s.vm.findClass own = some m.cls) (hj : Inj ad) (hKK : KK D ca s) (hP : va_P D vwCl (wd ca ad S) H) (hS : va_S (Aq ad s.heap.size) s.heap H locs) {k : Nat} {x : Int32} (hk : qk k = 2) (h : stZ k 1 x S = some S1) (hl : (Cond.fieldLink own index "CrashDesk$Skid" "behind" "Z").before args s = true) (hdg : decode cc pc = .ok (.putfield index, 3)) (kk : ∀ (H1 : Heap) (locs1 : List Loc), va_P D vwCl (wd ca ad S1) H1 → va_S (Aq ad s.heap.size) s.heap H1 locs1 → W p l e R s m args below meth c H1 locs1 cells slots Q (F0 m (pc + 3) ls rest)) : W p l e R s m args below meth c H locs cells slots Q (F0 m pc ls (.int x :: .ref (ad k) :: rest)) := by
  obtain ⟨hz, rfl⟩ := q_stZ h
  have h68 : k < 68 := qk_lt hk (by decide)
  refine va_put (D := D) (ci := 2) (C := RX2) (T := TX2) (N := 5) (ty := .boolean) hx hb hX (fun _ h => h) tyX2 tyX2_ok nmX2 hown hKK.1 hP (wd_D hj) hS k ((wd_at h68).trans (by rw [cel_2 hk])) rfl 1 (by decide) hl (fun _ h => h) rfl (by decide +kernel) (q_nz hz) (q_fz hz) (Nat.le_of_ble_eq_true rfl) hdg (fun H1 locs1 hP1 _ hS1 => kk H1 locs1 ?_ hS1)
  have e := wd_setV (ca := ca) (ad := ad) (S := S) (k := k) (r := upd (S.1 k) 1 x) h68 (cel_2 hk)
  show va_P D vwCl (wd ca ad (va_up S.1 k (upd (S.1 k) 1 x), S.2)) H1
  rw [← e]
  exact hP1
theorem g_X2_least (hx : p.tables.exec = Jvm.exec) (hb : c.code = cc) (hX : ∀ w ∈ wsX20, w.before args s = true) (hown : s.vm.findClass own = some m.cls) (hKK : KK D ca s) (hP : va_P D vwCl (wd ca ad S) H) {k : Nat} (hk : qk k = 2) (hl : (Cond.fieldLink own index "CrashDesk$Skid" "least" "I").before args s = true) (hdg : decode cc pc = .ok (.getfield index, 3)) (kk : W p l e R s m args below meth c H locs cells slots Q (F0 m (pc + 3) ls (.int (S.1 k 2) :: rest))) : W p l e R s m args below meth c H locs cells slots Q (F0 m pc ls (.ref (ad k) :: rest)) :=
  va_get (D := D) (ci := 2) (C := RX2) (T := TX2) (N := 5) hx hb hX (fun _ h => h) hown hKK.1 hP k ((wd_at (qk_lt hk (by decide))).trans (by rw [cel_2 hk])) rfl 2 (by decide) hl (fun _ h => h) rfl hdg kk
theorem p_X2_least (hx : p.tables.exec = Jvm.exec) (hb : c.code = cc) (hX : ∀ w ∈ wsX20, w.before args s = true) (hown : s.vm.findClass own = some m.cls) (hj : Inj ad) (hKK : KK D ca s) (hP : va_P D vwCl (wd ca ad S) H) (hS : va_S (Aq ad s.heap.size) s.heap H locs) {k : Nat} {x : Int32} (hk : qk k = 2) (hl : (Cond.fieldLink own index "CrashDesk$Skid" "least" "I").before args s = true) (hdg : decode cc pc = .ok (.putfield index, 3)) (kk : ∀ (H1 : Heap) (locs1 : List Loc), va_P D vwCl (wd ca ad (setF k 2 x S)) H1 → va_S (Aq ad s.heap.size) s.heap H1 locs1 → W p l e R s m args below meth c H1 locs1 cells slots Q (F0 m (pc + 3) ls rest)) : W p l e R s m args below meth c H locs cells slots Q (F0 m pc ls (.int x :: .ref (ad k) :: rest)) := by
  have h68 : k < 68 := qk_lt hk (by decide)
  refine va_put (D := D) (ci := 2) (C := RX2) (T := TX2) (N := 5) (ty := .int) hx hb hX (fun _ h => h) tyX2 tyX2_ok nmX2 hown hKK.1 hP (wd_D hj) hS k ((wd_at h68).trans (by rw [cel_2 hk])) rfl 2 (by decide) hl (fun _ h => h) rfl (by decide +kernel) rfl rfl (Nat.le_of_ble_eq_true rfl) hdg (fun H1 locs1 hP1 _ hS1 => kk H1 locs1 ?_ hS1)
  have e := wd_setV (ca := ca) (ad := ad) (S := S) (k := k) (r := upd (S.1 k) 2 x) h68 (cel_2 hk)
  show va_P D vwCl (wd ca ad (va_up S.1 k (upd (S.1 k) 2 x), S.2)) H1
  rw [← e]
  exact hP1
theorem g_X2_greatest (hx : p.tables.exec = Jvm.exec) (hb : c.code = cc) (hX : ∀ w ∈ wsX20, w.before args s = true) (hown : s.vm.findClass own = some m.cls) (hKK : KK D ca s) (hP : va_P D vwCl (wd ca ad S) H) {k : Nat} (hk : qk k = 2) (hl : (Cond.fieldLink own index "CrashDesk$Skid" "greatest" "I").before args s = true) (hdg : decode cc pc = .ok (.getfield index, 3)) (kk : W p l e R s m args below meth c H locs cells slots Q (F0 m (pc + 3) ls (.int (S.1 k 3) :: rest))) : W p l e R s m args below meth c H locs cells slots Q (F0 m pc ls (.ref (ad k) :: rest)) :=
  va_get (D := D) (ci := 2) (C := RX2) (T := TX2) (N := 5) hx hb hX (fun _ h => h) hown hKK.1 hP k ((wd_at (qk_lt hk (by decide))).trans (by rw [cel_2 hk])) rfl 3 (by decide) hl (fun _ h => h) rfl hdg kk
theorem p_X2_greatest (hx : p.tables.exec = Jvm.exec) (hb : c.code = cc) (hX : ∀ w ∈ wsX20, w.before args s = true) (hown : s.vm.findClass own = some m.cls) (hj : Inj ad) (hKK : KK D ca s) (hP : va_P D vwCl (wd ca ad S) H) (hS : va_S (Aq ad s.heap.size) s.heap H locs) {k : Nat} {x : Int32} (hk : qk k = 2) (hl : (Cond.fieldLink own index "CrashDesk$Skid" "greatest" "I").before args s = true) (hdg : decode cc pc = .ok (.putfield index, 3)) (kk : ∀ (H1 : Heap) (locs1 : List Loc), va_P D vwCl (wd ca ad (setF k 3 x S)) H1 → va_S (Aq ad s.heap.size) s.heap H1 locs1 → W p l e R s m args below meth c H1 locs1 cells slots Q (F0 m (pc + 3) ls rest)) : W p l e R s m args below meth c H locs cells slots Q (F0 m pc ls (.int x :: .ref (ad k) :: rest)) := by
  have h68 : k < 68 := qk_lt hk (by decide)
  refine va_put (D := D) (ci := 2) (C := RX2) (T := TX2) (N := 5) (ty := .int) hx hb hX (fun _ h => h) tyX2 tyX2_ok nmX2 hown hKK.1 hP (wd_D hj) hS k ((wd_at h68).trans (by rw [cel_2 hk])) rfl 3 (by decide) hl (fun _ h => h) rfl (by decide +kernel) rfl rfl (Nat.le_of_ble_eq_true rfl) hdg (fun H1 locs1 hP1 _ hS1 => kk H1 locs1 ?_ hS1)
  have e := wd_setV (ca := ca) (ad := ad) (S := S) (k := k) (r := upd (S.1 k) 3 x) h68 (cel_2 hk)
  show va_P D vwCl (wd ca ad (va_up S.1 k (upd (S.1 k) 3 x), S.2)) H1
  rw [← e]
  exact hP1
theorem g_X2_counts (hx : p.tables.exec = Jvm.exec) (hb : c.code = cc) (hX : ∀ w ∈ wsX20, w.before args s = true) (hown : s.vm.findClass own = some m.cls) (hKK : KK D ca s) (hP : va_P D vwCl (wd ca ad S) H) {k : Nat} (hk : qk k = 2) (hl : (Cond.fieldLink own index "CrashDesk$Skid" "counts" "Z").before args s = true) (hdg : decode cc pc = .ok (.getfield index, 3)) (kk : W p l e R s m args below meth c H locs cells slots Q (F0 m (pc + 3) ls (.int (S.1 k 4) :: rest))) : W p l e R s m args below meth c H locs cells slots Q (F0 m pc ls (.ref (ad k) :: rest)) :=
  va_get (D := D) (ci := 2) (C := RX2) (T := TX2) (N := 5) hx hb hX (fun _ h => h) hown hKK.1 hP k ((wd_at (qk_lt hk (by decide))).trans (by rw [cel_2 hk])) rfl 4 (by decide) hl (fun _ h => h) rfl hdg kk
theorem p_X2_counts (hx : p.tables.exec = Jvm.exec) (hb : c.code = cc) (hX : ∀ w ∈ wsX20, w.before args s = true) (hown : s.vm.findClass own = some m.cls) (hj : Inj ad) (hKK : KK D ca s) (hP : va_P D vwCl (wd ca ad S) H) (hS : va_S (Aq ad s.heap.size) s.heap H locs) {k : Nat} {x : Int32} (hk : qk k = 2) (h : stZ k 4 x S = some S1) (hl : (Cond.fieldLink own index "CrashDesk$Skid" "counts" "Z").before args s = true) (hdg : decode cc pc = .ok (.putfield index, 3)) (kk : ∀ (H1 : Heap) (locs1 : List Loc), va_P D vwCl (wd ca ad S1) H1 → va_S (Aq ad s.heap.size) s.heap H1 locs1 → W p l e R s m args below meth c H1 locs1 cells slots Q (F0 m (pc + 3) ls rest)) : W p l e R s m args below meth c H locs cells slots Q (F0 m pc ls (.int x :: .ref (ad k) :: rest)) := by
  obtain ⟨hz, rfl⟩ := q_stZ h
  have h68 : k < 68 := qk_lt hk (by decide)
  refine va_put (D := D) (ci := 2) (C := RX2) (T := TX2) (N := 5) (ty := .boolean) hx hb hX (fun _ h => h) tyX2 tyX2_ok nmX2 hown hKK.1 hP (wd_D hj) hS k ((wd_at h68).trans (by rw [cel_2 hk])) rfl 4 (by decide) hl (fun _ h => h) rfl (by decide +kernel) (q_nz hz) (q_fz hz) (Nat.le_of_ble_eq_true rfl) hdg (fun H1 locs1 hP1 _ hS1 => kk H1 locs1 ?_ hS1)
  have e := wd_setV (ca := ca) (ad := ad) (S := S) (k := k) (r := upd (S.1 k) 4 x) h68 (cel_2 hk)
  show va_P D vwCl (wd ca ad (va_up S.1 k (upd (S.1 k) 4 x), S.2)) H1
  rw [← e]
  exact hP1
theorem g_X3_low (hx : p.tables.exec = Jvm.exec) (hb : c.code = cc) (hX : ∀ w ∈ wsX30, w.before args s = true) (hown : s.vm.findClass own = some m.cls) (hKK : KK D ca s) (hP : va_P D vwCl (wd ca ad S) H) {k : Nat} (hk : qk k = 3) (hl : (Cond.fieldLink own index "CrashDesk$Speed" "low" "I").before args s = true) (hdg : decode cc pc = .ok (.getfield index, 3)) (kk : W p l e R s m args below meth c H locs cells slots Q (F0 m (pc + 3) ls (.int (S.1 k 0) :: rest))) : W p l e R s m args below meth c H locs cells slots Q (F0 m pc ls (.ref (ad k) :: rest)) :=
  va_get (D := D) (ci := 3) (C := RX3) (T := TX3) (N := 6) hx hb hX (fun _ h => h) hown hKK.1 hP k ((wd_at (qk_lt hk (by decide))).trans (by rw [cel_3 hk])) rfl 0 (by decide) hl (fun _ h => h) rfl hdg kk
theorem p_X3_low (hx : p.tables.exec = Jvm.exec) (hb : c.code = cc) (hX : ∀ w ∈ wsX30, w.before args s = true) (hown : s.vm.findClass own = some m.cls) (hj : Inj ad) (hKK : KK D ca s) (hP : va_P D vwCl (wd ca ad S) H) (hS : va_S (Aq ad s.heap.size) s.heap H locs) {k : Nat} {x : Int32} (hk : qk k = 3) (hl : (Cond.fieldLink own index "CrashDesk$Speed" "low" "I").before args s = true) (hdg : decode cc pc = .ok (.putfield index, 3)) (kk : ∀ (H1 : Heap) (locs1 : List Loc), va_P D vwCl (wd ca ad (setF k 0 x S)) H1 → va_S (Aq ad s.heap.size) s.heap H1 locs1 → W p l e R s m args below meth c H1 locs1 cells slots Q (F0 m (pc + 3) ls rest)) : W p l e R s m args below meth c H locs cells slots Q (F0 m pc ls (.int x :: .ref (ad k) :: rest)) := by
  have h68 : k < 68 := qk_lt hk (by decide)
  refine va_put (D := D) (ci := 3) (C := RX3) (T := TX3) (N := 6) (ty := .int) hx hb hX (fun _ h => h) tyX3 tyX3_ok nmX3 hown hKK.1 hP (wd_D hj) hS k ((wd_at h68).trans (by rw [cel_3 hk])) rfl 0 (by decide) hl (fun _ h => h) rfl (by decide +kernel) rfl rfl (Nat.le_of_ble_eq_true rfl) hdg (fun H1 locs1 hP1 _ hS1 => kk H1 locs1 ?_ hS1)
  have e := wd_setV (ca := ca) (ad := ad) (S := S) (k := k) (r := upd (S.1 k) 0 x) h68 (cel_3 hk)
  show va_P D vwCl (wd ca ad (va_up S.1 k (upd (S.1 k) 0 x), S.2)) H1
  rw [← e]
  exact hP1
theorem g_X3_high (hx : p.tables.exec = Jvm.exec) (hb : c.code = cc) (hX : ∀ w ∈ wsX30, w.before args s = true) (hown : s.vm.findClass own = some m.cls) (hKK : KK D ca s) (hP : va_P D vwCl (wd ca ad S) H) {k : Nat} (hk : qk k = 3) (hl : (Cond.fieldLink own index "CrashDesk$Speed" "high" "I").before args s = true) (hdg : decode cc pc = .ok (.getfield index, 3)) (kk : W p l e R s m args below meth c H locs cells slots Q (F0 m (pc + 3) ls (.int (S.1 k 1) :: rest))) : W p l e R s m args below meth c H locs cells slots Q (F0 m pc ls (.ref (ad k) :: rest)) :=
  va_get (D := D) (ci := 3) (C := RX3) (T := TX3) (N := 6) hx hb hX (fun _ h => h) hown hKK.1 hP k ((wd_at (qk_lt hk (by decide))).trans (by rw [cel_3 hk])) rfl 1 (by decide) hl (fun _ h => h) rfl hdg kk
theorem p_X3_high (hx : p.tables.exec = Jvm.exec) (hb : c.code = cc) (hX : ∀ w ∈ wsX30, w.before args s = true) (hown : s.vm.findClass own = some m.cls) (hj : Inj ad) (hKK : KK D ca s) (hP : va_P D vwCl (wd ca ad S) H) (hS : va_S (Aq ad s.heap.size) s.heap H locs) {k : Nat} {x : Int32} (hk : qk k = 3) (hl : (Cond.fieldLink own index "CrashDesk$Speed" "high" "I").before args s = true) (hdg : decode cc pc = .ok (.putfield index, 3)) (kk : ∀ (H1 : Heap) (locs1 : List Loc), va_P D vwCl (wd ca ad (setF k 1 x S)) H1 → va_S (Aq ad s.heap.size) s.heap H1 locs1 → W p l e R s m args below meth c H1 locs1 cells slots Q (F0 m (pc + 3) ls rest)) : W p l e R s m args below meth c H locs cells slots Q (F0 m pc ls (.int x :: .ref (ad k) :: rest)) := by
  have h68 : k < 68 := qk_lt hk (by decide)
  refine va_put (D := D) (ci := 3) (C := RX3) (T := TX3) (N := 6) (ty := .int) hx hb hX (fun _ h => h) tyX3 tyX3_ok nmX3 hown hKK.1 hP (wd_D hj) hS k ((wd_at h68).trans (by rw [cel_3 hk])) rfl 1 (by decide) hl (fun _ h => h) rfl (by decide +kernel) rfl rfl (Nat.le_of_ble_eq_true rfl) hdg (fun H1 locs1 hP1 _ hS1 => kk H1 locs1 ?_ hS1)
  have e := wd_setV (ca := ca) (ad := ad) (S := S) (k := k) (r := upd (S.1 k) 1 x) h68 (cel_3 hk)
  show va_P D vwCl (wd ca ad (va_up S.1 k (upd (S.1 k) 1 x), S.2)) H1
  rw [← e]
  exact hP1
theorem g_X3_bottom (hx : p.tables.exec = Jvm.exec) (hb : c.code = cc) (hX : ∀ w ∈ wsX30, w.before args s = true) (hown : s.vm.findClass own = some m.cls) (hKK : KK D ca s) (hP : va_P D vwCl (wd ca ad S) H) {k : Nat} (hk : qk k = 3) (hl : (Cond.fieldLink own index "CrashDesk$Speed" "bottom" "I").before args s = true) (hdg : decode cc pc = .ok (.getfield index, 3)) (kk : W p l e R s m args below meth c H locs cells slots Q (F0 m (pc + 3) ls (.int (S.1 k 2) :: rest))) : W p l e R s m args below meth c H locs cells slots Q (F0 m pc ls (.ref (ad k) :: rest)) :=
  va_get (D := D) (ci := 3) (C := RX3) (T := TX3) (N := 6) hx hb hX (fun _ h => h) hown hKK.1 hP k ((wd_at (qk_lt hk (by decide))).trans (by rw [cel_3 hk])) rfl 2 (by decide) hl (fun _ h => h) rfl hdg kk
theorem p_X3_bottom (hx : p.tables.exec = Jvm.exec) (hb : c.code = cc) (hX : ∀ w ∈ wsX30, w.before args s = true) (hown : s.vm.findClass own = some m.cls) (hj : Inj ad) (hKK : KK D ca s) (hP : va_P D vwCl (wd ca ad S) H) (hS : va_S (Aq ad s.heap.size) s.heap H locs) {k : Nat} {x : Int32} (hk : qk k = 3) (hl : (Cond.fieldLink own index "CrashDesk$Speed" "bottom" "I").before args s = true) (hdg : decode cc pc = .ok (.putfield index, 3)) (kk : ∀ (H1 : Heap) (locs1 : List Loc), va_P D vwCl (wd ca ad (setF k 2 x S)) H1 → va_S (Aq ad s.heap.size) s.heap H1 locs1 → W p l e R s m args below meth c H1 locs1 cells slots Q (F0 m (pc + 3) ls rest)) : W p l e R s m args below meth c H locs cells slots Q (F0 m pc ls (.int x :: .ref (ad k) :: rest)) := by
  have h68 : k < 68 := qk_lt hk (by decide)
  refine va_put (D := D) (ci := 3) (C := RX3) (T := TX3) (N := 6) (ty := .int) hx hb hX (fun _ h => h) tyX3 tyX3_ok nmX3 hown hKK.1 hP (wd_D hj) hS k ((wd_at h68).trans (by rw [cel_3 hk])) rfl 2 (by decide) hl (fun _ h => h) rfl (by decide +kernel) rfl rfl (Nat.le_of_ble_eq_true rfl) hdg (fun H1 locs1 hP1 _ hS1 => kk H1 locs1 ?_ hS1)
  have e := wd_setV (ca := ca) (ad := ad) (S := S) (k := k) (r := upd (S.1 k) 2 x) h68 (cel_3 hk)
  show va_P D vwCl (wd ca ad (va_up S.1 k (upd (S.1 k) 2 x), S.2)) H1
  rw [← e]
  exact hP1
theorem g_X3_top (hx : p.tables.exec = Jvm.exec) (hb : c.code = cc) (hX : ∀ w ∈ wsX30, w.before args s = true) (hown : s.vm.findClass own = some m.cls) (hKK : KK D ca s) (hP : va_P D vwCl (wd ca ad S) H) {k : Nat} (hk : qk k = 3) (hl : (Cond.fieldLink own index "CrashDesk$Speed" "top" "I").before args s = true) (hdg : decode cc pc = .ok (.getfield index, 3)) (kk : W p l e R s m args below meth c H locs cells slots Q (F0 m (pc + 3) ls (.int (S.1 k 3) :: rest))) : W p l e R s m args below meth c H locs cells slots Q (F0 m pc ls (.ref (ad k) :: rest)) :=
  va_get (D := D) (ci := 3) (C := RX3) (T := TX3) (N := 6) hx hb hX (fun _ h => h) hown hKK.1 hP k ((wd_at (qk_lt hk (by decide))).trans (by rw [cel_3 hk])) rfl 3 (by decide) hl (fun _ h => h) rfl hdg kk
theorem p_X3_top (hx : p.tables.exec = Jvm.exec) (hb : c.code = cc) (hX : ∀ w ∈ wsX30, w.before args s = true) (hown : s.vm.findClass own = some m.cls) (hj : Inj ad) (hKK : KK D ca s) (hP : va_P D vwCl (wd ca ad S) H) (hS : va_S (Aq ad s.heap.size) s.heap H locs) {k : Nat} {x : Int32} (hk : qk k = 3) (hl : (Cond.fieldLink own index "CrashDesk$Speed" "top" "I").before args s = true) (hdg : decode cc pc = .ok (.putfield index, 3)) (kk : ∀ (H1 : Heap) (locs1 : List Loc), va_P D vwCl (wd ca ad (setF k 3 x S)) H1 → va_S (Aq ad s.heap.size) s.heap H1 locs1 → W p l e R s m args below meth c H1 locs1 cells slots Q (F0 m (pc + 3) ls rest)) : W p l e R s m args below meth c H locs cells slots Q (F0 m pc ls (.int x :: .ref (ad k) :: rest)) := by
  have h68 : k < 68 := qk_lt hk (by decide)
  refine va_put (D := D) (ci := 3) (C := RX3) (T := TX3) (N := 6) (ty := .int) hx hb hX (fun _ h => h) tyX3 tyX3_ok nmX3 hown hKK.1 hP (wd_D hj) hS k ((wd_at h68).trans (by rw [cel_3 hk])) rfl 3 (by decide) hl (fun _ h => h) rfl (by decide +kernel) rfl rfl (Nat.le_of_ble_eq_true rfl) hdg (fun H1 locs1 hP1 _ hS1 => kk H1 locs1 ?_ hS1)
  have e := wd_setV (ca := ca) (ad := ad) (S := S) (k := k) (r := upd (S.1 k) 3 x) h68 (cel_3 hk)
  show va_P D vwCl (wd ca ad (va_up S.1 k (upd (S.1 k) 3 x), S.2)) H1
  rw [← e]
  exact hP1
theorem g_X3_prices (hx : p.tables.exec = Jvm.exec) (hb : c.code = cc) (hX : ∀ w ∈ wsX30, w.before args s = true) (hown : s.vm.findClass own = some m.cls) (hKK : KK D ca s) (hP : va_P D vwCl (wd ca ad S) H) {k : Nat} (hk : qk k = 3) (hl : (Cond.fieldLink own index "CrashDesk$Speed" "prices" "[I").before args s = true) (hdg : decode cc pc = .ok (.getfield index, 3)) (kk : W p l e R s m args below meth c H locs cells slots Q (F0 m (pc + 3) ls (.ref (ad (k + 1)) :: rest))) : W p l e R s m args below meth c H locs cells slots Q (F0 m pc ls (.ref (ad k) :: rest)) :=
  va_get (D := D) (ci := 3) (C := RX3) (T := TX3) (N := 6) hx hb hX (fun _ h => h) hown hKK.1 hP k ((wd_at (qk_lt hk (by decide))).trans (by rw [cel_3 hk])) rfl 4 (by decide) hl (fun _ h => h) rfl hdg kk
theorem gN_X3_prices (hx : p.tables.exec = Jvm.exec) (hb : c.code = cc) (hX : ∀ w ∈ wsX30, w.before args s = true) (hown : s.vm.findClass own = some m.cls) (hKK : KK D ca s) (hP : va_P D vwCl (wd ca ad S) H) {k : Nat} (hk : qk k = 3) (hl : va_Nw (.fieldLinkNest own index "CrashDesk$Speed" "prices" "[I" "CrashDesk") s) (hdg : decode cc pc = .ok (.getfield index, 3)) (kk : W p l e R s m args below meth c H locs cells slots Q (F0 m (pc + 3) ls (.ref (ad (k + 1)) :: rest))) : W p l e R s m args below meth c H locs cells slots Q (F0 m pc ls (.ref (ad k) :: rest)) :=
  va_getN (D := D) (ci := 3) (C := RX3) (T := TX3) (N := 6) hx hb hX (fun _ h => h) hown hKK.1 hP k ((wd_at (qk_lt hk (by decide))).trans (by rw [cel_3 hk])) rfl 4 (by decide) (va_Nw.use rfl hl) (fun _ h => h) rfl hdg kk
theorem g_X3_seen (hx : p.tables.exec = Jvm.exec) (hb : c.code = cc) (hX : ∀ w ∈ wsX30, w.before args s = true) (hown : s.vm.findClass own = some m.cls) (hKK : KK D ca s) (hP : va_P D vwCl (wd ca ad S) H) {k : Nat} (hk : qk k = 3) (hl : (Cond.fieldLink own index "CrashDesk$Speed" "seen" "[Z").before args s = true) (hdg : decode cc pc = .ok (.getfield index, 3)) (kk : W p l e R s m args below meth c H locs cells slots Q (F0 m (pc + 3) ls (.ref (ad (k + 2)) :: rest))) : W p l e R s m args below meth c H locs cells slots Q (F0 m pc ls (.ref (ad k) :: rest)) :=
  va_get (D := D) (ci := 3) (C := RX3) (T := TX3) (N := 6) hx hb hX (fun _ h => h) hown hKK.1 hP k ((wd_at (qk_lt hk (by decide))).trans (by rw [cel_3 hk])) rfl 5 (by decide) hl (fun _ h => h) rfl hdg kk
theorem gN_X3_seen (hx : p.tables.exec = Jvm.exec) (hb : c.code = cc) (hX : ∀ w ∈ wsX30, w.before args s = true) (hown : s.vm.findClass own = some m.cls) (hKK : KK D ca s) (hP : va_P D vwCl (wd ca ad S) H) {k : Nat} (hk : qk k = 3) (hl : va_Nw (.fieldLinkNest own index "CrashDesk$Speed" "seen" "[Z" "CrashDesk") s) (hdg : decode cc pc = .ok (.getfield index, 3)) (kk : W p l e R s m args below meth c H locs cells slots Q (F0 m (pc + 3) ls (.ref (ad (k + 2)) :: rest))) : W p l e R s m args below meth c H locs cells slots Q (F0 m pc ls (.ref (ad k) :: rest)) :=
  va_getN (D := D) (ci := 3) (C := RX3) (T := TX3) (N := 6) hx hb hX (fun _ h => h) hown hKK.1 hP k ((wd_at (qk_lt hk (by decide))).trans (by rw [cel_3 hk])) rfl 5 (by decide) (va_Nw.use rfl hl) (fun _ h => h) rfl hdg kk
theorem g_X4_car (hx : p.tables.exec = Jvm.exec) (hb : c.code = cc) (hX : ∀ w ∈ wsX40, w.before args s = true) (hown : s.vm.findClass own = some m.cls) (hKK : KK D ca s) (hP : va_P D vwCl (wd ca ad S) H) {k : Nat} (hk : qk k = 4) (hl : (Cond.fieldLink own index "CrashDesk$Tale" "car" "I").before args s = true) (hdg : decode cc pc = .ok (.getfield index, 3)) (kk : W p l e R s m args below meth c H locs cells slots Q (F0 m (pc + 3) ls (.int (S.1 k 0) :: rest))) : W p l e R s m args below meth c H locs cells slots Q (F0 m pc ls (.ref (ad k) :: rest)) :=
  va_get (D := D) (ci := 4) (C := RX4) (T := TX4) (N := 4) hx hb hX (fun _ h => h) hown hKK.1 hP k ((wd_at (qk_lt hk (by decide))).trans (by rw [cel_4 hk])) rfl 0 (by decide) hl (fun _ h => h) rfl hdg kk
theorem p_X4_car (hx : p.tables.exec = Jvm.exec) (hb : c.code = cc) (hX : ∀ w ∈ wsX40, w.before args s = true) (hown : s.vm.findClass own = some m.cls) (hj : Inj ad) (hKK : KK D ca s) (hP : va_P D vwCl (wd ca ad S) H) (hS : va_S (Aq ad s.heap.size) s.heap H locs) {k : Nat} {x : Int32} (hk : qk k = 4) (hl : (Cond.fieldLink own index "CrashDesk$Tale" "car" "I").before args s = true) (hdg : decode cc pc = .ok (.putfield index, 3)) (kk : ∀ (H1 : Heap) (locs1 : List Loc), va_P D vwCl (wd ca ad (setF k 0 x S)) H1 → va_S (Aq ad s.heap.size) s.heap H1 locs1 → W p l e R s m args below meth c H1 locs1 cells slots Q (F0 m (pc + 3) ls rest)) : W p l e R s m args below meth c H locs cells slots Q (F0 m pc ls (.int x :: .ref (ad k) :: rest)) := by
  have h68 : k < 68 := qk_lt hk (by decide)
  refine va_put (D := D) (ci := 4) (C := RX4) (T := TX4) (N := 4) (ty := .int) hx hb hX (fun _ h => h) tyX4 tyX4_ok nmX4 hown hKK.1 hP (wd_D hj) hS k ((wd_at h68).trans (by rw [cel_4 hk])) rfl 0 (by decide) hl (fun _ h => h) rfl (by decide +kernel) rfl rfl (Nat.le_of_ble_eq_true rfl) hdg (fun H1 locs1 hP1 _ hS1 => kk H1 locs1 ?_ hS1)
  have e := wd_setV (ca := ca) (ad := ad) (S := S) (k := k) (r := upd (S.1 k) 0 x) h68 (cel_4 hk)
  show va_P D vwCl (wd ca ad (va_up S.1 k (upd (S.1 k) 0 x), S.2)) H1
  rw [← e]
  exact hP1
theorem g_X4_speed (hx : p.tables.exec = Jvm.exec) (hb : c.code = cc) (hX : ∀ w ∈ wsX40, w.before args s = true) (hown : s.vm.findClass own = some m.cls) (hKK : KK D ca s) (hP : va_P D vwCl (wd ca ad S) H) {k : Nat} (hk : qk k = 4) (hl : (Cond.fieldLink own index "CrashDesk$Tale" "speed" "I").before args s = true) (hdg : decode cc pc = .ok (.getfield index, 3)) (kk : W p l e R s m args below meth c H locs cells slots Q (F0 m (pc + 3) ls (.int (S.1 k 1) :: rest))) : W p l e R s m args below meth c H locs cells slots Q (F0 m pc ls (.ref (ad k) :: rest)) :=
  va_get (D := D) (ci := 4) (C := RX4) (T := TX4) (N := 4) hx hb hX (fun _ h => h) hown hKK.1 hP k ((wd_at (qk_lt hk (by decide))).trans (by rw [cel_4 hk])) rfl 1 (by decide) hl (fun _ h => h) rfl hdg kk
theorem p_X4_speed (hx : p.tables.exec = Jvm.exec) (hb : c.code = cc) (hX : ∀ w ∈ wsX40, w.before args s = true) (hown : s.vm.findClass own = some m.cls) (hj : Inj ad) (hKK : KK D ca s) (hP : va_P D vwCl (wd ca ad S) H) (hS : va_S (Aq ad s.heap.size) s.heap H locs) {k : Nat} {x : Int32} (hk : qk k = 4) (hl : (Cond.fieldLink own index "CrashDesk$Tale" "speed" "I").before args s = true) (hdg : decode cc pc = .ok (.putfield index, 3)) (kk : ∀ (H1 : Heap) (locs1 : List Loc), va_P D vwCl (wd ca ad (setF k 1 x S)) H1 → va_S (Aq ad s.heap.size) s.heap H1 locs1 → W p l e R s m args below meth c H1 locs1 cells slots Q (F0 m (pc + 3) ls rest)) : W p l e R s m args below meth c H locs cells slots Q (F0 m pc ls (.int x :: .ref (ad k) :: rest)) := by
  have h68 : k < 68 := qk_lt hk (by decide)
  refine va_put (D := D) (ci := 4) (C := RX4) (T := TX4) (N := 4) (ty := .int) hx hb hX (fun _ h => h) tyX4 tyX4_ok nmX4 hown hKK.1 hP (wd_D hj) hS k ((wd_at h68).trans (by rw [cel_4 hk])) rfl 1 (by decide) hl (fun _ h => h) rfl (by decide +kernel) rfl rfl (Nat.le_of_ble_eq_true rfl) hdg (fun H1 locs1 hP1 _ hS1 => kk H1 locs1 ?_ hS1)
  have e := wd_setV (ca := ca) (ad := ad) (S := S) (k := k) (r := upd (S.1 k) 1 x) h68 (cel_4 hk)
  show va_P D vwCl (wd ca ad (va_up S.1 k (upd (S.1 k) 1 x), S.2)) H1
  rw [← e]
  exact hP1
theorem g_X4_low (hx : p.tables.exec = Jvm.exec) (hb : c.code = cc) (hX : ∀ w ∈ wsX40, w.before args s = true) (hown : s.vm.findClass own = some m.cls) (hKK : KK D ca s) (hP : va_P D vwCl (wd ca ad S) H) {k : Nat} (hk : qk k = 4) (hl : (Cond.fieldLink own index "CrashDesk$Tale" "low" "I").before args s = true) (hdg : decode cc pc = .ok (.getfield index, 3)) (kk : W p l e R s m args below meth c H locs cells slots Q (F0 m (pc + 3) ls (.int (S.1 k 2) :: rest))) : W p l e R s m args below meth c H locs cells slots Q (F0 m pc ls (.ref (ad k) :: rest)) :=
  va_get (D := D) (ci := 4) (C := RX4) (T := TX4) (N := 4) hx hb hX (fun _ h => h) hown hKK.1 hP k ((wd_at (qk_lt hk (by decide))).trans (by rw [cel_4 hk])) rfl 2 (by decide) hl (fun _ h => h) rfl hdg kk
theorem p_X4_low (hx : p.tables.exec = Jvm.exec) (hb : c.code = cc) (hX : ∀ w ∈ wsX40, w.before args s = true) (hown : s.vm.findClass own = some m.cls) (hj : Inj ad) (hKK : KK D ca s) (hP : va_P D vwCl (wd ca ad S) H) (hS : va_S (Aq ad s.heap.size) s.heap H locs) {k : Nat} {x : Int32} (hk : qk k = 4) (hl : (Cond.fieldLink own index "CrashDesk$Tale" "low" "I").before args s = true) (hdg : decode cc pc = .ok (.putfield index, 3)) (kk : ∀ (H1 : Heap) (locs1 : List Loc), va_P D vwCl (wd ca ad (setF k 2 x S)) H1 → va_S (Aq ad s.heap.size) s.heap H1 locs1 → W p l e R s m args below meth c H1 locs1 cells slots Q (F0 m (pc + 3) ls rest)) : W p l e R s m args below meth c H locs cells slots Q (F0 m pc ls (.int x :: .ref (ad k) :: rest)) := by
  have h68 : k < 68 := qk_lt hk (by decide)
  refine va_put (D := D) (ci := 4) (C := RX4) (T := TX4) (N := 4) (ty := .int) hx hb hX (fun _ h => h) tyX4 tyX4_ok nmX4 hown hKK.1 hP (wd_D hj) hS k ((wd_at h68).trans (by rw [cel_4 hk])) rfl 2 (by decide) hl (fun _ h => h) rfl (by decide +kernel) rfl rfl (Nat.le_of_ble_eq_true rfl) hdg (fun H1 locs1 hP1 _ hS1 => kk H1 locs1 ?_ hS1)
  have e := wd_setV (ca := ca) (ad := ad) (S := S) (k := k) (r := upd (S.1 k) 2 x) h68 (cel_4 hk)
  show va_P D vwCl (wd ca ad (va_up S.1 k (upd (S.1 k) 2 x), S.2)) H1
  rw [← e]
  exact hP1
theorem g_X4_high (hx : p.tables.exec = Jvm.exec) (hb : c.code = cc) (hX : ∀ w ∈ wsX40, w.before args s = true) (hown : s.vm.findClass own = some m.cls) (hKK : KK D ca s) (hP : va_P D vwCl (wd ca ad S) H) {k : Nat} (hk : qk k = 4) (hl : (Cond.fieldLink own index "CrashDesk$Tale" "high" "I").before args s = true) (hdg : decode cc pc = .ok (.getfield index, 3)) (kk : W p l e R s m args below meth c H locs cells slots Q (F0 m (pc + 3) ls (.int (S.1 k 3) :: rest))) : W p l e R s m args below meth c H locs cells slots Q (F0 m pc ls (.ref (ad k) :: rest)) :=
  va_get (D := D) (ci := 4) (C := RX4) (T := TX4) (N := 4) hx hb hX (fun _ h => h) hown hKK.1 hP k ((wd_at (qk_lt hk (by decide))).trans (by rw [cel_4 hk])) rfl 3 (by decide) hl (fun _ h => h) rfl hdg kk
theorem p_X4_high (hx : p.tables.exec = Jvm.exec) (hb : c.code = cc) (hX : ∀ w ∈ wsX40, w.before args s = true) (hown : s.vm.findClass own = some m.cls) (hj : Inj ad) (hKK : KK D ca s) (hP : va_P D vwCl (wd ca ad S) H) (hS : va_S (Aq ad s.heap.size) s.heap H locs) {k : Nat} {x : Int32} (hk : qk k = 4) (hl : (Cond.fieldLink own index "CrashDesk$Tale" "high" "I").before args s = true) (hdg : decode cc pc = .ok (.putfield index, 3)) (kk : ∀ (H1 : Heap) (locs1 : List Loc), va_P D vwCl (wd ca ad (setF k 3 x S)) H1 → va_S (Aq ad s.heap.size) s.heap H1 locs1 → W p l e R s m args below meth c H1 locs1 cells slots Q (F0 m (pc + 3) ls rest)) : W p l e R s m args below meth c H locs cells slots Q (F0 m pc ls (.int x :: .ref (ad k) :: rest)) := by
  have h68 : k < 68 := qk_lt hk (by decide)
  refine va_put (D := D) (ci := 4) (C := RX4) (T := TX4) (N := 4) (ty := .int) hx hb hX (fun _ h => h) tyX4 tyX4_ok nmX4 hown hKK.1 hP (wd_D hj) hS k ((wd_at h68).trans (by rw [cel_4 hk])) rfl 3 (by decide) hl (fun _ h => h) rfl (by decide +kernel) rfl rfl (Nat.le_of_ble_eq_true rfl) hdg (fun H1 locs1 hP1 _ hS1 => kk H1 locs1 ?_ hS1)
  have e := wd_setV (ca := ca) (ad := ad) (S := S) (k := k) (r := upd (S.1 k) 3 x) h68 (cel_4 hk)
  show va_P D vwCl (wd ca ad (va_up S.1 k (upd (S.1 k) 3 x), S.2)) H1
  rw [← e]
  exact hP1
theorem g_X5_skids (hx : p.tables.exec = Jvm.exec) (hb : c.code = cc) (hX : ∀ w ∈ wsX50, w.before args s = true) (hown : s.vm.findClass own = some m.cls) (hKK : KK D ca s) (hP : va_P D vwCl (wd ca ad S) H) {k : Nat} (hk : qk k = 5) (hl : (Cond.fieldLink own index "CrashDesk" "skids" "[LCrashDesk$Skid;").before args s = true) (hdg : decode cc pc = .ok (.getfield index, 3)) (kk : W p l e R s m args below meth c H locs cells slots Q (F0 m (pc + 3) ls (.ref (ad 1) :: rest))) : W p l e R s m args below meth c H locs cells slots Q (F0 m pc ls (.ref (ad k) :: rest)) :=
  va_get (D := D) (ci := 5) (C := RX5) (T := TX5) (N := 8) hx hb hX (fun _ h => h) hown hKK.1 hP k ((wd_at (qk_lt hk (by decide))).trans (by rw [cel_5 hk])) rfl 0 (by decide) hl (fun _ h => h) rfl hdg kk
theorem g_X5_tales (hx : p.tables.exec = Jvm.exec) (hb : c.code = cc) (hX : ∀ w ∈ wsX50, w.before args s = true) (hown : s.vm.findClass own = some m.cls) (hKK : KK D ca s) (hP : va_P D vwCl (wd ca ad S) H) {k : Nat} (hk : qk k = 5) (hl : (Cond.fieldLink own index "CrashDesk" "tales" "[LCrashDesk$Tale;").before args s = true) (hdg : decode cc pc = .ok (.getfield index, 3)) (kk : W p l e R s m args below meth c H locs cells slots Q (F0 m (pc + 3) ls (.ref (ad 14) :: rest))) : W p l e R s m args below meth c H locs cells slots Q (F0 m pc ls (.ref (ad k) :: rest)) :=
  va_get (D := D) (ci := 5) (C := RX5) (T := TX5) (N := 8) hx hb hX (fun _ h => h) hown hKK.1 hP k ((wd_at (qk_lt hk (by decide))).trans (by rw [cel_5 hk])) rfl 1 (by decide) hl (fun _ h => h) rfl hdg kk
theorem g_X5_skidCount (hx : p.tables.exec = Jvm.exec) (hb : c.code = cc) (hX : ∀ w ∈ wsX50, w.before args s = true) (hown : s.vm.findClass own = some m.cls) (hKK : KK D ca s) (hP : va_P D vwCl (wd ca ad S) H) {k : Nat} (hk : qk k = 5) (hl : (Cond.fieldLink own index "CrashDesk" "skidCount" "I").before args s = true) (hdg : decode cc pc = .ok (.getfield index, 3)) (kk : W p l e R s m args below meth c H locs cells slots Q (F0 m (pc + 3) ls (.int (S.1 k 2) :: rest))) : W p l e R s m args below meth c H locs cells slots Q (F0 m pc ls (.ref (ad k) :: rest)) :=
  va_get (D := D) (ci := 5) (C := RX5) (T := TX5) (N := 8) hx hb hX (fun _ h => h) hown hKK.1 hP k ((wd_at (qk_lt hk (by decide))).trans (by rw [cel_5 hk])) rfl 2 (by decide) hl (fun _ h => h) rfl hdg kk
theorem p_X5_skidCount (hx : p.tables.exec = Jvm.exec) (hb : c.code = cc) (hX : ∀ w ∈ wsX50, w.before args s = true) (hown : s.vm.findClass own = some m.cls) (hj : Inj ad) (hKK : KK D ca s) (hP : va_P D vwCl (wd ca ad S) H) (hS : va_S (Aq ad s.heap.size) s.heap H locs) {k : Nat} {x : Int32} (hk : qk k = 5) (hl : (Cond.fieldLink own index "CrashDesk" "skidCount" "I").before args s = true) (hdg : decode cc pc = .ok (.putfield index, 3)) (kk : ∀ (H1 : Heap) (locs1 : List Loc), va_P D vwCl (wd ca ad (setF k 2 x S)) H1 → va_S (Aq ad s.heap.size) s.heap H1 locs1 → W p l e R s m args below meth c H1 locs1 cells slots Q (F0 m (pc + 3) ls rest)) : W p l e R s m args below meth c H locs cells slots Q (F0 m pc ls (.int x :: .ref (ad k) :: rest)) := by
  have h68 : k < 68 := qk_lt hk (by decide)
  refine va_put (D := D) (ci := 5) (C := RX5) (T := TX5) (N := 8) (ty := .int) hx hb hX (fun _ h => h) tyX5 tyX5_ok nmX5 hown hKK.1 hP (wd_D hj) hS k ((wd_at h68).trans (by rw [cel_5 hk])) rfl 2 (by decide) hl (fun _ h => h) rfl (by decide +kernel) rfl rfl (Nat.le_of_ble_eq_true rfl) hdg (fun H1 locs1 hP1 _ hS1 => kk H1 locs1 ?_ hS1)
  have e := wd_setV (ca := ca) (ad := ad) (S := S) (k := k) (r := upd (S.1 k) 2 x) h68 (cel_5 hk)
  show va_P D vwCl (wd ca ad (va_up S.1 k (upd (S.1 k) 2 x), S.2)) H1
  rw [← e]
  exact hP1
theorem g_X5_taleCount (hx : p.tables.exec = Jvm.exec) (hb : c.code = cc) (hX : ∀ w ∈ wsX50, w.before args s = true) (hown : s.vm.findClass own = some m.cls) (hKK : KK D ca s) (hP : va_P D vwCl (wd ca ad S) H) {k : Nat} (hk : qk k = 5) (hl : (Cond.fieldLink own index "CrashDesk" "taleCount" "I").before args s = true) (hdg : decode cc pc = .ok (.getfield index, 3)) (kk : W p l e R s m args below meth c H locs cells slots Q (F0 m (pc + 3) ls (.int (S.1 k 3) :: rest))) : W p l e R s m args below meth c H locs cells slots Q (F0 m pc ls (.ref (ad k) :: rest)) :=
  va_get (D := D) (ci := 5) (C := RX5) (T := TX5) (N := 8) hx hb hX (fun _ h => h) hown hKK.1 hP k ((wd_at (qk_lt hk (by decide))).trans (by rw [cel_5 hk])) rfl 3 (by decide) hl (fun _ h => h) rfl hdg kk
theorem p_X5_taleCount (hx : p.tables.exec = Jvm.exec) (hb : c.code = cc) (hX : ∀ w ∈ wsX50, w.before args s = true) (hown : s.vm.findClass own = some m.cls) (hj : Inj ad) (hKK : KK D ca s) (hP : va_P D vwCl (wd ca ad S) H) (hS : va_S (Aq ad s.heap.size) s.heap H locs) {k : Nat} {x : Int32} (hk : qk k = 5) (hl : (Cond.fieldLink own index "CrashDesk" "taleCount" "I").before args s = true) (hdg : decode cc pc = .ok (.putfield index, 3)) (kk : ∀ (H1 : Heap) (locs1 : List Loc), va_P D vwCl (wd ca ad (setF k 3 x S)) H1 → va_S (Aq ad s.heap.size) s.heap H1 locs1 → W p l e R s m args below meth c H1 locs1 cells slots Q (F0 m (pc + 3) ls rest)) : W p l e R s m args below meth c H locs cells slots Q (F0 m pc ls (.int x :: .ref (ad k) :: rest)) := by
  have h68 : k < 68 := qk_lt hk (by decide)
  refine va_put (D := D) (ci := 5) (C := RX5) (T := TX5) (N := 8) (ty := .int) hx hb hX (fun _ h => h) tyX5 tyX5_ok nmX5 hown hKK.1 hP (wd_D hj) hS k ((wd_at h68).trans (by rw [cel_5 hk])) rfl 3 (by decide) hl (fun _ h => h) rfl (by decide +kernel) rfl rfl (Nat.le_of_ble_eq_true rfl) hdg (fun H1 locs1 hP1 _ hS1 => kk H1 locs1 ?_ hS1)
  have e := wd_setV (ca := ca) (ad := ad) (S := S) (k := k) (r := upd (S.1 k) 3 x) h68 (cel_5 hk)
  show va_P D vwCl (wd ca ad (va_up S.1 k (upd (S.1 k) 3 x), S.2)) H1
  rw [← e]
  exact hP1
theorem g_X5_meeting (hx : p.tables.exec = Jvm.exec) (hb : c.code = cc) (hX : ∀ w ∈ wsX50, w.before args s = true) (hown : s.vm.findClass own = some m.cls) (hKK : KK D ca s) (hP : va_P D vwCl (wd ca ad S) H) {k : Nat} (hk : qk k = 5) (hl : (Cond.fieldLink own index "CrashDesk" "meeting" "LCrashDesk$Meeting;").before args s = true) (hdg : decode cc pc = .ok (.getfield index, 3)) (kk : W p l e R s m args below meth c H locs cells slots Q (F0 m (pc + 3) ls (.ref (ad 25) :: rest))) : W p l e R s m args below meth c H locs cells slots Q (F0 m pc ls (.ref (ad k) :: rest)) :=
  va_get (D := D) (ci := 5) (C := RX5) (T := TX5) (N := 8) hx hb hX (fun _ h => h) hown hKK.1 hP k ((wd_at (qk_lt hk (by decide))).trans (by rw [cel_5 hk])) rfl 4 (by decide) hl (fun _ h => h) rfl hdg kk
theorem g_X5_reckoned (hx : p.tables.exec = Jvm.exec) (hb : c.code = cc) (hX : ∀ w ∈ wsX50, w.before args s = true) (hown : s.vm.findClass own = some m.cls) (hKK : KK D ca s) (hP : va_P D vwCl (wd ca ad S) H) {k : Nat} (hk : qk k = 5) (hl : (Cond.fieldLink own index "CrashDesk" "reckoned" "Z").before args s = true) (hdg : decode cc pc = .ok (.getfield index, 3)) (kk : W p l e R s m args below meth c H locs cells slots Q (F0 m (pc + 3) ls (.int (S.1 k 5) :: rest))) : W p l e R s m args below meth c H locs cells slots Q (F0 m pc ls (.ref (ad k) :: rest)) :=
  va_get (D := D) (ci := 5) (C := RX5) (T := TX5) (N := 8) hx hb hX (fun _ h => h) hown hKK.1 hP k ((wd_at (qk_lt hk (by decide))).trans (by rw [cel_5 hk])) rfl 5 (by decide) hl (fun _ h => h) rfl hdg kk
theorem p_X5_reckoned (hx : p.tables.exec = Jvm.exec) (hb : c.code = cc) (hX : ∀ w ∈ wsX50, w.before args s = true) (hown : s.vm.findClass own = some m.cls) (hj : Inj ad) (hKK : KK D ca s) (hP : va_P D vwCl (wd ca ad S) H) (hS : va_S (Aq ad s.heap.size) s.heap H locs) {k : Nat} {x : Int32} (hk : qk k = 5) (h : stZ k 5 x S = some S1) (hl : (Cond.fieldLink own index "CrashDesk" "reckoned" "Z").before args s = true) (hdg : decode cc pc = .ok (.putfield index, 3)) (kk : ∀ (H1 : Heap) (locs1 : List Loc), va_P D vwCl (wd ca ad S1) H1 → va_S (Aq ad s.heap.size) s.heap H1 locs1 → W p l e R s m args below meth c H1 locs1 cells slots Q (F0 m (pc + 3) ls rest)) : W p l e R s m args below meth c H locs cells slots Q (F0 m pc ls (.int x :: .ref (ad k) :: rest)) := by
  obtain ⟨hz, rfl⟩ := q_stZ h
  have h68 : k < 68 := qk_lt hk (by decide)
  refine va_put (D := D) (ci := 5) (C := RX5) (T := TX5) (N := 8) (ty := .boolean) hx hb hX (fun _ h => h) tyX5 tyX5_ok nmX5 hown hKK.1 hP (wd_D hj) hS k ((wd_at h68).trans (by rw [cel_5 hk])) rfl 5 (by decide) hl (fun _ h => h) rfl (by decide +kernel) (q_nz hz) (q_fz hz) (Nat.le_of_ble_eq_true rfl) hdg (fun H1 locs1 hP1 _ hS1 => kk H1 locs1 ?_ hS1)
  have e := wd_setV (ca := ca) (ad := ad) (S := S) (k := k) (r := upd (S.1 k) 5 x) h68 (cel_5 hk)
  show va_P D vwCl (wd ca ad (va_up S.1 k (upd (S.1 k) 5 x), S.2)) H1
  rw [← e]
  exact hP1
theorem g_X5_reckonedTales (hx : p.tables.exec = Jvm.exec) (hb : c.code = cc) (hX : ∀ w ∈ wsX50, w.before args s = true) (hown : s.vm.findClass own = some m.cls) (hKK : KK D ca s) (hP : va_P D vwCl (wd ca ad S) H) {k : Nat} (hk : qk k = 5) (hl : (Cond.fieldLink own index "CrashDesk" "reckonedTales" "I").before args s = true) (hdg : decode cc pc = .ok (.getfield index, 3)) (kk : W p l e R s m args below meth c H locs cells slots Q (F0 m (pc + 3) ls (.int (S.1 k 6) :: rest))) : W p l e R s m args below meth c H locs cells slots Q (F0 m pc ls (.ref (ad k) :: rest)) :=
  va_get (D := D) (ci := 5) (C := RX5) (T := TX5) (N := 8) hx hb hX (fun _ h => h) hown hKK.1 hP k ((wd_at (qk_lt hk (by decide))).trans (by rw [cel_5 hk])) rfl 6 (by decide) hl (fun _ h => h) rfl hdg kk
theorem p_X5_reckonedTales (hx : p.tables.exec = Jvm.exec) (hb : c.code = cc) (hX : ∀ w ∈ wsX50, w.before args s = true) (hown : s.vm.findClass own = some m.cls) (hj : Inj ad) (hKK : KK D ca s) (hP : va_P D vwCl (wd ca ad S) H) (hS : va_S (Aq ad s.heap.size) s.heap H locs) {k : Nat} {x : Int32} (hk : qk k = 5) (hl : (Cond.fieldLink own index "CrashDesk" "reckonedTales" "I").before args s = true) (hdg : decode cc pc = .ok (.putfield index, 3)) (kk : ∀ (H1 : Heap) (locs1 : List Loc), va_P D vwCl (wd ca ad (setF k 6 x S)) H1 → va_S (Aq ad s.heap.size) s.heap H1 locs1 → W p l e R s m args below meth c H1 locs1 cells slots Q (F0 m (pc + 3) ls rest)) : W p l e R s m args below meth c H locs cells slots Q (F0 m pc ls (.int x :: .ref (ad k) :: rest)) := by
  have h68 : k < 68 := qk_lt hk (by decide)
  refine va_put (D := D) (ci := 5) (C := RX5) (T := TX5) (N := 8) (ty := .int) hx hb hX (fun _ h => h) tyX5 tyX5_ok nmX5 hown hKK.1 hP (wd_D hj) hS k ((wd_at h68).trans (by rw [cel_5 hk])) rfl 6 (by decide) hl (fun _ h => h) rfl (by decide +kernel) rfl rfl (Nat.le_of_ble_eq_true rfl) hdg (fun H1 locs1 hP1 _ hS1 => kk H1 locs1 ?_ hS1)
  have e := wd_setV (ca := ca) (ad := ad) (S := S) (k := k) (r := upd (S.1 k) 6 x) h68 (cel_5 hk)
  show va_P D vwCl (wd ca ad (va_up S.1 k (upd (S.1 k) 6 x), S.2)) H1
  rw [← e]
  exact hP1
theorem g_X5_reckonedWithout (hx : p.tables.exec = Jvm.exec) (hb : c.code = cc) (hX : ∀ w ∈ wsX50, w.before args s = true) (hown : s.vm.findClass own = some m.cls) (hKK : KK D ca s) (hP : va_P D vwCl (wd ca ad S) H) {k : Nat} (hk : qk k = 5) (hl : (Cond.fieldLink own index "CrashDesk" "reckonedWithout" "I").before args s = true) (hdg : decode cc pc = .ok (.getfield index, 3)) (kk : W p l e R s m args below meth c H locs cells slots Q (F0 m (pc + 3) ls (.int (S.1 k 7) :: rest))) : W p l e R s m args below meth c H locs cells slots Q (F0 m pc ls (.ref (ad k) :: rest)) :=
  va_get (D := D) (ci := 5) (C := RX5) (T := TX5) (N := 8) hx hb hX (fun _ h => h) hown hKK.1 hP k ((wd_at (qk_lt hk (by decide))).trans (by rw [cel_5 hk])) rfl 7 (by decide) hl (fun _ h => h) rfl hdg kk
theorem p_X5_reckonedWithout (hx : p.tables.exec = Jvm.exec) (hb : c.code = cc) (hX : ∀ w ∈ wsX50, w.before args s = true) (hown : s.vm.findClass own = some m.cls) (hj : Inj ad) (hKK : KK D ca s) (hP : va_P D vwCl (wd ca ad S) H) (hS : va_S (Aq ad s.heap.size) s.heap H locs) {k : Nat} {x : Int32} (hk : qk k = 5) (hl : (Cond.fieldLink own index "CrashDesk" "reckonedWithout" "I").before args s = true) (hdg : decode cc pc = .ok (.putfield index, 3)) (kk : ∀ (H1 : Heap) (locs1 : List Loc), va_P D vwCl (wd ca ad (setF k 7 x S)) H1 → va_S (Aq ad s.heap.size) s.heap H1 locs1 → W p l e R s m args below meth c H1 locs1 cells slots Q (F0 m (pc + 3) ls rest)) : W p l e R s m args below meth c H locs cells slots Q (F0 m pc ls (.int x :: .ref (ad k) :: rest)) := by
  have h68 : k < 68 := qk_lt hk (by decide)
  refine va_put (D := D) (ci := 5) (C := RX5) (T := TX5) (N := 8) (ty := .int) hx hb hX (fun _ h => h) tyX5 tyX5_ok nmX5 hown hKK.1 hP (wd_D hj) hS k ((wd_at h68).trans (by rw [cel_5 hk])) rfl 7 (by decide) hl (fun _ h => h) rfl (by decide +kernel) rfl rfl (Nat.le_of_ble_eq_true rfl) hdg (fun H1 locs1 hP1 _ hS1 => kk H1 locs1 ?_ hS1)
  have e := wd_setV (ca := ca) (ad := ad) (S := S) (k := k) (r := upd (S.1 k) 7 x) h68 (cel_5 hk)
  show va_P D vwCl (wd ca ad (va_up S.1 k (upd (S.1 k) 7 x), S.2)) H1
  rw [← e]
  exact hP1
theorem g_X6_thrown (hx : p.tables.exec = Jvm.exec) (hb : c.code = cc) (hX : ∀ w ∈ wsX60, w.before args s = true) (hown : s.vm.findClass own = some m.cls) (hKK : KK D ca s) (hP : va_P D vwCl (wd ca ad S) H) {k : Nat} (hk : qk k = 6) (hl : (Cond.fieldLink own index "CrashDeskModel" "thrown" "I").before args s = true) (hdg : decode cc pc = .ok (.getfield index, 3)) (kk : W p l e R s m args below meth c H locs cells slots Q (F0 m (pc + 3) ls (.int (S.1 k 0) :: rest))) : W p l e R s m args below meth c H locs cells slots Q (F0 m pc ls (.ref (ad k) :: rest)) :=
  va_get (D := D) (ci := 6) (C := RX6) (T := TX6) (N := 23) hx hb hX (fun _ h => h) hown hKK.1 hP k ((wd_at (qk_lt hk (by decide))).trans (by rw [cel_6 hk])) rfl 0 (by decide) hl (fun _ h => h) rfl hdg kk
theorem p_X6_thrown (hx : p.tables.exec = Jvm.exec) (hb : c.code = cc) (hX : ∀ w ∈ wsX60, w.before args s = true) (hown : s.vm.findClass own = some m.cls) (hj : Inj ad) (hKK : KK D ca s) (hP : va_P D vwCl (wd ca ad S) H) (hS : va_S (Aq ad s.heap.size) s.heap H locs) {k : Nat} {x : Int32} (hk : qk k = 6) (hl : (Cond.fieldLink own index "CrashDeskModel" "thrown" "I").before args s = true) (hdg : decode cc pc = .ok (.putfield index, 3)) (kk : ∀ (H1 : Heap) (locs1 : List Loc), va_P D vwCl (wd ca ad (setF k 0 x S)) H1 → va_S (Aq ad s.heap.size) s.heap H1 locs1 → W p l e R s m args below meth c H1 locs1 cells slots Q (F0 m (pc + 3) ls rest)) : W p l e R s m args below meth c H locs cells slots Q (F0 m pc ls (.int x :: .ref (ad k) :: rest)) := by
  have h68 : k < 68 := qk_lt hk (by decide)
  refine va_put (D := D) (ci := 6) (C := RX6) (T := TX6) (N := 23) (ty := .int) hx hb hX (fun _ h => h) tyX6 tyX6_ok nmX6 hown hKK.1 hP (wd_D hj) hS k ((wd_at h68).trans (by rw [cel_6 hk])) rfl 0 (by decide) hl (fun _ h => h) rfl (by decide +kernel) rfl rfl (Nat.le_of_ble_eq_true rfl) hdg (fun H1 locs1 hP1 _ hS1 => kk H1 locs1 ?_ hS1)
  have e := wd_setV (ca := ca) (ad := ad) (S := S) (k := k) (r := upd (S.1 k) 0 x) h68 (cel_6 hk)
  show va_P D vwCl (wd ca ad (va_up S.1 k (upd (S.1 k) 0 x), S.2)) H1
  rw [← e]
  exact hP1
theorem g_X6_mass (hx : p.tables.exec = Jvm.exec) (hb : c.code = cc) (hX : ∀ w ∈ wsX60, w.before args s = true) (hown : s.vm.findClass own = some m.cls) (hKK : KK D ca s) (hP : va_P D vwCl (wd ca ad S) H) {k : Nat} (hk : qk k = 6) (hl : (Cond.fieldLink own index "CrashDeskModel" "mass" "[I").before args s = true) (hdg : decode cc pc = .ok (.getfield index, 3)) (kk : W p l e R s m args below meth c H locs cells slots Q (F0 m (pc + 3) ls (.ref (ad 49) :: rest))) : W p l e R s m args below meth c H locs cells slots Q (F0 m pc ls (.ref (ad k) :: rest)) :=
  va_get (D := D) (ci := 6) (C := RX6) (T := TX6) (N := 23) hx hb hX (fun _ h => h) hown hKK.1 hP k ((wd_at (qk_lt hk (by decide))).trans (by rw [cel_6 hk])) rfl 1 (by decide) hl (fun _ h => h) rfl hdg kk
theorem g_X6_sCar (hx : p.tables.exec = Jvm.exec) (hb : c.code = cc) (hX : ∀ w ∈ wsX60, w.before args s = true) (hown : s.vm.findClass own = some m.cls) (hKK : KK D ca s) (hP : va_P D vwCl (wd ca ad S) H) {k : Nat} (hk : qk k = 6) (hl : (Cond.fieldLink own index "CrashDeskModel" "sCar" "[I").before args s = true) (hdg : decode cc pc = .ok (.getfield index, 3)) (kk : W p l e R s m args below meth c H locs cells slots Q (F0 m (pc + 3) ls (.ref (ad 50) :: rest))) : W p l e R s m args below meth c H locs cells slots Q (F0 m pc ls (.ref (ad k) :: rest)) :=
  va_get (D := D) (ci := 6) (C := RX6) (T := TX6) (N := 23) hx hb hX (fun _ h => h) hown hKK.1 hP k ((wd_at (qk_lt hk (by decide))).trans (by rw [cel_6 hk])) rfl 2 (by decide) hl (fun _ h => h) rfl hdg kk
theorem g_X6_sBehind (hx : p.tables.exec = Jvm.exec) (hb : c.code = cc) (hX : ∀ w ∈ wsX60, w.before args s = true) (hown : s.vm.findClass own = some m.cls) (hKK : KK D ca s) (hP : va_P D vwCl (wd ca ad S) H) {k : Nat} (hk : qk k = 6) (hl : (Cond.fieldLink own index "CrashDeskModel" "sBehind" "[Z").before args s = true) (hdg : decode cc pc = .ok (.getfield index, 3)) (kk : W p l e R s m args below meth c H locs cells slots Q (F0 m (pc + 3) ls (.ref (ad 51) :: rest))) : W p l e R s m args below meth c H locs cells slots Q (F0 m pc ls (.ref (ad k) :: rest)) :=
  va_get (D := D) (ci := 6) (C := RX6) (T := TX6) (N := 23) hx hb hX (fun _ h => h) hown hKK.1 hP k ((wd_at (qk_lt hk (by decide))).trans (by rw [cel_6 hk])) rfl 3 (by decide) hl (fun _ h => h) rfl hdg kk
theorem g_X6_sLeast (hx : p.tables.exec = Jvm.exec) (hb : c.code = cc) (hX : ∀ w ∈ wsX60, w.before args s = true) (hown : s.vm.findClass own = some m.cls) (hKK : KK D ca s) (hP : va_P D vwCl (wd ca ad S) H) {k : Nat} (hk : qk k = 6) (hl : (Cond.fieldLink own index "CrashDeskModel" "sLeast" "[I").before args s = true) (hdg : decode cc pc = .ok (.getfield index, 3)) (kk : W p l e R s m args below meth c H locs cells slots Q (F0 m (pc + 3) ls (.ref (ad 52) :: rest))) : W p l e R s m args below meth c H locs cells slots Q (F0 m pc ls (.ref (ad k) :: rest)) :=
  va_get (D := D) (ci := 6) (C := RX6) (T := TX6) (N := 23) hx hb hX (fun _ h => h) hown hKK.1 hP k ((wd_at (qk_lt hk (by decide))).trans (by rw [cel_6 hk])) rfl 4 (by decide) hl (fun _ h => h) rfl hdg kk
theorem g_X6_sMost (hx : p.tables.exec = Jvm.exec) (hb : c.code = cc) (hX : ∀ w ∈ wsX60, w.before args s = true) (hown : s.vm.findClass own = some m.cls) (hKK : KK D ca s) (hP : va_P D vwCl (wd ca ad S) H) {k : Nat} (hk : qk k = 6) (hl : (Cond.fieldLink own index "CrashDeskModel" "sMost" "[I").before args s = true) (hdg : decode cc pc = .ok (.getfield index, 3)) (kk : W p l e R s m args below meth c H locs cells slots Q (F0 m (pc + 3) ls (.ref (ad 53) :: rest))) : W p l e R s m args below meth c H locs cells slots Q (F0 m pc ls (.ref (ad k) :: rest)) :=
  va_get (D := D) (ci := 6) (C := RX6) (T := TX6) (N := 23) hx hb hX (fun _ h => h) hown hKK.1 hP k ((wd_at (qk_lt hk (by decide))).trans (by rw [cel_6 hk])) rfl 5 (by decide) hl (fun _ h => h) rfl hdg kk
theorem g_X6_isDropped (hx : p.tables.exec = Jvm.exec) (hb : c.code = cc) (hX : ∀ w ∈ wsX60, w.before args s = true) (hown : s.vm.findClass own = some m.cls) (hKK : KK D ca s) (hP : va_P D vwCl (wd ca ad S) H) {k : Nat} (hk : qk k = 6) (hl : (Cond.fieldLink own index "CrashDeskModel" "isDropped" "[Z").before args s = true) (hdg : decode cc pc = .ok (.getfield index, 3)) (kk : W p l e R s m args below meth c H locs cells slots Q (F0 m (pc + 3) ls (.ref (ad 54) :: rest))) : W p l e R s m args below meth c H locs cells slots Q (F0 m pc ls (.ref (ad k) :: rest)) :=
  va_get (D := D) (ci := 6) (C := RX6) (T := TX6) (N := 23) hx hb hX (fun _ h => h) hown hKK.1 hP k ((wd_at (qk_lt hk (by decide))).trans (by rw [cel_6 hk])) rfl 6 (by decide) hl (fun _ h => h) rfl hdg kk
theorem g_X6_skids (hx : p.tables.exec = Jvm.exec) (hb : c.code = cc) (hX : ∀ w ∈ wsX60, w.before args s = true) (hown : s.vm.findClass own = some m.cls) (hKK : KK D ca s) (hP : va_P D vwCl (wd ca ad S) H) {k : Nat} (hk : qk k = 6) (hl : (Cond.fieldLink own index "CrashDeskModel" "skids" "I").before args s = true) (hdg : decode cc pc = .ok (.getfield index, 3)) (kk : W p l e R s m args below meth c H locs cells slots Q (F0 m (pc + 3) ls (.int (S.1 k 7) :: rest))) : W p l e R s m args below meth c H locs cells slots Q (F0 m pc ls (.ref (ad k) :: rest)) :=
  va_get (D := D) (ci := 6) (C := RX6) (T := TX6) (N := 23) hx hb hX (fun _ h => h) hown hKK.1 hP k ((wd_at (qk_lt hk (by decide))).trans (by rw [cel_6 hk])) rfl 7 (by decide) hl (fun _ h => h) rfl hdg kk
theorem p_X6_skids (hx : p.tables.exec = Jvm.exec) (hb : c.code = cc) (hX : ∀ w ∈ wsX60, w.before args s = true) (hown : s.vm.findClass own = some m.cls) (hj : Inj ad) (hKK : KK D ca s) (hP : va_P D vwCl (wd ca ad S) H) (hS : va_S (Aq ad s.heap.size) s.heap H locs) {k : Nat} {x : Int32} (hk : qk k = 6) (hl : (Cond.fieldLink own index "CrashDeskModel" "skids" "I").before args s = true) (hdg : decode cc pc = .ok (.putfield index, 3)) (kk : ∀ (H1 : Heap) (locs1 : List Loc), va_P D vwCl (wd ca ad (setF k 7 x S)) H1 → va_S (Aq ad s.heap.size) s.heap H1 locs1 → W p l e R s m args below meth c H1 locs1 cells slots Q (F0 m (pc + 3) ls rest)) : W p l e R s m args below meth c H locs cells slots Q (F0 m pc ls (.int x :: .ref (ad k) :: rest)) := by
  have h68 : k < 68 := qk_lt hk (by decide)
  refine va_put (D := D) (ci := 6) (C := RX6) (T := TX6) (N := 23) (ty := .int) hx hb hX (fun _ h => h) tyX6 tyX6_ok nmX6 hown hKK.1 hP (wd_D hj) hS k ((wd_at h68).trans (by rw [cel_6 hk])) rfl 7 (by decide) hl (fun _ h => h) rfl (by decide +kernel) rfl rfl (Nat.le_of_ble_eq_true rfl) hdg (fun H1 locs1 hP1 _ hS1 => kk H1 locs1 ?_ hS1)
  have e := wd_setV (ca := ca) (ad := ad) (S := S) (k := k) (r := upd (S.1 k) 7 x) h68 (cel_6 hk)
  show va_P D vwCl (wd ca ad (va_up S.1 k (upd (S.1 k) 7 x), S.2)) H1
  rw [← e]
  exact hP1
theorem g_X6_low (hx : p.tables.exec = Jvm.exec) (hb : c.code = cc) (hX : ∀ w ∈ wsX60, w.before args s = true) (hown : s.vm.findClass own = some m.cls) (hKK : KK D ca s) (hP : va_P D vwCl (wd ca ad S) H) {k : Nat} (hk : qk k = 6) (hl : (Cond.fieldLink own index "CrashDeskModel" "low" "[I").before args s = true) (hdg : decode cc pc = .ok (.getfield index, 3)) (kk : W p l e R s m args below meth c H locs cells slots Q (F0 m (pc + 3) ls (.ref (ad 55) :: rest))) : W p l e R s m args below meth c H locs cells slots Q (F0 m pc ls (.ref (ad k) :: rest)) :=
  va_get (D := D) (ci := 6) (C := RX6) (T := TX6) (N := 23) hx hb hX (fun _ h => h) hown hKK.1 hP k ((wd_at (qk_lt hk (by decide))).trans (by rw [cel_6 hk])) rfl 8 (by decide) hl (fun _ h => h) rfl hdg kk
theorem g_X6_high (hx : p.tables.exec = Jvm.exec) (hb : c.code = cc) (hX : ∀ w ∈ wsX60, w.before args s = true) (hown : s.vm.findClass own = some m.cls) (hKK : KK D ca s) (hP : va_P D vwCl (wd ca ad S) H) {k : Nat} (hk : qk k = 6) (hl : (Cond.fieldLink own index "CrashDeskModel" "high" "[I").before args s = true) (hdg : decode cc pc = .ok (.getfield index, 3)) (kk : W p l e R s m args below meth c H locs cells slots Q (F0 m (pc + 3) ls (.ref (ad 56) :: rest))) : W p l e R s m args below meth c H locs cells slots Q (F0 m pc ls (.ref (ad k) :: rest)) :=
  va_get (D := D) (ci := 6) (C := RX6) (T := TX6) (N := 23) hx hb hX (fun _ h => h) hown hKK.1 hP k ((wd_at (qk_lt hk (by decide))).trans (by rw [cel_6 hk])) rfl 9 (by decide) hl (fun _ h => h) rfl hdg kk
theorem g_X6_tRow (hx : p.tables.exec = Jvm.exec) (hb : c.code = cc) (hX : ∀ w ∈ wsX60, w.before args s = true) (hown : s.vm.findClass own = some m.cls) (hKK : KK D ca s) (hP : va_P D vwCl (wd ca ad S) H) {k : Nat} (hk : qk k = 6) (hl : (Cond.fieldLink own index "CrashDeskModel" "tRow" "[I").before args s = true) (hdg : decode cc pc = .ok (.getfield index, 3)) (kk : W p l e R s m args below meth c H locs cells slots Q (F0 m (pc + 3) ls (.ref (ad 57) :: rest))) : W p l e R s m args below meth c H locs cells slots Q (F0 m pc ls (.ref (ad k) :: rest)) :=
  va_get (D := D) (ci := 6) (C := RX6) (T := TX6) (N := 23) hx hb hX (fun _ h => h) hown hKK.1 hP k ((wd_at (qk_lt hk (by decide))).trans (by rw [cel_6 hk])) rfl 10 (by decide) hl (fun _ h => h) rfl hdg kk
theorem g_X6_tLow (hx : p.tables.exec = Jvm.exec) (hb : c.code = cc) (hX : ∀ w ∈ wsX60, w.before args s = true) (hown : s.vm.findClass own = some m.cls) (hKK : KK D ca s) (hP : va_P D vwCl (wd ca ad S) H) {k : Nat} (hk : qk k = 6) (hl : (Cond.fieldLink own index "CrashDeskModel" "tLow" "[I").before args s = true) (hdg : decode cc pc = .ok (.getfield index, 3)) (kk : W p l e R s m args below meth c H locs cells slots Q (F0 m (pc + 3) ls (.ref (ad 58) :: rest))) : W p l e R s m args below meth c H locs cells slots Q (F0 m pc ls (.ref (ad k) :: rest)) :=
  va_get (D := D) (ci := 6) (C := RX6) (T := TX6) (N := 23) hx hb hX (fun _ h => h) hown hKK.1 hP k ((wd_at (qk_lt hk (by decide))).trans (by rw [cel_6 hk])) rfl 11 (by decide) hl (fun _ h => h) rfl hdg kk
theorem g_X6_tHigh (hx : p.tables.exec = Jvm.exec) (hb : c.code = cc) (hX : ∀ w ∈ wsX60, w.before args s = true) (hown : s.vm.findClass own = some m.cls) (hKK : KK D ca s) (hP : va_P D vwCl (wd ca ad S) H) {k : Nat} (hk : qk k = 6) (hl : (Cond.fieldLink own index "CrashDeskModel" "tHigh" "[I").before args s = true) (hdg : decode cc pc = .ok (.getfield index, 3)) (kk : W p l e R s m args below meth c H locs cells slots Q (F0 m (pc + 3) ls (.ref (ad 59) :: rest))) : W p l e R s m args below meth c H locs cells slots Q (F0 m pc ls (.ref (ad k) :: rest)) :=
  va_get (D := D) (ci := 6) (C := RX6) (T := TX6) (N := 23) hx hb hX (fun _ h => h) hown hKK.1 hP k ((wd_at (qk_lt hk (by decide))).trans (by rw [cel_6 hk])) rfl 12 (by decide) hl (fun _ h => h) rfl hdg kk
theorem g_X6_tales (hx : p.tables.exec = Jvm.exec) (hb : c.code = cc) (hX : ∀ w ∈ wsX60, w.before args s = true) (hown : s.vm.findClass own = some m.cls) (hKK : KK D ca s) (hP : va_P D vwCl (wd ca ad S) H) {k : Nat} (hk : qk k = 6) (hl : (Cond.fieldLink own index "CrashDeskModel" "tales" "I").before args s = true) (hdg : decode cc pc = .ok (.getfield index, 3)) (kk : W p l e R s m args below meth c H locs cells slots Q (F0 m (pc + 3) ls (.int (S.1 k 13) :: rest))) : W p l e R s m args below meth c H locs cells slots Q (F0 m pc ls (.ref (ad k) :: rest)) :=
  va_get (D := D) (ci := 6) (C := RX6) (T := TX6) (N := 23) hx hb hX (fun _ h => h) hown hKK.1 hP k ((wd_at (qk_lt hk (by decide))).trans (by rw [cel_6 hk])) rfl 13 (by decide) hl (fun _ h => h) rfl hdg kk
theorem p_X6_tales (hx : p.tables.exec = Jvm.exec) (hb : c.code = cc) (hX : ∀ w ∈ wsX60, w.before args s = true) (hown : s.vm.findClass own = some m.cls) (hj : Inj ad) (hKK : KK D ca s) (hP : va_P D vwCl (wd ca ad S) H) (hS : va_S (Aq ad s.heap.size) s.heap H locs) {k : Nat} {x : Int32} (hk : qk k = 6) (hl : (Cond.fieldLink own index "CrashDeskModel" "tales" "I").before args s = true) (hdg : decode cc pc = .ok (.putfield index, 3)) (kk : ∀ (H1 : Heap) (locs1 : List Loc), va_P D vwCl (wd ca ad (setF k 13 x S)) H1 → va_S (Aq ad s.heap.size) s.heap H1 locs1 → W p l e R s m args below meth c H1 locs1 cells slots Q (F0 m (pc + 3) ls rest)) : W p l e R s m args below meth c H locs cells slots Q (F0 m pc ls (.int x :: .ref (ad k) :: rest)) := by
  have h68 : k < 68 := qk_lt hk (by decide)
  refine va_put (D := D) (ci := 6) (C := RX6) (T := TX6) (N := 23) (ty := .int) hx hb hX (fun _ h => h) tyX6 tyX6_ok nmX6 hown hKK.1 hP (wd_D hj) hS k ((wd_at h68).trans (by rw [cel_6 hk])) rfl 13 (by decide) hl (fun _ h => h) rfl (by decide +kernel) rfl rfl (Nat.le_of_ble_eq_true rfl) hdg (fun H1 locs1 hP1 _ hS1 => kk H1 locs1 ?_ hS1)
  have e := wd_setV (ca := ca) (ad := ad) (S := S) (k := k) (r := upd (S.1 k) 13 x) h68 (cel_6 hk)
  show va_P D vwCl (wd ca ad (va_up S.1 k (upd (S.1 k) 13 x), S.2)) H1
  rw [← e]
  exact hP1
theorem g_X6_isLet (hx : p.tables.exec = Jvm.exec) (hb : c.code = cc) (hX : ∀ w ∈ wsX60, w.before args s = true) (hown : s.vm.findClass own = some m.cls) (hKK : KK D ca s) (hP : va_P D vwCl (wd ca ad S) H) {k : Nat} (hk : qk k = 6) (hl : (Cond.fieldLink own index "CrashDeskModel" "isLet" "[Z").before args s = true) (hdg : decode cc pc = .ok (.getfield index, 3)) (kk : W p l e R s m args below meth c H locs cells slots Q (F0 m (pc + 3) ls (.ref (ad 60) :: rest))) : W p l e R s m args below meth c H locs cells slots Q (F0 m pc ls (.ref (ad k) :: rest)) :=
  va_get (D := D) (ci := 6) (C := RX6) (T := TX6) (N := 23) hx hb hX (fun _ h => h) hown hKK.1 hP k ((wd_at (qk_lt hk (by decide))).trans (by rw [cel_6 hk])) rfl 14 (by decide) hl (fun _ h => h) rfl hdg kk
theorem g_X6_isThere (hx : p.tables.exec = Jvm.exec) (hb : c.code = cc) (hX : ∀ w ∈ wsX60, w.before args s = true) (hown : s.vm.findClass own = some m.cls) (hKK : KK D ca s) (hP : va_P D vwCl (wd ca ad S) H) {k : Nat} (hk : qk k = 6) (hl : (Cond.fieldLink own index "CrashDeskModel" "isThere" "[Z").before args s = true) (hdg : decode cc pc = .ok (.getfield index, 3)) (kk : W p l e R s m args below meth c H locs cells slots Q (F0 m (pc + 3) ls (.ref (ad 61) :: rest))) : W p l e R s m args below meth c H locs cells slots Q (F0 m pc ls (.ref (ad k) :: rest)) :=
  va_get (D := D) (ci := 6) (C := RX6) (T := TX6) (N := 23) hx hb hX (fun _ h => h) hown hKK.1 hP k ((wd_at (qk_lt hk (by decide))).trans (by rw [cel_6 hk])) rfl 15 (by decide) hl (fun _ h => h) rfl hdg kk
theorem g_X6_firsts (hx : p.tables.exec = Jvm.exec) (hb : c.code = cc) (hX : ∀ w ∈ wsX60, w.before args s = true) (hown : s.vm.findClass own = some m.cls) (hKK : KK D ca s) (hP : va_P D vwCl (wd ca ad S) H) {k : Nat} (hk : qk k = 6) (hl : (Cond.fieldLink own index "CrashDeskModel" "firsts" "[I").before args s = true) (hdg : decode cc pc = .ok (.getfield index, 3)) (kk : W p l e R s m args below meth c H locs cells slots Q (F0 m (pc + 3) ls (.ref (ad 62) :: rest))) : W p l e R s m args below meth c H locs cells slots Q (F0 m pc ls (.ref (ad k) :: rest)) :=
  va_get (D := D) (ci := 6) (C := RX6) (T := TX6) (N := 23) hx hb hX (fun _ h => h) hown hKK.1 hP k ((wd_at (qk_lt hk (by decide))).trans (by rw [cel_6 hk])) rfl 16 (by decide) hl (fun _ h => h) rfl hdg kk
theorem g_X6_many (hx : p.tables.exec = Jvm.exec) (hb : c.code = cc) (hX : ∀ w ∈ wsX60, w.before args s = true) (hown : s.vm.findClass own = some m.cls) (hKK : KK D ca s) (hP : va_P D vwCl (wd ca ad S) H) {k : Nat} (hk : qk k = 6) (hl : (Cond.fieldLink own index "CrashDeskModel" "many" "J").before args s = true) (hdg : decode cc pc = .ok (.getfield index, 3)) (kk : W p l e R s m args below meth c H locs cells slots Q (F0 m (pc + 3) ls (.long (S.2 k) :: rest))) : W p l e R s m args below meth c H locs cells slots Q (F0 m pc ls (.ref (ad k) :: rest)) :=
  va_get (D := D) (ci := 6) (C := RX6) (T := TX6) (N := 23) hx hb hX (fun _ h => h) hown hKK.1 hP k ((wd_at (qk_lt hk (by decide))).trans (by rw [cel_6 hk])) rfl 17 (by decide) hl (fun _ h => h) rfl hdg kk
theorem p_X6_many (hx : p.tables.exec = Jvm.exec) (hb : c.code = cc) (hX : ∀ w ∈ wsX60, w.before args s = true) (hown : s.vm.findClass own = some m.cls) (hj : Inj ad) (hKK : KK D ca s) (hP : va_P D vwCl (wd ca ad S) H) (hS : va_S (Aq ad s.heap.size) s.heap H locs) {k : Nat} {x : Int64} (hk : qk k = 6) (h : stL k x S = some S1) (hl : (Cond.fieldLink own index "CrashDeskModel" "many" "J").before args s = true) (hdg : decode cc pc = .ok (.putfield index, 3)) (kk : ∀ (H1 : Heap) (locs1 : List Loc), va_P D vwCl (wd ca ad S1) H1 → va_S (Aq ad s.heap.size) s.heap H1 locs1 → W p l e R s m args below meth c H1 locs1 cells slots Q (F0 m (pc + 3) ls rest)) : W p l e R s m args below meth c H locs cells slots Q (F0 m pc ls (.long x :: .ref (ad k) :: rest)) := by
  obtain rfl := Option.some.inj h
  have h68 : k < 68 := qk_lt hk (by decide)
  refine va_put (D := D) (ci := 6) (C := RX6) (T := TX6) (N := 23) (ty := .long) hx hb hX (fun _ h => h) tyX6 tyX6_ok nmX6 hown hKK.1 hP (wd_D hj) hS k ((wd_at h68).trans (by rw [cel_6 hk])) rfl 17 (by decide) hl (fun _ h => h) rfl (by decide +kernel) rfl rfl (Nat.le_of_ble_eq_true rfl) hdg (fun H1 locs1 hP1 _ hS1 => kk H1 locs1 ?_ hS1)
  have e := wd_setM (ca := ca) (ad := ad) (S := S) (k := k) (x := x) h68 (cel_6 hk)
  show va_P D vwCl (wd ca ad (S.1, va_up S.2 k x)) H1
  rw [← e]
  rw [va_up_self]
  exact hP1
theorem g_X6_wanted (hx : p.tables.exec = Jvm.exec) (hb : c.code = cc) (hX : ∀ w ∈ wsX60, w.before args s = true) (hown : s.vm.findClass own = some m.cls) (hKK : KK D ca s) (hP : va_P D vwCl (wd ca ad S) H) {k : Nat} (hk : qk k = 6) (hl : (Cond.fieldLink own index "CrashDeskModel" "wanted" "Z").before args s = true) (hdg : decode cc pc = .ok (.getfield index, 3)) (kk : W p l e R s m args below meth c H locs cells slots Q (F0 m (pc + 3) ls (.int (S.1 k 18) :: rest))) : W p l e R s m args below meth c H locs cells slots Q (F0 m pc ls (.ref (ad k) :: rest)) :=
  va_get (D := D) (ci := 6) (C := RX6) (T := TX6) (N := 23) hx hb hX (fun _ h => h) hown hKK.1 hP k ((wd_at (qk_lt hk (by decide))).trans (by rw [cel_6 hk])) rfl 18 (by decide) hl (fun _ h => h) rfl hdg kk
theorem p_X6_wanted (hx : p.tables.exec = Jvm.exec) (hb : c.code = cc) (hX : ∀ w ∈ wsX60, w.before args s = true) (hown : s.vm.findClass own = some m.cls) (hj : Inj ad) (hKK : KK D ca s) (hP : va_P D vwCl (wd ca ad S) H) (hS : va_S (Aq ad s.heap.size) s.heap H locs) {k : Nat} {x : Int32} (hk : qk k = 6) (h : stZ k 18 x S = some S1) (hl : (Cond.fieldLink own index "CrashDeskModel" "wanted" "Z").before args s = true) (hdg : decode cc pc = .ok (.putfield index, 3)) (kk : ∀ (H1 : Heap) (locs1 : List Loc), va_P D vwCl (wd ca ad S1) H1 → va_S (Aq ad s.heap.size) s.heap H1 locs1 → W p l e R s m args below meth c H1 locs1 cells slots Q (F0 m (pc + 3) ls rest)) : W p l e R s m args below meth c H locs cells slots Q (F0 m pc ls (.int x :: .ref (ad k) :: rest)) := by
  obtain ⟨hz, rfl⟩ := q_stZ h
  have h68 : k < 68 := qk_lt hk (by decide)
  refine va_put (D := D) (ci := 6) (C := RX6) (T := TX6) (N := 23) (ty := .boolean) hx hb hX (fun _ h => h) tyX6 tyX6_ok nmX6 hown hKK.1 hP (wd_D hj) hS k ((wd_at h68).trans (by rw [cel_6 hk])) rfl 18 (by decide) hl (fun _ h => h) rfl (by decide +kernel) (q_nz hz) (q_fz hz) (Nat.le_of_ble_eq_true rfl) hdg (fun H1 locs1 hP1 _ hS1 => kk H1 locs1 ?_ hS1)
  have e := wd_setV (ca := ca) (ad := ad) (S := S) (k := k) (r := upd (S.1 k) 18 x) h68 (cel_6 hk)
  show va_P D vwCl (wd ca ad (va_up S.1 k (upd (S.1 k) 18 x), S.2)) H1
  rw [← e]
  exact hP1
theorem g_X6_isMask (hx : p.tables.exec = Jvm.exec) (hb : c.code = cc) (hX : ∀ w ∈ wsX60, w.before args s = true) (hown : s.vm.findClass own = some m.cls) (hKK : KK D ca s) (hP : va_P D vwCl (wd ca ad S) H) {k : Nat} (hk : qk k = 6) (hl : (Cond.fieldLink own index "CrashDeskModel" "isMask" "[Z").before args s = true) (hdg : decode cc pc = .ok (.getfield index, 3)) (kk : W p l e R s m args below meth c H locs cells slots Q (F0 m (pc + 3) ls (.ref (ad 63) :: rest))) : W p l e R s m args below meth c H locs cells slots Q (F0 m pc ls (.ref (ad k) :: rest)) :=
  va_get (D := D) (ci := 6) (C := RX6) (T := TX6) (N := 23) hx hb hX (fun _ h => h) hown hKK.1 hP k ((wd_at (qk_lt hk (by decide))).trans (by rw [cel_6 hk])) rfl 19 (by decide) hl (fun _ h => h) rfl hdg kk
theorem g_X6_isMade (hx : p.tables.exec = Jvm.exec) (hb : c.code = cc) (hX : ∀ w ∈ wsX60, w.before args s = true) (hown : s.vm.findClass own = some m.cls) (hKK : KK D ca s) (hP : va_P D vwCl (wd ca ad S) H) {k : Nat} (hk : qk k = 6) (hl : (Cond.fieldLink own index "CrashDeskModel" "isMade" "[Z").before args s = true) (hdg : decode cc pc = .ok (.getfield index, 3)) (kk : W p l e R s m args below meth c H locs cells slots Q (F0 m (pc + 3) ls (.ref (ad 64) :: rest))) : W p l e R s m args below meth c H locs cells slots Q (F0 m pc ls (.ref (ad k) :: rest)) :=
  va_get (D := D) (ci := 6) (C := RX6) (T := TX6) (N := 23) hx hb hX (fun _ h => h) hown hKK.1 hP k ((wd_at (qk_lt hk (by decide))).trans (by rw [cel_6 hk])) rfl 20 (by decide) hl (fun _ h => h) rfl hdg kk
theorem g_X6_made (hx : p.tables.exec = Jvm.exec) (hb : c.code = cc) (hX : ∀ w ∈ wsX60, w.before args s = true) (hown : s.vm.findClass own = some m.cls) (hKK : KK D ca s) (hP : va_P D vwCl (wd ca ad S) H) {k : Nat} (hk : qk k = 6) (hl : (Cond.fieldLink own index "CrashDeskModel" "made" "[I").before args s = true) (hdg : decode cc pc = .ok (.getfield index, 3)) (kk : W p l e R s m args below meth c H locs cells slots Q (F0 m (pc + 3) ls (.ref (ad 65) :: rest))) : W p l e R s m args below meth c H locs cells slots Q (F0 m pc ls (.ref (ad k) :: rest)) :=
  va_get (D := D) (ci := 6) (C := RX6) (T := TX6) (N := 23) hx hb hX (fun _ h => h) hown hKK.1 hP k ((wd_at (qk_lt hk (by decide))).trans (by rw [cel_6 hk])) rfl 21 (by decide) hl (fun _ h => h) rfl hdg kk
theorem g_X6_mades (hx : p.tables.exec = Jvm.exec) (hb : c.code = cc) (hX : ∀ w ∈ wsX60, w.before args s = true) (hown : s.vm.findClass own = some m.cls) (hKK : KK D ca s) (hP : va_P D vwCl (wd ca ad S) H) {k : Nat} (hk : qk k = 6) (hl : (Cond.fieldLink own index "CrashDeskModel" "mades" "[I").before args s = true) (hdg : decode cc pc = .ok (.getfield index, 3)) (kk : W p l e R s m args below meth c H locs cells slots Q (F0 m (pc + 3) ls (.ref (ad 66) :: rest))) : W p l e R s m args below meth c H locs cells slots Q (F0 m pc ls (.ref (ad k) :: rest)) :=
  va_get (D := D) (ci := 6) (C := RX6) (T := TX6) (N := 23) hx hb hX (fun _ h => h) hown hKK.1 hP k ((wd_at (qk_lt hk (by decide))).trans (by rw [cel_6 hk])) rfl 22 (by decide) hl (fun _ h => h) rfl hdg kk
end
abbrev Zv (below : List Frame) (D : va_G) (ca : Nat → ClassId) (ad : Nat → Nat) (args : Array Value) (s : State) (S : QS) : State → Prop := MQ below (va_Qv (fun u : QS => u = S) (Bt D ca ad) (Aq ad s.heap.size)) args s 0 0 (Aq ad s.heap.size)
abbrev Zi (below : List Frame) (D : va_G) (ca : Nat → ClassId) (ad : Nat → Nat) (args : Array Value) (s : State) (x : Int32) (S : QS) : State → Prop := MQ below (va_Qi (fun (r : Int32) (u : QS) => r = x ∧ u = S) (Bt D ca ad) (Aq ad s.heap.size)) args s 0 0 (Aq ad s.heap.size)
abbrev Zl (below : List Frame) (D : va_G) (ca : Nat → ClassId) (ad : Nat → Nat) (args : Array Value) (s : State) (x : Int64) (S : QS) : State → Prop := MQ below (va_Ql (fun (r : Int64) (u : QS) => r = x ∧ u = S) (Bt D ca ad) (Aq ad s.heap.size)) args s 0 0 (Aq ad s.heap.size)
abbrev Zr (below : List Frame) (D : va_G) (ca : Nat → ClassId) (ad : Nat → Nat) (args : Array Value) (s : State) (x : Nat) (S : QS) : State → Prop := MQ below (va_Qr (fun u : QS => u = S) (fun u a t => a = ad x ∧ Bt D ca ad u t) (Aq ad s.heap.size)) args s 0 0 (Aq ad s.heap.size)
def FU : Nat := 1100
end
section
theorem dX3_init_0 : decode cX3_init 0 = .ok (.aload_n 0, 1) := by decide +kernel
theorem dX3_init_1 : decode cX3_init 1 = .ok (.invokespecial 3, 3) := by decide +kernel
theorem dX3_init_4 : decode cX3_init 4 = .ok (.aload_n 0, 1) := by decide +kernel
theorem dX3_init_5 : decode cX3_init 5 = .ok (.bipush (-50), 2) := by decide +kernel
theorem dX3_init_7 : decode cX3_init 7 = .ok (.putfield 9, 3) := by decide +kernel
theorem dX3_init_10 : decode cX3_init 10 = .ok (.aload_n 0, 1) := by decide +kernel
theorem dX3_init_11 : decode cX3_init 11 = .ok (.bipush 50, 2) := by decide +kernel
theorem dX3_init_13 : decode cX3_init 13 = .ok (.putfield 15, 3) := by decide +kernel
theorem dX3_init_16 : decode cX3_init 16 = .ok (.aload_n 0, 1) := by decide +kernel
theorem dX3_init_17 : decode cX3_init 17 = .ok (.bipush (-50), 2) := by decide +kernel
theorem dX3_init_19 : decode cX3_init 19 = .ok (.putfield 18, 3) := by decide +kernel
theorem dX3_init_22 : decode cX3_init 22 = .ok (.aload_n 0, 1) := by decide +kernel
theorem dX3_init_23 : decode cX3_init 23 = .ok (.bipush 50, 2) := by decide +kernel
theorem dX3_init_25 : decode cX3_init 25 = .ok (.putfield 21, 3) := by decide +kernel
theorem dX3_init_28 : decode cX3_init 28 = .ok (.aload_n 0, 1) := by decide +kernel
theorem dX3_init_29 : decode cX3_init 29 = .ok (.bipush 101, 2) := by decide +kernel
theorem dX3_init_31 : decode cX3_init 31 = .ok (.newarray .int, 2) := by decide +kernel
theorem dX3_init_33 : decode cX3_init 33 = .ok (.putfield 24, 3) := by decide +kernel
theorem dX3_init_36 : decode cX3_init 36 = .ok (.aload_n 0, 1) := by decide +kernel
theorem dX3_init_37 : decode cX3_init 37 = .ok (.bipush 101, 2) := by decide +kernel
theorem dX3_init_39 : decode cX3_init 39 = .ok (.newarray .boolean, 2) := by decide +kernel
theorem dX3_init_41 : decode cX3_init 41 = .ok (.putfield 28, 3) := by decide +kernel
theorem dX3_init_44 : decode cX3_init 44 = .ok (.return_, 1) := by decide +kernel
set_option maxRecDepth 20000 in
theorem ggX3_clear_X3_setPrice : GoodIn wsX3_clear wsX3_setPrice := goodIn_r _ [8, 9, 10, 11, 12, 13, 14, 15] (by decide +kernel) (by decide +kernel)
set_option maxRecDepth 20000 in
theorem gX3_clear_X3_setPrice : GoodIn wsX3_clear (wsV RX3 32 RX3 yX3_setPrice wsX3_setPrice) := goodIn_app (goodIn_of _ (by decide +kernel)) ggX3_clear_X3_setPrice
theorem dX3_clear_0 : decode cX3_clear 0 = .ok (.bipush (-50), 2) := by decide +kernel
theorem dX3_clear_2 : decode cX3_clear 2 = .ok (.istore_n 1, 1) := by decide +kernel
theorem dX3_clear_3 : decode cX3_clear 3 = .ok (.iload_n 1, 1) := by decide +kernel
theorem dX3_clear_4 : decode cX3_clear 4 = .ok (.bipush 50, 2) := by decide +kernel
theorem dX3_clear_6 : decode cX3_clear 6 = .ok (.if_icmp .gt 45, 3) := by decide +kernel
theorem dX3_clear_9 : decode cX3_clear 9 = .ok (.aload_n 0, 1) := by decide +kernel
theorem dX3_clear_10 : decode cX3_clear 10 = .ok (.iload_n 1, 1) := by decide +kernel
theorem dX3_clear_11 : decode cX3_clear 11 = .ok (.iload_n 1, 1) := by decide +kernel
theorem dX3_clear_12 : decode cX3_clear 12 = .ok (.aload_n 0, 1) := by decide +kernel
theorem dX3_clear_13 : decode cX3_clear 13 = .ok (.getfield 9, 3) := by decide +kernel
theorem dX3_clear_16 : decode cX3_clear 16 = .ok (.if_icmp .lt 11, 3) := by decide +kernel
theorem dX3_clear_19 : decode cX3_clear 19 = .ok (.iload_n 1, 1) := by decide +kernel
theorem dX3_clear_20 : decode cX3_clear 20 = .ok (.aload_n 0, 1) := by decide +kernel
theorem dX3_clear_21 : decode cX3_clear 21 = .ok (.getfield 15, 3) := by decide +kernel
theorem dX3_clear_24 : decode cX3_clear 24 = .ok (.if_icmp .le 7, 3) := by decide +kernel
theorem dX3_clear_27 : decode cX3_clear 27 = .ok (.iconst (-1), 1) := by decide +kernel
theorem dX3_clear_28 : decode cX3_clear 28 = .ok (.goto 4, 3) := by decide +kernel
theorem dX3_clear_31 : decode cX3_clear 31 = .ok (.iconst 0, 1) := by decide +kernel
theorem dX3_clear_32 : decode cX3_clear 32 = .ok (.invokevirtual 32, 3) := by decide +kernel
theorem dX3_clear_35 : decode cX3_clear 35 = .ok (.aload_n 0, 1) := by decide +kernel
theorem dX3_clear_36 : decode cX3_clear 36 = .ok (.getfield 28, 3) := by decide +kernel
theorem dX3_clear_39 : decode cX3_clear 39 = .ok (.iload_n 1, 1) := by decide +kernel
theorem dX3_clear_40 : decode cX3_clear 40 = .ok (.bipush (-50), 2) := by decide +kernel
theorem dX3_clear_42 : decode cX3_clear 42 = .ok (.isub, 1) := by decide +kernel
theorem dX3_clear_43 : decode cX3_clear 43 = .ok (.iconst 0, 1) := by decide +kernel
theorem dX3_clear_44 : decode cX3_clear 44 = .ok (.bastore, 1) := by decide +kernel
theorem dX3_clear_45 : decode cX3_clear 45 = .ok (.iinc 1 1, 3) := by decide +kernel
theorem dX3_clear_48 : decode cX3_clear 48 = .ok (.goto (-45), 3) := by decide +kernel
theorem dX3_clear_51 : decode cX3_clear 51 = .ok (.return_, 1) := by decide +kernel
set_option maxRecDepth 20000 in
theorem ggX3_hear_X3_isOpen : GoodIn wsX3_hear wsX3_isOpen := goodIn_r _ [7, 8, 9, 10, 6, 11, 12, 21, 22, 23, 24, 25, 26] (by decide +kernel) (by decide +kernel)
set_option maxRecDepth 20000 in
theorem gX3_hear_X3_isOpen : GoodIn wsX3_hear (wsV RX3 40 RX3 yX3_isOpen wsX3_isOpen) := goodIn_app (goodIn_of _ (by decide +kernel)) ggX3_hear_X3_isOpen
set_option maxRecDepth 20000 in
theorem ggX3_hear_X3_priceOf : GoodIn wsX3_hear wsX3_priceOf := goodIn_r _ [11, 12, 21, 22, 23, 24, 25, 26] (by decide +kernel) (by decide +kernel)
set_option maxRecDepth 20000 in
theorem gX3_hear_X3_priceOf : GoodIn wsX3_hear (wsV RX3 44 RX3 yX3_priceOf wsX3_priceOf) := goodIn_app (goodIn_of _ (by decide +kernel)) ggX3_hear_X3_priceOf
set_option maxRecDepth 20000 in
theorem ggX3_hear_X3_setPrice : GoodIn wsX3_hear wsX3_setPrice := goodIn_r _ [16, 12, 21, 22, 23, 24, 25, 26] (by decide +kernel) (by decide +kernel)
set_option maxRecDepth 20000 in
theorem gX3_hear_X3_setPrice : GoodIn wsX3_hear (wsV RX3 32 RX3 yX3_setPrice wsX3_setPrice) := goodIn_app (goodIn_of _ (by decide +kernel)) ggX3_hear_X3_setPrice
theorem dX3_hear_0 : decode cX3_hear 0 = .ok (.bipush (-50), 2) := by decide +kernel
theorem dX3_hear_2 : decode cX3_hear 2 = .ok (.istore_n 3, 1) := by decide +kernel
theorem dX3_hear_3 : decode cX3_hear 3 = .ok (.iload_n 3, 1) := by decide +kernel
theorem dX3_hear_4 : decode cX3_hear 4 = .ok (.bipush 50, 2) := by decide +kernel
theorem dX3_hear_6 : decode cX3_hear 6 = .ok (.if_icmp .gt 66, 3) := by decide +kernel
theorem dX3_hear_9 : decode cX3_hear 9 = .ok (.iload_n 3, 1) := by decide +kernel
theorem dX3_hear_10 : decode cX3_hear 10 = .ok (.aload_n 1, 1) := by decide +kernel
theorem dX3_hear_11 : decode cX3_hear 11 = .ok (.getfield 36, 3) := by decide +kernel
theorem dX3_hear_14 : decode cX3_hear 14 = .ok (.if_icmp .lt 15, 3) := by decide +kernel
theorem dX3_hear_17 : decode cX3_hear 17 = .ok (.iload_n 3, 1) := by decide +kernel
theorem dX3_hear_18 : decode cX3_hear 18 = .ok (.aload_n 1, 1) := by decide +kernel
theorem dX3_hear_19 : decode cX3_hear 19 = .ok (.getfield 39, 3) := by decide +kernel
theorem dX3_hear_22 : decode cX3_hear 22 = .ok (.if_icmp .gt 7, 3) := by decide +kernel
theorem dX3_hear_25 : decode cX3_hear 25 = .ok (.iconst 1, 1) := by decide +kernel
theorem dX3_hear_26 : decode cX3_hear 26 = .ok (.goto 4, 3) := by decide +kernel
theorem dX3_hear_29 : decode cX3_hear 29 = .ok (.iconst 0, 1) := by decide +kernel
theorem dX3_hear_30 : decode cX3_hear 30 = .ok (.istore 4, 2) := by decide +kernel
theorem dX3_hear_32 : decode cX3_hear 32 = .ok (.iload 4, 2) := by decide +kernel
theorem dX3_hear_34 : decode cX3_hear 34 = .ok (.ifCond .ne 32, 3) := by decide +kernel
theorem dX3_hear_37 : decode cX3_hear 37 = .ok (.aload_n 0, 1) := by decide +kernel
theorem dX3_hear_38 : decode cX3_hear 38 = .ok (.iload_n 3, 1) := by decide +kernel
theorem dX3_hear_39 : decode cX3_hear 39 = .ok (.invokevirtual 40, 3) := by decide +kernel
theorem dX3_hear_42 : decode cX3_hear 42 = .ok (.ifCond .eq 24, 3) := by decide +kernel
theorem dX3_hear_45 : decode cX3_hear 45 = .ok (.aload_n 0, 1) := by decide +kernel
theorem dX3_hear_46 : decode cX3_hear 46 = .ok (.iload_n 3, 1) := by decide +kernel
theorem dX3_hear_47 : decode cX3_hear 47 = .ok (.iload_n 2, 1) := by decide +kernel
theorem dX3_hear_48 : decode cX3_hear 48 = .ok (.iconst (-1), 1) := by decide +kernel
theorem dX3_hear_49 : decode cX3_hear 49 = .ok (.if_icmp .ne 7, 3) := by decide +kernel
theorem dX3_hear_52 : decode cX3_hear 52 = .ok (.iconst (-1), 1) := by decide +kernel
theorem dX3_hear_53 : decode cX3_hear 53 = .ok (.goto 10, 3) := by decide +kernel
theorem dX3_hear_56 : decode cX3_hear 56 = .ok (.aload_n 0, 1) := by decide +kernel
theorem dX3_hear_57 : decode cX3_hear 57 = .ok (.iload_n 3, 1) := by decide +kernel
theorem dX3_hear_58 : decode cX3_hear 58 = .ok (.invokevirtual 44, 3) := by decide +kernel
theorem dX3_hear_61 : decode cX3_hear 61 = .ok (.iload_n 2, 1) := by decide +kernel
theorem dX3_hear_62 : decode cX3_hear 62 = .ok (.iadd, 1) := by decide +kernel
theorem dX3_hear_63 : decode cX3_hear 63 = .ok (.invokevirtual 32, 3) := by decide +kernel
theorem dX3_hear_66 : decode cX3_hear 66 = .ok (.iinc 3 1, 3) := by decide +kernel
theorem dX3_hear_69 : decode cX3_hear 69 = .ok (.goto (-66), 3) := by decide +kernel
theorem dX3_hear_72 : decode cX3_hear 72 = .ok (.return_, 1) := by decide +kernel
theorem dX3_priceOf_0 : decode cX3_priceOf 0 = .ok (.iload_n 1, 1) := by decide +kernel
theorem dX3_priceOf_1 : decode cX3_priceOf 1 = .ok (.bipush (-50), 2) := by decide +kernel
theorem dX3_priceOf_3 : decode cX3_priceOf 3 = .ok (.if_icmp .lt 9, 3) := by decide +kernel
theorem dX3_priceOf_6 : decode cX3_priceOf 6 = .ok (.iload_n 1, 1) := by decide +kernel
theorem dX3_priceOf_7 : decode cX3_priceOf 7 = .ok (.bipush 50, 2) := by decide +kernel
theorem dX3_priceOf_9 : decode cX3_priceOf 9 = .ok (.if_icmp .le 7, 3) := by decide +kernel
theorem dX3_priceOf_12 : decode cX3_priceOf 12 = .ok (.iconst (-1), 1) := by decide +kernel
theorem dX3_priceOf_13 : decode cX3_priceOf 13 = .ok (.goto 12, 3) := by decide +kernel
theorem dX3_priceOf_16 : decode cX3_priceOf 16 = .ok (.aload_n 0, 1) := by decide +kernel
theorem dX3_priceOf_17 : decode cX3_priceOf 17 = .ok (.getfield 24, 3) := by decide +kernel
theorem dX3_priceOf_20 : decode cX3_priceOf 20 = .ok (.iload_n 1, 1) := by decide +kernel
theorem dX3_priceOf_21 : decode cX3_priceOf 21 = .ok (.bipush (-50), 2) := by decide +kernel
theorem dX3_priceOf_23 : decode cX3_priceOf 23 = .ok (.isub, 1) := by decide +kernel
theorem dX3_priceOf_24 : decode cX3_priceOf 24 = .ok (.iaload, 1) := by decide +kernel
theorem dX3_priceOf_25 : decode cX3_priceOf 25 = .ok (.ireturn, 1) := by decide +kernel
set_option maxRecDepth 20000 in
theorem ggX3_isOpen_X3_priceOf : GoodIn wsX3_isOpen wsX3_priceOf := goodIn_r _ [5, 6, 7, 8, 9, 10, 11, 12] (by decide +kernel) (by decide +kernel)
set_option maxRecDepth 20000 in
theorem gX3_isOpen_X3_priceOf : GoodIn wsX3_isOpen (wsV RX3 44 RX3 yX3_priceOf wsX3_priceOf) := goodIn_app (goodIn_of _ (by decide +kernel)) ggX3_isOpen_X3_priceOf
theorem dX3_isOpen_0 : decode cX3_isOpen 0 = .ok (.aload_n 0, 1) := by decide +kernel
theorem dX3_isOpen_1 : decode cX3_isOpen 1 = .ok (.iload_n 1, 1) := by decide +kernel
theorem dX3_isOpen_2 : decode cX3_isOpen 2 = .ok (.invokevirtual 44, 3) := by decide +kernel
theorem dX3_isOpen_5 : decode cX3_isOpen 5 = .ok (.iconst (-1), 1) := by decide +kernel
theorem dX3_isOpen_6 : decode cX3_isOpen 6 = .ok (.if_icmp .eq 7, 3) := by decide +kernel
theorem dX3_isOpen_9 : decode cX3_isOpen 9 = .ok (.iconst 1, 1) := by decide +kernel
theorem dX3_isOpen_10 : decode cX3_isOpen 10 = .ok (.goto 4, 3) := by decide +kernel
theorem dX3_isOpen_13 : decode cX3_isOpen 13 = .ok (.iconst 0, 1) := by decide +kernel
theorem dX3_isOpen_14 : decode cX3_isOpen 14 = .ok (.ireturn, 1) := by decide +kernel
theorem dX3_setPrice_0 : decode cX3_setPrice 0 = .ok (.iload_n 1, 1) := by decide +kernel
theorem dX3_setPrice_1 : decode cX3_setPrice 1 = .ok (.bipush (-50), 2) := by decide +kernel
theorem dX3_setPrice_3 : decode cX3_setPrice 3 = .ok (.if_icmp .lt 19, 3) := by decide +kernel
theorem dX3_setPrice_6 : decode cX3_setPrice 6 = .ok (.iload_n 1, 1) := by decide +kernel
theorem dX3_setPrice_7 : decode cX3_setPrice 7 = .ok (.bipush 50, 2) := by decide +kernel
theorem dX3_setPrice_9 : decode cX3_setPrice 9 = .ok (.if_icmp .gt 13, 3) := by decide +kernel
theorem dX3_setPrice_12 : decode cX3_setPrice 12 = .ok (.aload_n 0, 1) := by decide +kernel
theorem dX3_setPrice_13 : decode cX3_setPrice 13 = .ok (.getfield 24, 3) := by decide +kernel
theorem dX3_setPrice_16 : decode cX3_setPrice 16 = .ok (.iload_n 1, 1) := by decide +kernel
theorem dX3_setPrice_17 : decode cX3_setPrice 17 = .ok (.bipush (-50), 2) := by decide +kernel
theorem dX3_setPrice_19 : decode cX3_setPrice 19 = .ok (.isub, 1) := by decide +kernel
theorem dX3_setPrice_20 : decode cX3_setPrice 20 = .ok (.iload_n 2, 1) := by decide +kernel
theorem dX3_setPrice_21 : decode cX3_setPrice 21 = .ok (.iastore, 1) := by decide +kernel
theorem dX3_setPrice_22 : decode cX3_setPrice 22 = .ok (.return_, 1) := by decide +kernel
set_option maxRecDepth 20000 in
theorem ggX3_bound_X3_isOpen : GoodIn wsX3_bound wsX3_isOpen := goodIn_r _ [11, 12, 13, 14, 10, 15, 16, 17, 18, 19, 20, 21, 22] (by decide +kernel) (by decide +kernel)
set_option maxRecDepth 20000 in
theorem gX3_bound_X3_isOpen : GoodIn wsX3_bound (wsV RX3 40 RX3 yX3_isOpen wsX3_isOpen) := goodIn_app (goodIn_of _ (by decide +kernel)) ggX3_bound_X3_isOpen
theorem dX3_bound_0 : decode cX3_bound 0 = .ok (.aload_n 0, 1) := by decide +kernel
theorem dX3_bound_1 : decode cX3_bound 1 = .ok (.bipush 51, 2) := by decide +kernel
theorem dX3_bound_3 : decode cX3_bound 3 = .ok (.putfield 18, 3) := by decide +kernel
theorem dX3_bound_6 : decode cX3_bound 6 = .ok (.aload_n 0, 1) := by decide +kernel
theorem dX3_bound_7 : decode cX3_bound 7 = .ok (.bipush (-51), 2) := by decide +kernel
theorem dX3_bound_9 : decode cX3_bound 9 = .ok (.putfield 21, 3) := by decide +kernel
theorem dX3_bound_12 : decode cX3_bound 12 = .ok (.bipush (-50), 2) := by decide +kernel
theorem dX3_bound_14 : decode cX3_bound 14 = .ok (.istore_n 1, 1) := by decide +kernel
theorem dX3_bound_15 : decode cX3_bound 15 = .ok (.iload_n 1, 1) := by decide +kernel
theorem dX3_bound_16 : decode cX3_bound 16 = .ok (.bipush 50, 2) := by decide +kernel
theorem dX3_bound_18 : decode cX3_bound 18 = .ok (.if_icmp .gt 34, 3) := by decide +kernel
theorem dX3_bound_21 : decode cX3_bound 21 = .ok (.aload_n 0, 1) := by decide +kernel
theorem dX3_bound_22 : decode cX3_bound 22 = .ok (.iload_n 1, 1) := by decide +kernel
theorem dX3_bound_23 : decode cX3_bound 23 = .ok (.invokevirtual 40, 3) := by decide +kernel
theorem dX3_bound_26 : decode cX3_bound 26 = .ok (.ifCond .eq 20, 3) := by decide +kernel
theorem dX3_bound_29 : decode cX3_bound 29 = .ok (.aload_n 0, 1) := by decide +kernel
theorem dX3_bound_30 : decode cX3_bound 30 = .ok (.aload_n 0, 1) := by decide +kernel
theorem dX3_bound_31 : decode cX3_bound 31 = .ok (.getfield 18, 3) := by decide +kernel
theorem dX3_bound_34 : decode cX3_bound 34 = .ok (.iload_n 1, 1) := by decide +kernel
theorem dX3_bound_35 : decode cX3_bound 35 = .ok (.invokestatic 48, 3) := by decide +kernel
theorem dX3_bound_38 : decode cX3_bound 38 = .ok (.putfield 18, 3) := by decide +kernel
theorem dX3_bound_41 : decode cX3_bound 41 = .ok (.aload_n 0, 1) := by decide +kernel
theorem dX3_bound_42 : decode cX3_bound 42 = .ok (.iload_n 1, 1) := by decide +kernel
theorem dX3_bound_43 : decode cX3_bound 43 = .ok (.putfield 21, 3) := by decide +kernel
theorem dX3_bound_46 : decode cX3_bound 46 = .ok (.iinc 1 1, 3) := by decide +kernel
theorem dX3_bound_49 : decode cX3_bound 49 = .ok (.goto (-34), 3) := by decide +kernel
theorem dX3_bound_52 : decode cX3_bound 52 = .ok (.return_, 1) := by decide +kernel
theorem dX3_see_0 : decode cX3_see 0 = .ok (.iload_n 1, 1) := by decide +kernel
theorem dX3_see_1 : decode cX3_see 1 = .ok (.bipush (-50), 2) := by decide +kernel
theorem dX3_see_3 : decode cX3_see 3 = .ok (.if_icmp .lt 19, 3) := by decide +kernel
theorem dX3_see_6 : decode cX3_see 6 = .ok (.iload_n 1, 1) := by decide +kernel
theorem dX3_see_7 : decode cX3_see 7 = .ok (.bipush 50, 2) := by decide +kernel
theorem dX3_see_9 : decode cX3_see 9 = .ok (.if_icmp .gt 13, 3) := by decide +kernel
theorem dX3_see_12 : decode cX3_see 12 = .ok (.aload_n 0, 1) := by decide +kernel
theorem dX3_see_13 : decode cX3_see 13 = .ok (.getfield 28, 3) := by decide +kernel
theorem dX3_see_16 : decode cX3_see 16 = .ok (.iload_n 1, 1) := by decide +kernel
theorem dX3_see_17 : decode cX3_see 17 = .ok (.bipush (-50), 2) := by decide +kernel
theorem dX3_see_19 : decode cX3_see 19 = .ok (.isub, 1) := by decide +kernel
theorem dX3_see_20 : decode cX3_see 20 = .ok (.iconst 1, 1) := by decide +kernel
theorem dX3_see_21 : decode cX3_see 21 = .ok (.bastore, 1) := by decide +kernel
theorem dX3_see_22 : decode cX3_see 22 = .ok (.return_, 1) := by decide +kernel
theorem dX3_isSeen_0 : decode cX3_isSeen 0 = .ok (.iload_n 1, 1) := by decide +kernel
theorem dX3_isSeen_1 : decode cX3_isSeen 1 = .ok (.bipush (-50), 2) := by decide +kernel
theorem dX3_isSeen_3 : decode cX3_isSeen 3 = .ok (.if_icmp .lt 25, 3) := by decide +kernel
theorem dX3_isSeen_6 : decode cX3_isSeen 6 = .ok (.iload_n 1, 1) := by decide +kernel
theorem dX3_isSeen_7 : decode cX3_isSeen 7 = .ok (.bipush 50, 2) := by decide +kernel
theorem dX3_isSeen_9 : decode cX3_isSeen 9 = .ok (.if_icmp .gt 19, 3) := by decide +kernel
theorem dX3_isSeen_12 : decode cX3_isSeen 12 = .ok (.aload_n 0, 1) := by decide +kernel
theorem dX3_isSeen_13 : decode cX3_isSeen 13 = .ok (.getfield 28, 3) := by decide +kernel
theorem dX3_isSeen_16 : decode cX3_isSeen 16 = .ok (.iload_n 1, 1) := by decide +kernel
theorem dX3_isSeen_17 : decode cX3_isSeen 17 = .ok (.bipush (-50), 2) := by decide +kernel
theorem dX3_isSeen_19 : decode cX3_isSeen 19 = .ok (.isub, 1) := by decide +kernel
theorem dX3_isSeen_20 : decode cX3_isSeen 20 = .ok (.baload, 1) := by decide +kernel
theorem dX3_isSeen_21 : decode cX3_isSeen 21 = .ok (.ifCond .eq 7, 3) := by decide +kernel
theorem dX3_isSeen_24 : decode cX3_isSeen 24 = .ok (.iconst 1, 1) := by decide +kernel
theorem dX3_isSeen_25 : decode cX3_isSeen 25 = .ok (.goto 4, 3) := by decide +kernel
theorem dX3_isSeen_28 : decode cX3_isSeen 28 = .ok (.iconst 0, 1) := by decide +kernel
theorem dX3_isSeen_29 : decode cX3_isSeen 29 = .ok (.ireturn, 1) := by decide +kernel
set_option maxRecDepth 20000 in
theorem ggX3_leastSeen_X3_isSeen : GoodIn wsX3_leastSeen wsX3_isSeen := goodIn_r _ [5, 6, 7, 8, 9, 10, 11, 12] (by decide +kernel) (by decide +kernel)
set_option maxRecDepth 20000 in
theorem gX3_leastSeen_X3_isSeen : GoodIn wsX3_leastSeen (wsV RX3 54 RX3 yX3_isSeen wsX3_isSeen) := goodIn_app (goodIn_of _ (by decide +kernel)) ggX3_leastSeen_X3_isSeen
theorem dX3_leastSeen_0 : decode cX3_leastSeen 0 = .ok (.bipush (-50), 2) := by decide +kernel
theorem dX3_leastSeen_2 : decode cX3_leastSeen 2 = .ok (.istore_n 1, 1) := by decide +kernel
theorem dX3_leastSeen_3 : decode cX3_leastSeen 3 = .ok (.iload_n 1, 1) := by decide +kernel
theorem dX3_leastSeen_4 : decode cX3_leastSeen 4 = .ok (.bipush 50, 2) := by decide +kernel
theorem dX3_leastSeen_6 : decode cX3_leastSeen 6 = .ok (.if_icmp .ge 19, 3) := by decide +kernel
theorem dX3_leastSeen_9 : decode cX3_leastSeen 9 = .ok (.aload_n 0, 1) := by decide +kernel
theorem dX3_leastSeen_10 : decode cX3_leastSeen 10 = .ok (.iload_n 1, 1) := by decide +kernel
theorem dX3_leastSeen_11 : decode cX3_leastSeen 11 = .ok (.invokevirtual 54, 3) := by decide +kernel
theorem dX3_leastSeen_14 : decode cX3_leastSeen 14 = .ok (.ifCond .eq 5, 3) := by decide +kernel
theorem dX3_leastSeen_17 : decode cX3_leastSeen 17 = .ok (.iload_n 1, 1) := by decide +kernel
theorem dX3_leastSeen_18 : decode cX3_leastSeen 18 = .ok (.ireturn, 1) := by decide +kernel
theorem dX3_leastSeen_19 : decode cX3_leastSeen 19 = .ok (.iinc 1 1, 3) := by decide +kernel
theorem dX3_leastSeen_22 : decode cX3_leastSeen 22 = .ok (.goto (-19), 3) := by decide +kernel
theorem dX3_leastSeen_25 : decode cX3_leastSeen 25 = .ok (.bipush 50, 2) := by decide +kernel
theorem dX3_leastSeen_27 : decode cX3_leastSeen 27 = .ok (.ireturn, 1) := by decide +kernel
set_option maxRecDepth 20000 in
theorem ggX3_greatestSeen_X3_isSeen : GoodIn wsX3_greatestSeen wsX3_isSeen := goodIn_r _ [5, 6, 7, 8, 9, 10, 11, 12] (by decide +kernel) (by decide +kernel)
set_option maxRecDepth 20000 in
theorem gX3_greatestSeen_X3_isSeen : GoodIn wsX3_greatestSeen (wsV RX3 54 RX3 yX3_isSeen wsX3_isSeen) := goodIn_app (goodIn_of _ (by decide +kernel)) ggX3_greatestSeen_X3_isSeen
theorem dX3_greatestSeen_0 : decode cX3_greatestSeen 0 = .ok (.bipush 50, 2) := by decide +kernel
theorem dX3_greatestSeen_2 : decode cX3_greatestSeen 2 = .ok (.istore_n 1, 1) := by decide +kernel
theorem dX3_greatestSeen_3 : decode cX3_greatestSeen 3 = .ok (.iload_n 1, 1) := by decide +kernel
theorem dX3_greatestSeen_4 : decode cX3_greatestSeen 4 = .ok (.bipush (-50), 2) := by decide +kernel
theorem dX3_greatestSeen_6 : decode cX3_greatestSeen 6 = .ok (.if_icmp .le 19, 3) := by decide +kernel
theorem dX3_greatestSeen_9 : decode cX3_greatestSeen 9 = .ok (.aload_n 0, 1) := by decide +kernel
theorem dX3_greatestSeen_10 : decode cX3_greatestSeen 10 = .ok (.iload_n 1, 1) := by decide +kernel
theorem dX3_greatestSeen_11 : decode cX3_greatestSeen 11 = .ok (.invokevirtual 54, 3) := by decide +kernel
theorem dX3_greatestSeen_14 : decode cX3_greatestSeen 14 = .ok (.ifCond .eq 5, 3) := by decide +kernel
theorem dX3_greatestSeen_17 : decode cX3_greatestSeen 17 = .ok (.iload_n 1, 1) := by decide +kernel
theorem dX3_greatestSeen_18 : decode cX3_greatestSeen 18 = .ok (.ireturn, 1) := by decide +kernel
theorem dX3_greatestSeen_19 : decode cX3_greatestSeen 19 = .ok (.iinc 1 (-1), 3) := by decide +kernel
theorem dX3_greatestSeen_22 : decode cX3_greatestSeen 22 = .ok (.goto (-19), 3) := by decide +kernel
theorem dX3_greatestSeen_25 : decode cX3_greatestSeen 25 = .ok (.bipush (-50), 2) := by decide +kernel
theorem dX3_greatestSeen_27 : decode cX3_greatestSeen 27 = .ok (.ireturn, 1) := by decide +kernel
end
section
def f_X3_setPrice (k : Nat) (a1 : Int32) (a2 : Int32) (S : QS) : Option QS :=
if a1 < (-50) then (some S)
else (if 50 < a1 then (some S)
else ((wrA (k + 1) 101 (a1 - (-50)) a2 S).bind fun S1 =>
some S1))
def rm_X3_setPrice : Room := { frames := 0, cells := 0, slots := 0, locals := 0 }
set_option maxRecDepth 100000 in
set_option maxHeartbeats 4000000 in
theorem m_X3_setPrice (l : Launch) (D : va_G) (ca : Nat → ClassId) (ad : Nat → Nat) (hj : Inj ad) (k : Nat) (hk : qk k = 3) (a1 : Int32) (a2 : Int32) (S : QS) (o : QS) (hf : f_X3_setPrice k a1 a2 S = some o) : Cv l D ca ad yX3_setPrice wsX3_setPrice rm_X3_setPrice [.ref (ad k), .int a1, .int a2] S o := by
  intro sz
  refine Met.ofW (cc := cX3_setPrice) (maxL := 3) (ret := none) (by decide) rfl ?_
  intro p e s m args below meth c s₁ B hml hv
  obtain ⟨hav, hsz, hP, hKK⟩ := hv
  have hx := B.exec
  have hb := B.bytes
  have hr := B.returns
  have hts := atoms_spec (ws := wsX3_setPrice) B.pre
  have hown : s.vm.findClass RX3 = some m.cls := findClass_of_methodNamed B.named
  have hlocks := B.notSynchronized
  subst hsz
  have hX3 : ∀ w ∈ wsX30, w.before _ s = true := fun w h => hts w (List.mem_cons_of_mem _ (List.mem_append_right _ h))
  have K24 := hts (Cond.fieldLink RX3 24 "CrashDesk$Speed" "prices" "[I") (List.mem_cons_of_mem _ (List.mem_append_left _ (List.mem_of_getElem? (i := 0) rfl)))
  have hl := lv_entry [.ref (ad k), .int a1, .int a2] (n := 3) (Nat.le_of_ble_eq_true rfl)
  rw [show entryFrame m args 3 = entryFrame m ([.ref (ad k), .int a1, .int a2] : List Value).toArray 3 by rw [hav], lg_entry_eq]
  generalize (lg_sl [.ref (ad k), .int a1, .int a2] ++ List.replicate (3 - (lg_sl [.ref (ad k), .int a1, .int a2]).length) Slot.unset).toArray = ls at hl ⊢
  have hl : lv_has ls 3 [(0, .ref (ad k)), (1, .int a1), (2, .int a2)] := hl
  have main : ∀ (H : Heap) (locs : List Loc) (ls : Array Slot), va_P D vwCl (wd ca ad S) H → va_S (Aq ad s.heap.size) s.heap H locs → lv_has ls 3 [(0, .ref (ad k)), (1, .int a1), (2, .int a2)] → W p l e rm_X3_setPrice s m args below meth c H locs 0 0 (Zv below D ca ad args s o) (F0 m 0 ls []) := by
    intro H locs ls hP hS hl
    unfold f_X3_setPrice at hf
    refine lv_iload_n hx hb dX3_setPrice_0 rfl (lv_at hl 1 rfl) ?_
    refine lv_bipush (v := (-50)) hx hb dX3_setPrice_1 (by decide) ?_
    refine lv_icmp_lt (tgt := 22) hx hb dX3_setPrice_3 (by decide) (fun w => ?_) (fun w => ?_)
    · have hf := if_t w hf
      obtain rfl := Option.some.inj hf
      exact r_vret hx hb hr hP hS dX3_setPrice_22 hlocks
    · have hf := if_f w hf
      refine lv_iload_n hx hb dX3_setPrice_6 rfl (lv_at hl 1 rfl) ?_
      refine lv_bipush (v := 50) hx hb dX3_setPrice_7 (by decide) ?_
      refine lv_icmp_gt (tgt := 22) hx hb dX3_setPrice_9 (by decide) (fun w => ?_) (fun w => ?_)
      · have hf := if_t w hf
        obtain rfl := Option.some.inj hf
        exact r_vret hx hb hr hP hS dX3_setPrice_22 hlocks
      · have hf := if_f w hf
        refine lv_aload_n hx hb dX3_setPrice_12 rfl (lv_at hl 0 rfl) ?_
        refine g_X3_prices hx hb hX3 hown hKK hP hk K24 dX3_setPrice_13 ?_
        refine lv_iload_n hx hb dX3_setPrice_16 rfl (lv_at hl 1 rfl) ?_
        refine lv_bipush (v := (-50)) hx hb dX3_setPrice_17 (by decide) ?_
        refine lv_isub hx hb dX3_setPrice_19 ?_
        refine lv_iload_n hx hb dX3_setPrice_20 rfl (lv_at hl 2 rfl) ?_
        obtain ⟨S1, h2, hf⟩ := bd_e hf
        refine r_iast hx hb hj hKK hP hS (q_sp hk).1 (q_sp hk).2.1 h2 dX3_setPrice_21 (fun H locs hP hS => ?_)
        obtain rfl := Option.some.inj hf
        exact r_vret hx hb hr hP hS dX3_setPrice_22 hlocks
  exact main s.heap [] ls hP va_S.rf hl
def lp_X3_clear_3 (k : Nat) : Nat → Int32 → QS → Option QS
  | 0, _, _ => none
  | fuel + 1, v1, S2 => (if 50 < v1 then (some S2)
else (((if v1 < (S2.1 k 0) then (some (-1))
else (if v1 ≤ (S2.1 k 1) then (some 0)
else (some (-1)))) : Option (Int32)).bind fun q3 =>
(f_X3_setPrice k v1 q3 S2).bind fun S5 =>
(wrZ (k + 2) 101 (v1 - (-50)) 0 S5).bind fun S6 =>
lp_X3_clear_3 k fuel (v1 + 1) S6))
def f_X3_clear (k : Nat) (S : QS) : Option QS :=
lp_X3_clear_3 k FU (-50) S
def rm_X3_clear : Room := { frames := 1, cells := 0, slots := 0, locals := 22 }
set_option maxRecDepth 100000 in
set_option maxHeartbeats 4000000 in
theorem m_X3_clear (l : Launch) (D : va_G) (ca : Nat → ClassId) (ad : Nat → Nat) (hj : Inj ad) (k : Nat) (hk : qk k = 3) (S : QS) (o : QS) (hf : f_X3_clear k S = some o) : Cv l D ca ad yX3_clear wsX3_clear rm_X3_clear [.ref (ad k)] S o := by
  intro sz
  refine Met.ofW (cc := cX3_clear) (maxL := 2) (ret := none) (by decide) rfl ?_
  intro p e s m args below meth c s₁ B hml hv
  obtain ⟨hav, hsz, hP, hKK⟩ := hv
  have hx := B.exec
  have hb := B.bytes
  have hr := B.returns
  have hts := atoms_spec (ws := wsX3_clear) B.pre
  have hown : s.vm.findClass RX3 = some m.cls := findClass_of_methodNamed B.named
  have hlocks := B.notSynchronized
  subst hsz
  have hX3 : ∀ w ∈ wsX30, w.before _ s = true := fun w h => hts w (List.mem_cons_of_mem _ (List.mem_append_right _ h))
  have K9 := hts (Cond.fieldLink RX3 9 "CrashDesk$Speed" "low" "I") (List.mem_cons_of_mem _ (List.mem_append_left _ (List.mem_of_getElem? (i := 0) rfl)))
  have K15 := hts (Cond.fieldLink RX3 15 "CrashDesk$Speed" "high" "I") (List.mem_cons_of_mem _ (List.mem_append_left _ (List.mem_of_getElem? (i := 1) rfl)))
  have K28 := hts (Cond.fieldLink RX3 28 "CrashDesk$Speed" "seen" "[Z") (List.mem_cons_of_mem _ (List.mem_append_left _ (List.mem_of_getElem? (i := 2) rfl)))
  have hl := lv_entry [.ref (ad k)] (n := 2) (Nat.le_of_ble_eq_true rfl)
  rw [show entryFrame m args 2 = entryFrame m ([.ref (ad k)] : List Value).toArray 2 by rw [hav], lg_entry_eq]
  generalize (lg_sl [.ref (ad k)] ++ List.replicate (2 - (lg_sl [.ref (ad k)]).length) Slot.unset).toArray = ls at hl ⊢
  have hl : lv_has ls 2 [(0, .ref (ad k))] := hl
  have main : ∀ (H : Heap) (locs : List Loc) (ls : Array Slot), va_P D vwCl (wd ca ad S) H → va_S (Aq ad s.heap.size) s.heap H locs → lv_has ls 2 [(0, .ref (ad k))] → W p l e rm_X3_clear s m args below meth c H locs 0 0 (Zv below D ca ad args s o) (F0 m 0 ls []) := by
    intro H locs ls hP hS hl
    unfold f_X3_clear at hf
    refine lv_bipush (v := (-50)) hx hb dX3_clear_0 (by decide) ?_
    refine lv_istore_n (lv' := [(1, .int (-50)), (0, .ref (ad k))]) hx hb dX3_clear_2 rfl hl (by decide) rfl (fun ls hl => ?_)
    have L1 : ∀ (fuel : Nat) (v1 : Int32) (S2 : QS), lp_X3_clear_3 k fuel v1 S2 = some o → ∀ (H : Heap) (locs : List Loc) (ls : Array Slot), va_P D vwCl (wd ca ad S2) H → va_S (Aq ad s.heap.size) s.heap H locs → lv_has ls 2 [(0, .ref (ad k)), (1, .int v1)] → W p l e rm_X3_clear s m args below meth c H locs 0 0 (Zv below D ca ad args s o) (F0 m 3 ls []) := by
      intro fuel
      induction fuel with
      | zero =>
        intro v1 S2 hf
        simp [lp_X3_clear_3] at hf
      | succ fuel ih =>
        intro v1 S2 hf H locs ls hP hS hl
        rw [lp_X3_clear_3] at hf
        refine lv_iload_n hx hb dX3_clear_3 rfl (lv_at hl 1 rfl) ?_
        refine lv_bipush (v := 50) hx hb dX3_clear_4 (by decide) ?_
        refine lv_icmp_gt (tgt := 51) hx hb dX3_clear_6 (by decide) (fun w => ?_) (fun w => ?_)
        · have hf := if_t w hf
          obtain rfl := Option.some.inj hf
          exact r_vret hx hb hr hP hS dX3_clear_51 hlocks
        · have hf := if_f w hf
          refine lv_aload_n hx hb dX3_clear_9 rfl (lv_at hl 0 rfl) ?_
          refine lv_iload_n hx hb dX3_clear_10 rfl (lv_at hl 1 rfl) ?_
          refine lv_iload_n hx hb dX3_clear_11 rfl (lv_at hl 1 rfl) ?_
          refine lv_aload_n hx hb dX3_clear_12 rfl (lv_at hl 0 rfl) ?_
          refine g_X3_low hx hb hX3 hown hKK hP hk K9 dX3_clear_13 ?_
          obtain ⟨q3, hq3, hf⟩ := bd_e hf
          have J2 : ∀ (H : Heap) (locs : List Loc) (ls : Array Slot), va_P D vwCl (wd ca ad S2) H → va_S (Aq ad s.heap.size) s.heap H locs → lv_has ls 2 [(0, .ref (ad k)), (1, .int v1)] → W p l e rm_X3_clear s m args below meth c H locs 0 0 (Zv below D ca ad args s o) (F0 m 32 ls [.int q3, .int v1, .ref (ad k)]) := by
            intro H locs ls hP hS hl
            obtain ⟨S5, h4, hf⟩ := bd_e hf
            refine r_cv hS (va_runV (As := [.int v1, .int q3]) (rest := []) ⟨hx, hb, hml, hown, hts⟩ (m_X3_setPrice l D ca ad hj k hk v1 q3 S2 _ h4 H.size) (cwV 2 hts gX3_clear_X3_setPrice rfl rfl rfl (by decide +kernel) ⟨Nat.le_of_ble_eq_true rfl, Nat.le_of_ble_eq_true rfl⟩) (r_preV hKK hP hk rfl) rfl rfl hl.1 rfl (lv_room (Nat.le_of_ble_eq_true rfl)) dX3_clear_32 ⟨Nat.le_of_ble_eq_true rfl, Nat.le_of_ble_eq_true rfl⟩) (fun H locs hP hS => ?_)
            refine lv_aload_n hx hb dX3_clear_35 rfl (lv_at hl 0 rfl) ?_
            refine g_X3_seen hx hb hX3 hown hKK hP hk K28 dX3_clear_36 ?_
            refine lv_iload_n hx hb dX3_clear_39 rfl (lv_at hl 1 rfl) ?_
            refine lv_bipush (v := (-50)) hx hb dX3_clear_40 (by decide) ?_
            refine lv_isub hx hb dX3_clear_42 ?_
            refine lv_iconst (v := 0) hx hb dX3_clear_43 (by decide) ?_
            obtain ⟨S6, h7, hf⟩ := bd_e hf
            refine r_zast hx hb hj hKK hP hS (q_sp hk).2.2.1 (q_sp hk).2.2.2 h7 dX3_clear_44 (fun H locs hP hS => ?_)
            refine lv_iinc (v := (v1 + 1)) (lv' := [(1, .int (v1 + 1)), (0, .ref (ad k))]) hx hb dX3_clear_45 hl (k := 1) rfl rfl (by decide) rfl (fun ls hl => ?_)
            refine lv_goto (tgt := 3) hx hb dX3_clear_48 (by decide) ?_
            exact ih _ _ hf _ _ _ hP hS (lv_sub hl [1, 0] rfl)
          replace hf := hq3
          refine lv_icmp_lt (tgt := 27) hx hb dX3_clear_16 (by decide) (fun w => ?_) (fun w => ?_)
          · have hf := if_t w hf
            refine lv_iconst (v := (-1)) hx hb dX3_clear_27 (by decide) ?_
            refine lv_goto (tgt := 32) hx hb dX3_clear_28 (by decide) ?_
            obtain rfl := Option.some.inj hf
            exact J2 _ _ _ hP hS (lv_sub hl [0, 1] rfl)
          · have hf := if_f w hf
            refine lv_iload_n hx hb dX3_clear_19 rfl (lv_at hl 1 rfl) ?_
            refine lv_aload_n hx hb dX3_clear_20 rfl (lv_at hl 0 rfl) ?_
            refine g_X3_high hx hb hX3 hown hKK hP hk K15 dX3_clear_21 ?_
            refine lv_icmp_le (tgt := 31) hx hb dX3_clear_24 (by decide) (fun w => ?_) (fun w => ?_)
            · have hf := if_t w hf
              refine lv_iconst (v := 0) hx hb dX3_clear_31 (by decide) ?_
              obtain rfl := Option.some.inj hf
              exact J2 _ _ _ hP hS (lv_sub hl [0, 1] rfl)
            · have hf := if_f w hf
              refine lv_iconst (v := (-1)) hx hb dX3_clear_27 (by decide) ?_
              refine lv_goto (tgt := 32) hx hb dX3_clear_28 (by decide) ?_
              obtain rfl := Option.some.inj hf
              exact J2 _ _ _ hP hS (lv_sub hl [0, 1] rfl)
    exact L1 _ _ _ hf _ _ _ hP hS (lv_sub hl [1, 0] rfl)
  exact main s.heap [] ls hP va_S.rf hl
def f_X3_priceOf (k : Nat) (a1 : Int32) (S : QS) : Option Int32 :=
if a1 < (-50) then (some (-1))
else (if a1 ≤ 50 then ((rdA (k + 1) 101 (a1 - (-50)) S).bind fun v1 =>
some v1)
else (some (-1)))
def rm_X3_priceOf : Room := { frames := 0, cells := 0, slots := 0, locals := 0 }
set_option maxRecDepth 100000 in
set_option maxHeartbeats 4000000 in
theorem m_X3_priceOf (l : Launch) (D : va_G) (ca : Nat → ClassId) (ad : Nat → Nat) (hj : Inj ad) (k : Nat) (hk : qk k = 3) (a1 : Int32) (S : QS) (o : Int32) (hf : f_X3_priceOf k a1 S = some o) : Ci l D ca ad yX3_priceOf wsX3_priceOf rm_X3_priceOf [.ref (ad k), .int a1] S o S := by
  intro sz
  refine Met.ofW (cc := cX3_priceOf) (maxL := 2) (ret := (some .int)) (by decide) rfl ?_
  intro p e s m args below meth c s₁ B hml hv
  obtain ⟨hav, hsz, hP, hKK⟩ := hv
  have hx := B.exec
  have hb := B.bytes
  have hr := B.returns
  have hts := atoms_spec (ws := wsX3_priceOf) B.pre
  have hown : s.vm.findClass RX3 = some m.cls := findClass_of_methodNamed B.named
  have hlocks := B.notSynchronized
  subst hsz
  have hX3 : ∀ w ∈ wsX30, w.before _ s = true := fun w h => hts w (List.mem_cons_of_mem _ (List.mem_append_right _ h))
  have K24 := hts (Cond.fieldLink RX3 24 "CrashDesk$Speed" "prices" "[I") (List.mem_cons_of_mem _ (List.mem_append_left _ (List.mem_of_getElem? (i := 0) rfl)))
  have hl := lv_entry [.ref (ad k), .int a1] (n := 2) (Nat.le_of_ble_eq_true rfl)
  rw [show entryFrame m args 2 = entryFrame m ([.ref (ad k), .int a1] : List Value).toArray 2 by rw [hav], lg_entry_eq]
  generalize (lg_sl [.ref (ad k), .int a1] ++ List.replicate (2 - (lg_sl [.ref (ad k), .int a1]).length) Slot.unset).toArray = ls at hl ⊢
  have hl : lv_has ls 2 [(0, .ref (ad k)), (1, .int a1)] := hl
  have main : ∀ (H : Heap) (locs : List Loc) (ls : Array Slot), va_P D vwCl (wd ca ad S) H → va_S (Aq ad s.heap.size) s.heap H locs → lv_has ls 2 [(0, .ref (ad k)), (1, .int a1)] → W p l e rm_X3_priceOf s m args below meth c H locs 0 0 (Zi below D ca ad args s o S) (F0 m 0 ls []) := by
    intro H locs ls hP hS hl
    unfold f_X3_priceOf at hf
    refine lv_iload_n hx hb dX3_priceOf_0 rfl (lv_at hl 1 rfl) ?_
    refine lv_bipush (v := (-50)) hx hb dX3_priceOf_1 (by decide) ?_
    refine lv_icmp_lt (tgt := 12) hx hb dX3_priceOf_3 (by decide) (fun w => ?_) (fun w => ?_)
    · have hf := if_t w hf
      refine lv_iconst (v := (-1)) hx hb dX3_priceOf_12 (by decide) ?_
      refine lv_goto (tgt := 25) hx hb dX3_priceOf_13 (by decide) ?_
      obtain rfl := Option.some.inj hf
      exact r_iret hx hb hr hP hS dX3_priceOf_25 hlocks
    · have hf := if_f w hf
      refine lv_iload_n hx hb dX3_priceOf_6 rfl (lv_at hl 1 rfl) ?_
      refine lv_bipush (v := 50) hx hb dX3_priceOf_7 (by decide) ?_
      refine lv_icmp_le (tgt := 16) hx hb dX3_priceOf_9 (by decide) (fun w => ?_) (fun w => ?_)
      · have hf := if_t w hf
        refine lv_aload_n hx hb dX3_priceOf_16 rfl (lv_at hl 0 rfl) ?_
        refine g_X3_prices hx hb hX3 hown hKK hP hk K24 dX3_priceOf_17 ?_
        refine lv_iload_n hx hb dX3_priceOf_20 rfl (lv_at hl 1 rfl) ?_
        refine lv_bipush (v := (-50)) hx hb dX3_priceOf_21 (by decide) ?_
        refine lv_isub hx hb dX3_priceOf_23 ?_
        obtain ⟨v1, h2, hf⟩ := bd_e hf
        refine r_iald hx hb hKK hP (q_sp hk).1 (q_sp hk).2.1 h2 dX3_priceOf_24 ?_
        obtain rfl := Option.some.inj hf
        exact r_iret hx hb hr hP hS dX3_priceOf_25 hlocks
      · have hf := if_f w hf
        refine lv_iconst (v := (-1)) hx hb dX3_priceOf_12 (by decide) ?_
        refine lv_goto (tgt := 25) hx hb dX3_priceOf_13 (by decide) ?_
        obtain rfl := Option.some.inj hf
        exact r_iret hx hb hr hP hS dX3_priceOf_25 hlocks
  exact main s.heap [] ls hP va_S.rf hl
def f_X3_isOpen (k : Nat) (a1 : Int32) (S : QS) : Option Int32 :=
(f_X3_priceOf k a1 S).bind fun v2 =>
if v2 = (-1) then (some 0)
else (some 1)
def rm_X3_isOpen : Room := { frames := 1, cells := 0, slots := 0, locals := 21 }
set_option maxRecDepth 100000 in
set_option maxHeartbeats 4000000 in
theorem m_X3_isOpen (l : Launch) (D : va_G) (ca : Nat → ClassId) (ad : Nat → Nat) (hj : Inj ad) (k : Nat) (hk : qk k = 3) (a1 : Int32) (S : QS) (o : Int32) (hf : f_X3_isOpen k a1 S = some o) : Ci l D ca ad yX3_isOpen wsX3_isOpen rm_X3_isOpen [.ref (ad k), .int a1] S o S := by
  intro sz
  refine Met.ofW (cc := cX3_isOpen) (maxL := 2) (ret := (some .boolean)) (by decide) rfl ?_
  intro p e s m args below meth c s₁ B hml hv
  obtain ⟨hav, hsz, hP, hKK⟩ := hv
  have hx := B.exec
  have hb := B.bytes
  have hr := B.returns
  have hts := atoms_spec (ws := wsX3_isOpen) B.pre
  have hown : s.vm.findClass RX3 = some m.cls := findClass_of_methodNamed B.named
  have hlocks := B.notSynchronized
  subst hsz
  have hl := lv_entry [.ref (ad k), .int a1] (n := 2) (Nat.le_of_ble_eq_true rfl)
  rw [show entryFrame m args 2 = entryFrame m ([.ref (ad k), .int a1] : List Value).toArray 2 by rw [hav], lg_entry_eq]
  generalize (lg_sl [.ref (ad k), .int a1] ++ List.replicate (2 - (lg_sl [.ref (ad k), .int a1]).length) Slot.unset).toArray = ls at hl ⊢
  have hl : lv_has ls 2 [(0, .ref (ad k)), (1, .int a1)] := hl
  have main : ∀ (H : Heap) (locs : List Loc) (ls : Array Slot), va_P D vwCl (wd ca ad S) H → va_S (Aq ad s.heap.size) s.heap H locs → lv_has ls 2 [(0, .ref (ad k)), (1, .int a1)] → W p l e rm_X3_isOpen s m args below meth c H locs 0 0 (Zi below D ca ad args s o S) (F0 m 0 ls []) := by
    intro H locs ls hP hS hl
    unfold f_X3_isOpen at hf
    refine lv_aload_n hx hb dX3_isOpen_0 rfl (lv_at hl 0 rfl) ?_
    refine lv_iload_n hx hb dX3_isOpen_1 rfl (lv_at hl 1 rfl) ?_
    obtain ⟨v2, h1, hf⟩ := bd_e hf
    refine r_ci hS (va_runV (As := [.int a1]) (rest := []) ⟨hx, hb, hml, hown, hts⟩ (m_X3_priceOf l D ca ad hj k hk a1 S _ h1 H.size) (cwV 1 hts gX3_isOpen_X3_priceOf rfl rfl rfl (by decide +kernel) ⟨Nat.le_of_ble_eq_true rfl, Nat.le_of_ble_eq_true rfl⟩) (r_preV hKK hP hk rfl) rfl rfl hl.1 rfl (lv_room (Nat.le_of_ble_eq_true rfl)) dX3_isOpen_2 ⟨Nat.le_of_ble_eq_true rfl, Nat.le_of_ble_eq_true rfl⟩) (fun H locs hP hS => ?_)
    refine lv_iconst (v := (-1)) hx hb dX3_isOpen_5 (by decide) ?_
    refine lv_icmp_eq (tgt := 13) hx hb dX3_isOpen_6 (by decide) (fun w => ?_) (fun w => ?_)
    · have hf := if_t w hf
      refine lv_iconst (v := 0) hx hb dX3_isOpen_13 (by decide) ?_
      obtain rfl := Option.some.inj hf
      exact r_zret hx hb hr hP hS (Or.inl rfl) dX3_isOpen_14 hlocks
    · have hf := if_f w hf
      refine lv_iconst (v := 1) hx hb dX3_isOpen_9 (by decide) ?_
      refine lv_goto (tgt := 14) hx hb dX3_isOpen_10 (by decide) ?_
      obtain rfl := Option.some.inj hf
      exact r_zret hx hb hr hP hS (Or.inr rfl) dX3_isOpen_14 hlocks
  exact main s.heap [] ls hP va_S.rf hl
def lp_X3_hear_3 (k : Nat) (t1 : Nat) (a2 : Int32) : Nat → Int32 → QS → Option QS
  | 0, _, _ => none
  | fuel + 1, v1, S2 => (if 50 < v1 then (some S2)
else (((if v1 < (S2.1 t1 2) then (some 0)
else (if (S2.1 t1 3) < v1 then (some 0)
else (some 1))) : Option (Int32)).bind fun q3 =>
if q3 = 0 then ((f_X3_isOpen k v1 S2).bind fun v5 =>
if v5 = 0 then (lp_X3_hear_3 k t1 a2 fuel (v1 + 1) S2)
else (((if a2 = (-1) then (some (-1))
else ((f_X3_priceOf k v1 S2).bind fun v8 =>
some (v8 + a2))) : Option (Int32)).bind fun q6 =>
(f_X3_setPrice k v1 q6 S2).bind fun S10 =>
lp_X3_hear_3 k t1 a2 fuel (v1 + 1) S10))
else (lp_X3_hear_3 k t1 a2 fuel (v1 + 1) S2)))
def f_X3_hear (k : Nat) (t1 : Nat) (a2 : Int32) (S : QS) : Option QS :=
lp_X3_hear_3 k t1 a2 FU (-50) S
def rm_X3_hear : Room := { frames := 2, cells := 0, slots := 0, locals := 42 }
set_option maxRecDepth 100000 in
set_option maxHeartbeats 4000000 in
theorem m_X3_hear (l : Launch) (D : va_G) (ca : Nat → ClassId) (ad : Nat → Nat) (hj : Inj ad) (k : Nat) (hk : qk k = 3) (t1 : Nat) (ht1 : qk t1 = 4) (a2 : Int32) (S : QS) (o : QS) (hf : f_X3_hear k t1 a2 S = some o) : Cv l D ca ad yX3_hear wsX3_hear rm_X3_hear [.ref (ad k), .ref (ad t1), .int a2] S o := by
  intro sz
  refine Met.ofW (cc := cX3_hear) (maxL := 5) (ret := none) (by decide) rfl ?_
  intro p e s m args below meth c s₁ B hml hv
  obtain ⟨hav, hsz, hP, hKK⟩ := hv
  have hx := B.exec
  have hb := B.bytes
  have hr := B.returns
  have hts := atoms_spec (ws := wsX3_hear) B.pre
  have hown : s.vm.findClass RX3 = some m.cls := findClass_of_methodNamed B.named
  have hlocks := B.notSynchronized
  subst hsz
  have hX4 : ∀ w ∈ wsX40, w.before _ s = true := fun w h => hts w (List.mem_cons_of_mem _ (List.mem_append_left _ (List.mem_append_right _ h)))
  have K36 := hts (Cond.fieldLink RX3 36 "CrashDesk$Tale" "low" "I") (List.mem_cons_of_mem _ (List.mem_append_left _ (List.mem_append_left _ (List.mem_of_getElem? (i := 0) rfl))))
  have K39 := hts (Cond.fieldLink RX3 39 "CrashDesk$Tale" "high" "I") (List.mem_cons_of_mem _ (List.mem_append_left _ (List.mem_append_left _ (List.mem_of_getElem? (i := 1) rfl))))
  have hl := lv_entry [.ref (ad k), .ref (ad t1), .int a2] (n := 5) (Nat.le_of_ble_eq_true rfl)
  rw [show entryFrame m args 5 = entryFrame m ([.ref (ad k), .ref (ad t1), .int a2] : List Value).toArray 5 by rw [hav], lg_entry_eq]
  generalize (lg_sl [.ref (ad k), .ref (ad t1), .int a2] ++ List.replicate (5 - (lg_sl [.ref (ad k), .ref (ad t1), .int a2]).length) Slot.unset).toArray = ls at hl ⊢
  have hl : lv_has ls 5 [(0, .ref (ad k)), (1, .ref (ad t1)), (2, .int a2)] := hl
  have main : ∀ (H : Heap) (locs : List Loc) (ls : Array Slot), va_P D vwCl (wd ca ad S) H → va_S (Aq ad s.heap.size) s.heap H locs → lv_has ls 5 [(0, .ref (ad k)), (1, .ref (ad t1)), (2, .int a2)] → W p l e rm_X3_hear s m args below meth c H locs 0 0 (Zv below D ca ad args s o) (F0 m 0 ls []) := by
    intro H locs ls hP hS hl
    unfold f_X3_hear at hf
    refine lv_bipush (v := (-50)) hx hb dX3_hear_0 (by decide) ?_
    refine lv_istore_n (lv' := [(3, .int (-50)), (0, .ref (ad k)), (1, .ref (ad t1)), (2, .int a2)]) hx hb dX3_hear_2 rfl hl (by decide) rfl (fun ls hl => ?_)
    have L1 : ∀ (fuel : Nat) (v1 : Int32) (S2 : QS), lp_X3_hear_3 k t1 a2 fuel v1 S2 = some o → ∀ (H : Heap) (locs : List Loc) (ls : Array Slot), va_P D vwCl (wd ca ad S2) H → va_S (Aq ad s.heap.size) s.heap H locs → lv_has ls 5 [(0, .ref (ad k)), (1, .ref (ad t1)), (2, .int a2), (3, .int v1)] → W p l e rm_X3_hear s m args below meth c H locs 0 0 (Zv below D ca ad args s o) (F0 m 3 ls []) := by
      intro fuel
      induction fuel with
      | zero =>
        intro v1 S2 hf
        simp [lp_X3_hear_3] at hf
      | succ fuel ih =>
        intro v1 S2 hf H locs ls hP hS hl
        rw [lp_X3_hear_3] at hf
        refine lv_iload_n hx hb dX3_hear_3 rfl (lv_at hl 3 rfl) ?_
        refine lv_bipush (v := 50) hx hb dX3_hear_4 (by decide) ?_
        refine lv_icmp_gt (tgt := 72) hx hb dX3_hear_6 (by decide) (fun w => ?_) (fun w => ?_)
        · have hf := if_t w hf
          obtain rfl := Option.some.inj hf
          exact r_vret hx hb hr hP hS dX3_hear_72 hlocks
        · have hf := if_f w hf
          refine lv_iload_n hx hb dX3_hear_9 rfl (lv_at hl 3 rfl) ?_
          refine lv_aload_n hx hb dX3_hear_10 rfl (lv_at hl 1 rfl) ?_
          refine g_X4_low hx hb hX4 hown hKK hP ht1 K36 dX3_hear_11 ?_
          obtain ⟨q3, hq3, hf⟩ := bd_e hf
          have J2 : ∀ (H : Heap) (locs : List Loc) (ls : Array Slot), va_P D vwCl (wd ca ad S2) H → va_S (Aq ad s.heap.size) s.heap H locs → lv_has ls 5 [(0, .ref (ad k)), (1, .ref (ad t1)), (2, .int a2), (3, .int v1)] → W p l e rm_X3_hear s m args below meth c H locs 0 0 (Zv below D ca ad args s o) (F0 m 30 ls [.int q3]) := by
            intro H locs ls hP hS hl
            refine lv_istore (lv' := [(4, .int q3), (0, .ref (ad k)), (1, .ref (ad t1)), (2, .int a2), (3, .int v1)]) hx hb dX3_hear_30 hl (by decide) rfl (fun ls hl => ?_)
            refine lv_iload hx hb dX3_hear_32 (lv_at hl 0 rfl) ?_
            refine lv_if_ne (tgt := 66) hx hb dX3_hear_34 (by decide) (fun w => ?_) (fun w => ?_)
            · have hf := if_f w hf
              refine lv_iinc (v := (v1 + 1)) (lv' := [(3, .int (v1 + 1)), (4, .int q3), (0, .ref (ad k)), (1, .ref (ad t1)), (2, .int a2)]) hx hb dX3_hear_66 hl (k := 4) rfl rfl (by decide) rfl (fun ls hl => ?_)
              refine lv_goto (tgt := 3) hx hb dX3_hear_69 (by decide) ?_
              exact ih _ _ hf _ _ _ hP hS (lv_sub hl [2, 3, 4, 0] rfl)
            · have hf := if_t w hf
              refine lv_aload_n hx hb dX3_hear_37 rfl (lv_at hl 1 rfl) ?_
              refine lv_iload_n hx hb dX3_hear_38 rfl (lv_at hl 4 rfl) ?_
              obtain ⟨v5, h4, hf⟩ := bd_e hf
              refine r_ci hS (va_runV (As := [.int v1]) (rest := []) ⟨hx, hb, hml, hown, hts⟩ (m_X3_isOpen l D ca ad hj k hk v1 S2 _ h4 H.size) (cwV 1 hts gX3_hear_X3_isOpen rfl rfl rfl (by decide +kernel) ⟨Nat.le_of_ble_eq_true rfl, Nat.le_of_ble_eq_true rfl⟩) (r_preV hKK hP hk rfl) rfl rfl hl.1 rfl (lv_room (Nat.le_of_ble_eq_true rfl)) dX3_hear_39 ⟨Nat.le_of_ble_eq_true rfl, Nat.le_of_ble_eq_true rfl⟩) (fun H locs hP hS => ?_)
              refine lv_if_eq (tgt := 66) hx hb dX3_hear_42 (by decide) (fun w => ?_) (fun w => ?_)
              · have hf := if_t w hf
                refine lv_iinc (v := (v1 + 1)) (lv' := [(3, .int (v1 + 1)), (4, .int q3), (0, .ref (ad k)), (1, .ref (ad t1)), (2, .int a2)]) hx hb dX3_hear_66 hl (k := 4) rfl rfl (by decide) rfl (fun ls hl => ?_)
                refine lv_goto (tgt := 3) hx hb dX3_hear_69 (by decide) ?_
                exact ih _ _ hf _ _ _ hP hS (lv_sub hl [2, 3, 4, 0] rfl)
              · have hf := if_f w hf
                refine lv_aload_n hx hb dX3_hear_45 rfl (lv_at hl 1 rfl) ?_
                refine lv_iload_n hx hb dX3_hear_46 rfl (lv_at hl 4 rfl) ?_
                refine lv_iload_n hx hb dX3_hear_47 rfl (lv_at hl 3 rfl) ?_
                refine lv_iconst (v := (-1)) hx hb dX3_hear_48 (by decide) ?_
                obtain ⟨q6, hq6, hf⟩ := bd_e hf
                have J3 : ∀ (H : Heap) (locs : List Loc) (ls : Array Slot), va_P D vwCl (wd ca ad S2) H → va_S (Aq ad s.heap.size) s.heap H locs → lv_has ls 5 [(0, .ref (ad k)), (1, .ref (ad t1)), (2, .int a2), (3, .int v1)] → W p l e rm_X3_hear s m args below meth c H locs 0 0 (Zv below D ca ad args s o) (F0 m 63 ls [.int q6, .int v1, .ref (ad k)]) := by
                  intro H locs ls hP hS hl
                  obtain ⟨S10, h9, hf⟩ := bd_e hf
                  refine r_cv hS (va_runV (As := [.int v1, .int q6]) (rest := []) ⟨hx, hb, hml, hown, hts⟩ (m_X3_setPrice l D ca ad hj k hk v1 q6 S2 _ h9 H.size) (cwV 2 hts gX3_hear_X3_setPrice rfl rfl rfl (by decide +kernel) ⟨Nat.le_of_ble_eq_true rfl, Nat.le_of_ble_eq_true rfl⟩) (r_preV hKK hP hk rfl) rfl rfl hl.1 rfl (lv_room (Nat.le_of_ble_eq_true rfl)) dX3_hear_63 ⟨Nat.le_of_ble_eq_true rfl, Nat.le_of_ble_eq_true rfl⟩) (fun H locs hP hS => ?_)
                  refine lv_iinc (v := (v1 + 1)) (lv' := [(3, .int (v1 + 1)), (0, .ref (ad k)), (1, .ref (ad t1)), (2, .int a2)]) hx hb dX3_hear_66 hl (k := 3) rfl rfl (by decide) rfl (fun ls hl => ?_)
                  refine lv_goto (tgt := 3) hx hb dX3_hear_69 (by decide) ?_
                  exact ih _ _ hf _ _ _ hP hS (lv_sub hl [1, 2, 3, 0] rfl)
                replace hf := hq6
                refine lv_icmp_ne (tgt := 56) hx hb dX3_hear_49 (by decide) (fun w => ?_) (fun w => ?_)
                · have hf := if_f w hf
                  refine lv_aload_n hx hb dX3_hear_56 rfl (lv_at hl 1 rfl) ?_
                  refine lv_iload_n hx hb dX3_hear_57 rfl (lv_at hl 4 rfl) ?_
                  obtain ⟨v8, h7, hf⟩ := bd_e hf
                  refine r_ci hS (va_runV (As := [.int v1]) (rest := [.int v1, .ref (ad k)]) ⟨hx, hb, hml, hown, hts⟩ (m_X3_priceOf l D ca ad hj k hk v1 S2 _ h7 H.size) (cwV 1 hts gX3_hear_X3_priceOf rfl rfl rfl (by decide +kernel) ⟨Nat.le_of_ble_eq_true rfl, Nat.le_of_ble_eq_true rfl⟩) (r_preV hKK hP hk rfl) rfl rfl hl.1 rfl (lv_room (Nat.le_of_ble_eq_true rfl)) dX3_hear_58 ⟨Nat.le_of_ble_eq_true rfl, Nat.le_of_ble_eq_true rfl⟩) (fun H locs hP hS => ?_)
                  refine lv_iload_n hx hb dX3_hear_61 rfl (lv_at hl 3 rfl) ?_
                  refine lv_iadd hx hb dX3_hear_62 ?_
                  obtain rfl := Option.some.inj hf
                  exact J3 _ _ _ hP hS (lv_sub hl [1, 2, 3, 4] rfl)
                · have hf := if_t w hf
                  refine lv_iconst (v := (-1)) hx hb dX3_hear_52 (by decide) ?_
                  refine lv_goto (tgt := 63) hx hb dX3_hear_53 (by decide) ?_
                  obtain rfl := Option.some.inj hf
                  exact J3 _ _ _ hP hS (lv_sub hl [1, 2, 3, 4] rfl)
          replace hf := hq3
          refine lv_icmp_lt (tgt := 29) hx hb dX3_hear_14 (by decide) (fun w => ?_) (fun w => ?_)
          · have hf := if_t w hf
            refine lv_iconst (v := 0) hx hb dX3_hear_29 (by decide) ?_
            obtain rfl := Option.some.inj hf
            exact J2 _ _ _ hP hS (lv_sub hl [0, 1, 2, 3] rfl)
          · have hf := if_f w hf
            refine lv_iload_n hx hb dX3_hear_17 rfl (lv_at hl 3 rfl) ?_
            refine lv_aload_n hx hb dX3_hear_18 rfl (lv_at hl 1 rfl) ?_
            refine g_X4_high hx hb hX4 hown hKK hP ht1 K39 dX3_hear_19 ?_
            refine lv_icmp_gt (tgt := 29) hx hb dX3_hear_22 (by decide) (fun w => ?_) (fun w => ?_)
            · have hf := if_t w hf
              refine lv_iconst (v := 0) hx hb dX3_hear_29 (by decide) ?_
              obtain rfl := Option.some.inj hf
              exact J2 _ _ _ hP hS (lv_sub hl [0, 1, 2, 3] rfl)
            · have hf := if_f w hf
              refine lv_iconst (v := 1) hx hb dX3_hear_25 (by decide) ?_
              refine lv_goto (tgt := 30) hx hb dX3_hear_26 (by decide) ?_
              obtain rfl := Option.some.inj hf
              exact J2 _ _ _ hP hS (lv_sub hl [0, 1, 2, 3] rfl)
    exact L1 _ _ _ hf _ _ _ hP hS (lv_sub hl [1, 2, 3, 0] rfl)
  exact main s.heap [] ls hP va_S.rf hl
def lp_X3_bound_15 (k : Nat) : Nat → Int32 → QS → Option QS
  | 0, _, _ => none
  | fuel + 1, v5, S6 => (if 50 < v5 then (some S6)
else ((f_X3_isOpen k v5 S6).bind fun v8 =>
if v8 = 0 then (lp_X3_bound_15 k fuel (v5 + 1) S6)
else ((stF k 2 (if v5 < (S6.1 k 2) then v5 else (S6.1 k 2)) S6).bind fun S9 =>
(stF k 3 v5 S9).bind fun S11 =>
lp_X3_bound_15 k fuel (v5 + 1) S11)))
def f_X3_bound (k : Nat) (S : QS) : Option QS :=
(stF k 2 51 S).bind fun S1 =>
(stF k 3 (-51) S1).bind fun S3 =>
lp_X3_bound_15 k FU (-50) S3
def rm_X3_bound : Room := { frames := 2, cells := 0, slots := 0, locals := 42 }
set_option maxRecDepth 100000 in
set_option maxHeartbeats 4000000 in
theorem m_X3_bound (l : Launch) (D : va_G) (ca : Nat → ClassId) (ad : Nat → Nat) (hj : Inj ad) (k : Nat) (hk : qk k = 3) (S : QS) (o : QS) (hf : f_X3_bound k S = some o) : Cv l D ca ad yX3_bound wsX3_bound rm_X3_bound [.ref (ad k)] S o := by
  intro sz
  refine Met.ofW (cc := cX3_bound) (maxL := 2) (ret := none) (by decide) rfl ?_
  intro p e s m args below meth c s₁ B hml hv
  obtain ⟨hav, hsz, hP, hKK⟩ := hv
  have hx := B.exec
  have hb := B.bytes
  have hr := B.returns
  have hts := atoms_spec (ws := wsX3_bound) B.pre
  have hown : s.vm.findClass RX3 = some m.cls := findClass_of_methodNamed B.named
  have hlocks := B.notSynchronized
  subst hsz
  have hX3 : ∀ w ∈ wsX30, w.before _ s = true := fun w h => hts w (List.mem_cons_of_mem _ (List.mem_append_right _ h))
  have K18 := hts (Cond.fieldLink RX3 18 "CrashDesk$Speed" "bottom" "I") (List.mem_cons_of_mem _ (List.mem_append_left _ (List.mem_of_getElem? (i := 0) rfl)))
  have K21 := hts (Cond.fieldLink RX3 21 "CrashDesk$Speed" "top" "I") (List.mem_cons_of_mem _ (List.mem_append_left _ (List.mem_of_getElem? (i := 1) rfl)))
  have K48 := hts (Cond.methodLink RX3 48 Lib.Math.min.name) (List.mem_cons_of_mem _ (List.mem_append_left _ (List.mem_of_getElem? (i := 2) rfl)))
  have hl := lv_entry [.ref (ad k)] (n := 2) (Nat.le_of_ble_eq_true rfl)
  rw [show entryFrame m args 2 = entryFrame m ([.ref (ad k)] : List Value).toArray 2 by rw [hav], lg_entry_eq]
  generalize (lg_sl [.ref (ad k)] ++ List.replicate (2 - (lg_sl [.ref (ad k)]).length) Slot.unset).toArray = ls at hl ⊢
  have hl : lv_has ls 2 [(0, .ref (ad k))] := hl
  have main : ∀ (H : Heap) (locs : List Loc) (ls : Array Slot), va_P D vwCl (wd ca ad S) H → va_S (Aq ad s.heap.size) s.heap H locs → lv_has ls 2 [(0, .ref (ad k))] → W p l e rm_X3_bound s m args below meth c H locs 0 0 (Zv below D ca ad args s o) (F0 m 0 ls []) := by
    intro H locs ls hP hS hl
    unfold f_X3_bound at hf
    refine lv_aload_n hx hb dX3_bound_0 rfl (lv_at hl 0 rfl) ?_
    refine lv_bipush (v := 51) hx hb dX3_bound_1 (by decide) ?_
    obtain ⟨S1, h2, hf⟩ := bd_e hf
    obtain rfl := Option.some.inj h2
    refine p_X3_bottom hx hb hX3 hown hj hKK hP hS hk K18 dX3_bound_3 (fun H locs hP hS => ?_)
    refine lv_aload_n hx hb dX3_bound_6 rfl (lv_at hl 0 rfl) ?_
    refine lv_bipush (v := (-51)) hx hb dX3_bound_7 (by decide) ?_
    obtain ⟨S3, h4, hf⟩ := bd_e hf
    obtain rfl := Option.some.inj h4
    refine p_X3_top hx hb hX3 hown hj hKK hP hS hk K21 dX3_bound_9 (fun H locs hP hS => ?_)
    refine lv_bipush (v := (-50)) hx hb dX3_bound_12 (by decide) ?_
    refine lv_istore_n (lv' := [(1, .int (-50)), (0, .ref (ad k))]) hx hb dX3_bound_14 rfl hl (by decide) rfl (fun ls hl => ?_)
    have L1 : ∀ (fuel : Nat) (v5 : Int32) (S6 : QS), lp_X3_bound_15 k fuel v5 S6 = some o → ∀ (H : Heap) (locs : List Loc) (ls : Array Slot), va_P D vwCl (wd ca ad S6) H → va_S (Aq ad s.heap.size) s.heap H locs → lv_has ls 2 [(0, .ref (ad k)), (1, .int v5)] → W p l e rm_X3_bound s m args below meth c H locs 0 0 (Zv below D ca ad args s o) (F0 m 15 ls []) := by
      intro fuel
      induction fuel with
      | zero =>
        intro v5 S6 hf
        simp [lp_X3_bound_15] at hf
      | succ fuel ih =>
        intro v5 S6 hf H locs ls hP hS hl
        rw [lp_X3_bound_15] at hf
        refine lv_iload_n hx hb dX3_bound_15 rfl (lv_at hl 1 rfl) ?_
        refine lv_bipush (v := 50) hx hb dX3_bound_16 (by decide) ?_
        refine lv_icmp_gt (tgt := 52) hx hb dX3_bound_18 (by decide) (fun w => ?_) (fun w => ?_)
        · have hf := if_t w hf
          obtain rfl := Option.some.inj hf
          exact r_vret hx hb hr hP hS dX3_bound_52 hlocks
        · have hf := if_f w hf
          refine lv_aload_n hx hb dX3_bound_21 rfl (lv_at hl 0 rfl) ?_
          refine lv_iload_n hx hb dX3_bound_22 rfl (lv_at hl 1 rfl) ?_
          obtain ⟨v8, h7, hf⟩ := bd_e hf
          refine r_ci hS (va_runV (As := [.int v5]) (rest := []) ⟨hx, hb, hml, hown, hts⟩ (m_X3_isOpen l D ca ad hj k hk v5 S6 _ h7 H.size) (cwV 1 hts gX3_bound_X3_isOpen rfl rfl rfl (by decide +kernel) ⟨Nat.le_of_ble_eq_true rfl, Nat.le_of_ble_eq_true rfl⟩) (r_preV hKK hP hk rfl) rfl rfl hl.1 rfl (lv_room (Nat.le_of_ble_eq_true rfl)) dX3_bound_23 ⟨Nat.le_of_ble_eq_true rfl, Nat.le_of_ble_eq_true rfl⟩) (fun H locs hP hS => ?_)
          refine lv_if_eq (tgt := 46) hx hb dX3_bound_26 (by decide) (fun w => ?_) (fun w => ?_)
          · have hf := if_t w hf
            refine lv_iinc (v := (v5 + 1)) (lv' := [(1, .int (v5 + 1)), (0, .ref (ad k))]) hx hb dX3_bound_46 hl (k := 1) rfl rfl (by decide) rfl (fun ls hl => ?_)
            refine lv_goto (tgt := 15) hx hb dX3_bound_49 (by decide) ?_
            exact ih _ _ hf _ _ _ hP hS (lv_sub hl [1, 0] rfl)
          · have hf := if_f w hf
            refine lv_aload_n hx hb dX3_bound_29 rfl (lv_at hl 0 rfl) ?_
            refine lv_aload_n hx hb dX3_bound_30 rfl (lv_at hl 0 rfl) ?_
            refine g_X3_bottom hx hb hX3 hown hKK hP hk K18 dX3_bound_31 ?_
            refine lv_iload_n hx hb dX3_bound_34 rfl (lv_at hl 1 rfl) ?_
            refine va_mmin hx hb (hml.trans hl.1.symm) hown K48 (hts _ (List.mem_cons_of_mem _ (List.mem_append_left _ (List.mem_of_getElem? (i := 3) rfl)))) (hts _ (List.mem_cons_of_mem _ (List.mem_append_left _ (List.mem_of_getElem? (i := 4) rfl)))) (hts _ (List.mem_cons_of_mem _ (List.mem_append_left _ (List.mem_of_getElem? (i := 5) rfl)))) (Nat.le_of_ble_eq_true rfl) (Nat.le_of_ble_eq_true rfl) (Nat.le_of_ble_eq_true rfl) (Nat.le_of_ble_eq_true rfl) dX3_bound_35 ?_
            obtain ⟨S9, h10, hf⟩ := bd_e hf
            obtain rfl := Option.some.inj h10
            refine p_X3_bottom hx hb hX3 hown hj hKK hP hS hk K18 dX3_bound_38 (fun H locs hP hS => ?_)
            refine lv_aload_n hx hb dX3_bound_41 rfl (lv_at hl 0 rfl) ?_
            refine lv_iload_n hx hb dX3_bound_42 rfl (lv_at hl 1 rfl) ?_
            obtain ⟨S11, h12, hf⟩ := bd_e hf
            obtain rfl := Option.some.inj h12
            refine p_X3_top hx hb hX3 hown hj hKK hP hS hk K21 dX3_bound_43 (fun H locs hP hS => ?_)
            refine lv_iinc (v := (v5 + 1)) (lv' := [(1, .int (v5 + 1)), (0, .ref (ad k))]) hx hb dX3_bound_46 hl (k := 1) rfl rfl (by decide) rfl (fun ls hl => ?_)
            refine lv_goto (tgt := 15) hx hb dX3_bound_49 (by decide) ?_
            exact ih _ _ hf _ _ _ hP hS (lv_sub hl [1, 0] rfl)
    exact L1 _ _ _ hf _ _ _ hP hS (lv_sub hl [1, 0] rfl)
  exact main s.heap [] ls hP va_S.rf hl
def f_X3_see (k : Nat) (a1 : Int32) (S : QS) : Option QS :=
if a1 < (-50) then (some S)
else (if 50 < a1 then (some S)
else ((wrZ (k + 2) 101 (a1 - (-50)) 1 S).bind fun S1 =>
some S1))
def rm_X3_see : Room := { frames := 0, cells := 0, slots := 0, locals := 0 }
set_option maxRecDepth 100000 in
set_option maxHeartbeats 4000000 in
theorem m_X3_see (l : Launch) (D : va_G) (ca : Nat → ClassId) (ad : Nat → Nat) (hj : Inj ad) (k : Nat) (hk : qk k = 3) (a1 : Int32) (S : QS) (o : QS) (hf : f_X3_see k a1 S = some o) : Cv l D ca ad yX3_see wsX3_see rm_X3_see [.ref (ad k), .int a1] S o := by
  intro sz
  refine Met.ofW (cc := cX3_see) (maxL := 2) (ret := none) (by decide) rfl ?_
  intro p e s m args below meth c s₁ B hml hv
  obtain ⟨hav, hsz, hP, hKK⟩ := hv
  have hx := B.exec
  have hb := B.bytes
  have hr := B.returns
  have hts := atoms_spec (ws := wsX3_see) B.pre
  have hown : s.vm.findClass RX3 = some m.cls := findClass_of_methodNamed B.named
  have hlocks := B.notSynchronized
  subst hsz
  have hX3 : ∀ w ∈ wsX30, w.before _ s = true := fun w h => hts w (List.mem_cons_of_mem _ (List.mem_append_right _ h))
  have K28 := hts (Cond.fieldLink RX3 28 "CrashDesk$Speed" "seen" "[Z") (List.mem_cons_of_mem _ (List.mem_append_left _ (List.mem_of_getElem? (i := 0) rfl)))
  have hl := lv_entry [.ref (ad k), .int a1] (n := 2) (Nat.le_of_ble_eq_true rfl)
  rw [show entryFrame m args 2 = entryFrame m ([.ref (ad k), .int a1] : List Value).toArray 2 by rw [hav], lg_entry_eq]
  generalize (lg_sl [.ref (ad k), .int a1] ++ List.replicate (2 - (lg_sl [.ref (ad k), .int a1]).length) Slot.unset).toArray = ls at hl ⊢
  have hl : lv_has ls 2 [(0, .ref (ad k)), (1, .int a1)] := hl
  have main : ∀ (H : Heap) (locs : List Loc) (ls : Array Slot), va_P D vwCl (wd ca ad S) H → va_S (Aq ad s.heap.size) s.heap H locs → lv_has ls 2 [(0, .ref (ad k)), (1, .int a1)] → W p l e rm_X3_see s m args below meth c H locs 0 0 (Zv below D ca ad args s o) (F0 m 0 ls []) := by
    intro H locs ls hP hS hl
    unfold f_X3_see at hf
    refine lv_iload_n hx hb dX3_see_0 rfl (lv_at hl 1 rfl) ?_
    refine lv_bipush (v := (-50)) hx hb dX3_see_1 (by decide) ?_
    refine lv_icmp_lt (tgt := 22) hx hb dX3_see_3 (by decide) (fun w => ?_) (fun w => ?_)
    · have hf := if_t w hf
      obtain rfl := Option.some.inj hf
      exact r_vret hx hb hr hP hS dX3_see_22 hlocks
    · have hf := if_f w hf
      refine lv_iload_n hx hb dX3_see_6 rfl (lv_at hl 1 rfl) ?_
      refine lv_bipush (v := 50) hx hb dX3_see_7 (by decide) ?_
      refine lv_icmp_gt (tgt := 22) hx hb dX3_see_9 (by decide) (fun w => ?_) (fun w => ?_)
      · have hf := if_t w hf
        obtain rfl := Option.some.inj hf
        exact r_vret hx hb hr hP hS dX3_see_22 hlocks
      · have hf := if_f w hf
        refine lv_aload_n hx hb dX3_see_12 rfl (lv_at hl 0 rfl) ?_
        refine g_X3_seen hx hb hX3 hown hKK hP hk K28 dX3_see_13 ?_
        refine lv_iload_n hx hb dX3_see_16 rfl (lv_at hl 1 rfl) ?_
        refine lv_bipush (v := (-50)) hx hb dX3_see_17 (by decide) ?_
        refine lv_isub hx hb dX3_see_19 ?_
        refine lv_iconst (v := 1) hx hb dX3_see_20 (by decide) ?_
        obtain ⟨S1, h2, hf⟩ := bd_e hf
        refine r_zast hx hb hj hKK hP hS (q_sp hk).2.2.1 (q_sp hk).2.2.2 h2 dX3_see_21 (fun H locs hP hS => ?_)
        obtain rfl := Option.some.inj hf
        exact r_vret hx hb hr hP hS dX3_see_22 hlocks
  exact main s.heap [] ls hP va_S.rf hl
def f_X3_isSeen (k : Nat) (a1 : Int32) (S : QS) : Option Int32 :=
if a1 < (-50) then (some 0)
else (if 50 < a1 then (some 0)
else ((rdA (k + 2) 101 (a1 - (-50)) S).bind fun v1 =>
if v1 = 0 then (some 0)
else (some 1)))
def rm_X3_isSeen : Room := { frames := 0, cells := 0, slots := 0, locals := 0 }
set_option maxRecDepth 100000 in
set_option maxHeartbeats 4000000 in
theorem m_X3_isSeen (l : Launch) (D : va_G) (ca : Nat → ClassId) (ad : Nat → Nat) (hj : Inj ad) (k : Nat) (hk : qk k = 3) (a1 : Int32) (S : QS) (o : Int32) (hf : f_X3_isSeen k a1 S = some o) : Ci l D ca ad yX3_isSeen wsX3_isSeen rm_X3_isSeen [.ref (ad k), .int a1] S o S := by
  intro sz
  refine Met.ofW (cc := cX3_isSeen) (maxL := 2) (ret := (some .boolean)) (by decide) rfl ?_
  intro p e s m args below meth c s₁ B hml hv
  obtain ⟨hav, hsz, hP, hKK⟩ := hv
  have hx := B.exec
  have hb := B.bytes
  have hr := B.returns
  have hts := atoms_spec (ws := wsX3_isSeen) B.pre
  have hown : s.vm.findClass RX3 = some m.cls := findClass_of_methodNamed B.named
  have hlocks := B.notSynchronized
  subst hsz
  have hX3 : ∀ w ∈ wsX30, w.before _ s = true := fun w h => hts w (List.mem_cons_of_mem _ (List.mem_append_right _ h))
  have K28 := hts (Cond.fieldLink RX3 28 "CrashDesk$Speed" "seen" "[Z") (List.mem_cons_of_mem _ (List.mem_append_left _ (List.mem_of_getElem? (i := 0) rfl)))
  have hl := lv_entry [.ref (ad k), .int a1] (n := 2) (Nat.le_of_ble_eq_true rfl)
  rw [show entryFrame m args 2 = entryFrame m ([.ref (ad k), .int a1] : List Value).toArray 2 by rw [hav], lg_entry_eq]
  generalize (lg_sl [.ref (ad k), .int a1] ++ List.replicate (2 - (lg_sl [.ref (ad k), .int a1]).length) Slot.unset).toArray = ls at hl ⊢
  have hl : lv_has ls 2 [(0, .ref (ad k)), (1, .int a1)] := hl
  have main : ∀ (H : Heap) (locs : List Loc) (ls : Array Slot), va_P D vwCl (wd ca ad S) H → va_S (Aq ad s.heap.size) s.heap H locs → lv_has ls 2 [(0, .ref (ad k)), (1, .int a1)] → W p l e rm_X3_isSeen s m args below meth c H locs 0 0 (Zi below D ca ad args s o S) (F0 m 0 ls []) := by
    intro H locs ls hP hS hl
    unfold f_X3_isSeen at hf
    refine lv_iload_n hx hb dX3_isSeen_0 rfl (lv_at hl 1 rfl) ?_
    refine lv_bipush (v := (-50)) hx hb dX3_isSeen_1 (by decide) ?_
    refine lv_icmp_lt (tgt := 28) hx hb dX3_isSeen_3 (by decide) (fun w => ?_) (fun w => ?_)
    · have hf := if_t w hf
      refine lv_iconst (v := 0) hx hb dX3_isSeen_28 (by decide) ?_
      obtain rfl := Option.some.inj hf
      exact r_zret hx hb hr hP hS (Or.inl rfl) dX3_isSeen_29 hlocks
    · have hf := if_f w hf
      refine lv_iload_n hx hb dX3_isSeen_6 rfl (lv_at hl 1 rfl) ?_
      refine lv_bipush (v := 50) hx hb dX3_isSeen_7 (by decide) ?_
      refine lv_icmp_gt (tgt := 28) hx hb dX3_isSeen_9 (by decide) (fun w => ?_) (fun w => ?_)
      · have hf := if_t w hf
        refine lv_iconst (v := 0) hx hb dX3_isSeen_28 (by decide) ?_
        obtain rfl := Option.some.inj hf
        exact r_zret hx hb hr hP hS (Or.inl rfl) dX3_isSeen_29 hlocks
      · have hf := if_f w hf
        refine lv_aload_n hx hb dX3_isSeen_12 rfl (lv_at hl 0 rfl) ?_
        refine g_X3_seen hx hb hX3 hown hKK hP hk K28 dX3_isSeen_13 ?_
        refine lv_iload_n hx hb dX3_isSeen_16 rfl (lv_at hl 1 rfl) ?_
        refine lv_bipush (v := (-50)) hx hb dX3_isSeen_17 (by decide) ?_
        refine lv_isub hx hb dX3_isSeen_19 ?_
        obtain ⟨v1, h2, hf⟩ := bd_e hf
        refine r_zald hx hb hKK hP (q_sp hk).2.2.1 (q_sp hk).2.2.2 h2 dX3_isSeen_20 ?_
        refine lv_if_eq (tgt := 28) hx hb dX3_isSeen_21 (by decide) (fun w => ?_) (fun w => ?_)
        · have hf := if_t w hf
          refine lv_iconst (v := 0) hx hb dX3_isSeen_28 (by decide) ?_
          obtain rfl := Option.some.inj hf
          exact r_zret hx hb hr hP hS (Or.inl rfl) dX3_isSeen_29 hlocks
        · have hf := if_f w hf
          refine lv_iconst (v := 1) hx hb dX3_isSeen_24 (by decide) ?_
          refine lv_goto (tgt := 29) hx hb dX3_isSeen_25 (by decide) ?_
          obtain rfl := Option.some.inj hf
          exact r_zret hx hb hr hP hS (Or.inr rfl) dX3_isSeen_29 hlocks
  exact main s.heap [] ls hP va_S.rf hl
def lp_X3_leastSeen_3 (k : Nat) (S : QS) : Nat → Int32 → Option Int32
  | 0, _ => none
  | fuel + 1, v1 => (if 50 ≤ v1 then (some 50)
else ((f_X3_isSeen k v1 S).bind fun v3 =>
if v3 = 0 then (lp_X3_leastSeen_3 k S fuel (v1 + 1))
else (some v1)))
def f_X3_leastSeen (k : Nat) (S : QS) : Option Int32 :=
lp_X3_leastSeen_3 k S FU (-50)
def rm_X3_leastSeen : Room := { frames := 1, cells := 0, slots := 0, locals := 21 }
set_option maxRecDepth 100000 in
set_option maxHeartbeats 4000000 in
theorem m_X3_leastSeen (l : Launch) (D : va_G) (ca : Nat → ClassId) (ad : Nat → Nat) (hj : Inj ad) (k : Nat) (hk : qk k = 3) (S : QS) (o : Int32) (hf : f_X3_leastSeen k S = some o) : Ci l D ca ad yX3_leastSeen wsX3_leastSeen rm_X3_leastSeen [.ref (ad k)] S o S := by
  intro sz
  refine Met.ofW (cc := cX3_leastSeen) (maxL := 2) (ret := (some .int)) (by decide) rfl ?_
  intro p e s m args below meth c s₁ B hml hv
  obtain ⟨hav, hsz, hP, hKK⟩ := hv
  have hx := B.exec
  have hb := B.bytes
  have hr := B.returns
  have hts := atoms_spec (ws := wsX3_leastSeen) B.pre
  have hown : s.vm.findClass RX3 = some m.cls := findClass_of_methodNamed B.named
  have hlocks := B.notSynchronized
  subst hsz
  have hl := lv_entry [.ref (ad k)] (n := 2) (Nat.le_of_ble_eq_true rfl)
  rw [show entryFrame m args 2 = entryFrame m ([.ref (ad k)] : List Value).toArray 2 by rw [hav], lg_entry_eq]
  generalize (lg_sl [.ref (ad k)] ++ List.replicate (2 - (lg_sl [.ref (ad k)]).length) Slot.unset).toArray = ls at hl ⊢
  have hl : lv_has ls 2 [(0, .ref (ad k))] := hl
  have main : ∀ (H : Heap) (locs : List Loc) (ls : Array Slot), va_P D vwCl (wd ca ad S) H → va_S (Aq ad s.heap.size) s.heap H locs → lv_has ls 2 [(0, .ref (ad k))] → W p l e rm_X3_leastSeen s m args below meth c H locs 0 0 (Zi below D ca ad args s o S) (F0 m 0 ls []) := by
    intro H locs ls hP hS hl
    unfold f_X3_leastSeen at hf
    refine lv_bipush (v := (-50)) hx hb dX3_leastSeen_0 (by decide) ?_
    refine lv_istore_n (lv' := [(1, .int (-50)), (0, .ref (ad k))]) hx hb dX3_leastSeen_2 rfl hl (by decide) rfl (fun ls hl => ?_)
    have L1 : ∀ (fuel : Nat) (v1 : Int32), lp_X3_leastSeen_3 k S fuel v1 = some o → ∀ (H : Heap) (locs : List Loc) (ls : Array Slot), va_P D vwCl (wd ca ad S) H → va_S (Aq ad s.heap.size) s.heap H locs → lv_has ls 2 [(0, .ref (ad k)), (1, .int v1)] → W p l e rm_X3_leastSeen s m args below meth c H locs 0 0 (Zi below D ca ad args s o S) (F0 m 3 ls []) := by
      intro fuel
      induction fuel with
      | zero =>
        intro v1 hf
        simp [lp_X3_leastSeen_3] at hf
      | succ fuel ih =>
        intro v1 hf H locs ls hP hS hl
        rw [lp_X3_leastSeen_3] at hf
        refine lv_iload_n hx hb dX3_leastSeen_3 rfl (lv_at hl 1 rfl) ?_
        refine lv_bipush (v := 50) hx hb dX3_leastSeen_4 (by decide) ?_
        refine lv_icmp_ge (tgt := 25) hx hb dX3_leastSeen_6 (by decide) (fun w => ?_) (fun w => ?_)
        · have hf := if_t w hf
          refine lv_bipush (v := 50) hx hb dX3_leastSeen_25 (by decide) ?_
          obtain rfl := Option.some.inj hf
          exact r_iret hx hb hr hP hS dX3_leastSeen_27 hlocks
        · have hf := if_f w hf
          refine lv_aload_n hx hb dX3_leastSeen_9 rfl (lv_at hl 0 rfl) ?_
          refine lv_iload_n hx hb dX3_leastSeen_10 rfl (lv_at hl 1 rfl) ?_
          obtain ⟨v3, h2, hf⟩ := bd_e hf
          refine r_ci hS (va_runV (As := [.int v1]) (rest := []) ⟨hx, hb, hml, hown, hts⟩ (m_X3_isSeen l D ca ad hj k hk v1 S _ h2 H.size) (cwV 1 hts gX3_leastSeen_X3_isSeen rfl rfl rfl (by decide +kernel) ⟨Nat.le_of_ble_eq_true rfl, Nat.le_of_ble_eq_true rfl⟩) (r_preV hKK hP hk rfl) rfl rfl hl.1 rfl (lv_room (Nat.le_of_ble_eq_true rfl)) dX3_leastSeen_11 ⟨Nat.le_of_ble_eq_true rfl, Nat.le_of_ble_eq_true rfl⟩) (fun H locs hP hS => ?_)
          refine lv_if_eq (tgt := 19) hx hb dX3_leastSeen_14 (by decide) (fun w => ?_) (fun w => ?_)
          · have hf := if_t w hf
            refine lv_iinc (v := (v1 + 1)) (lv' := [(1, .int (v1 + 1)), (0, .ref (ad k))]) hx hb dX3_leastSeen_19 hl (k := 1) rfl rfl (by decide) rfl (fun ls hl => ?_)
            refine lv_goto (tgt := 3) hx hb dX3_leastSeen_22 (by decide) ?_
            exact ih _ hf _ _ _ hP hS (lv_sub hl [1, 0] rfl)
          · have hf := if_f w hf
            refine lv_iload_n hx hb dX3_leastSeen_17 rfl (lv_at hl 1 rfl) ?_
            obtain rfl := Option.some.inj hf
            exact r_iret hx hb hr hP hS dX3_leastSeen_18 hlocks
    exact L1 _ _ hf _ _ _ hP hS (lv_sub hl [1, 0] rfl)
  exact main s.heap [] ls hP va_S.rf hl
def lp_X3_greatestSeen_3 (k : Nat) (S : QS) : Nat → Int32 → Option Int32
  | 0, _ => none
  | fuel + 1, v1 => (if v1 ≤ (-50) then (some (-50))
else ((f_X3_isSeen k v1 S).bind fun v3 =>
if v3 = 0 then (lp_X3_greatestSeen_3 k S fuel (v1 + (-1)))
else (some v1)))
def f_X3_greatestSeen (k : Nat) (S : QS) : Option Int32 :=
lp_X3_greatestSeen_3 k S FU 50
def rm_X3_greatestSeen : Room := { frames := 1, cells := 0, slots := 0, locals := 21 }
set_option maxRecDepth 100000 in
set_option maxHeartbeats 4000000 in
theorem m_X3_greatestSeen (l : Launch) (D : va_G) (ca : Nat → ClassId) (ad : Nat → Nat) (hj : Inj ad) (k : Nat) (hk : qk k = 3) (S : QS) (o : Int32) (hf : f_X3_greatestSeen k S = some o) : Ci l D ca ad yX3_greatestSeen wsX3_greatestSeen rm_X3_greatestSeen [.ref (ad k)] S o S := by
  intro sz
  refine Met.ofW (cc := cX3_greatestSeen) (maxL := 2) (ret := (some .int)) (by decide) rfl ?_
  intro p e s m args below meth c s₁ B hml hv
  obtain ⟨hav, hsz, hP, hKK⟩ := hv
  have hx := B.exec
  have hb := B.bytes
  have hr := B.returns
  have hts := atoms_spec (ws := wsX3_greatestSeen) B.pre
  have hown : s.vm.findClass RX3 = some m.cls := findClass_of_methodNamed B.named
  have hlocks := B.notSynchronized
  subst hsz
  have hl := lv_entry [.ref (ad k)] (n := 2) (Nat.le_of_ble_eq_true rfl)
  rw [show entryFrame m args 2 = entryFrame m ([.ref (ad k)] : List Value).toArray 2 by rw [hav], lg_entry_eq]
  generalize (lg_sl [.ref (ad k)] ++ List.replicate (2 - (lg_sl [.ref (ad k)]).length) Slot.unset).toArray = ls at hl ⊢
  have hl : lv_has ls 2 [(0, .ref (ad k))] := hl
  have main : ∀ (H : Heap) (locs : List Loc) (ls : Array Slot), va_P D vwCl (wd ca ad S) H → va_S (Aq ad s.heap.size) s.heap H locs → lv_has ls 2 [(0, .ref (ad k))] → W p l e rm_X3_greatestSeen s m args below meth c H locs 0 0 (Zi below D ca ad args s o S) (F0 m 0 ls []) := by
    intro H locs ls hP hS hl
    unfold f_X3_greatestSeen at hf
    refine lv_bipush (v := 50) hx hb dX3_greatestSeen_0 (by decide) ?_
    refine lv_istore_n (lv' := [(1, .int 50), (0, .ref (ad k))]) hx hb dX3_greatestSeen_2 rfl hl (by decide) rfl (fun ls hl => ?_)
    have L1 : ∀ (fuel : Nat) (v1 : Int32), lp_X3_greatestSeen_3 k S fuel v1 = some o → ∀ (H : Heap) (locs : List Loc) (ls : Array Slot), va_P D vwCl (wd ca ad S) H → va_S (Aq ad s.heap.size) s.heap H locs → lv_has ls 2 [(0, .ref (ad k)), (1, .int v1)] → W p l e rm_X3_greatestSeen s m args below meth c H locs 0 0 (Zi below D ca ad args s o S) (F0 m 3 ls []) := by
      intro fuel
      induction fuel with
      | zero =>
        intro v1 hf
        simp [lp_X3_greatestSeen_3] at hf
      | succ fuel ih =>
        intro v1 hf H locs ls hP hS hl
        rw [lp_X3_greatestSeen_3] at hf
        refine lv_iload_n hx hb dX3_greatestSeen_3 rfl (lv_at hl 1 rfl) ?_
        refine lv_bipush (v := (-50)) hx hb dX3_greatestSeen_4 (by decide) ?_
        refine lv_icmp_le (tgt := 25) hx hb dX3_greatestSeen_6 (by decide) (fun w => ?_) (fun w => ?_)
        · have hf := if_t w hf
          refine lv_bipush (v := (-50)) hx hb dX3_greatestSeen_25 (by decide) ?_
          obtain rfl := Option.some.inj hf
          exact r_iret hx hb hr hP hS dX3_greatestSeen_27 hlocks
        · have hf := if_f w hf
          refine lv_aload_n hx hb dX3_greatestSeen_9 rfl (lv_at hl 0 rfl) ?_
          refine lv_iload_n hx hb dX3_greatestSeen_10 rfl (lv_at hl 1 rfl) ?_
          obtain ⟨v3, h2, hf⟩ := bd_e hf
          refine r_ci hS (va_runV (As := [.int v1]) (rest := []) ⟨hx, hb, hml, hown, hts⟩ (m_X3_isSeen l D ca ad hj k hk v1 S _ h2 H.size) (cwV 1 hts gX3_greatestSeen_X3_isSeen rfl rfl rfl (by decide +kernel) ⟨Nat.le_of_ble_eq_true rfl, Nat.le_of_ble_eq_true rfl⟩) (r_preV hKK hP hk rfl) rfl rfl hl.1 rfl (lv_room (Nat.le_of_ble_eq_true rfl)) dX3_greatestSeen_11 ⟨Nat.le_of_ble_eq_true rfl, Nat.le_of_ble_eq_true rfl⟩) (fun H locs hP hS => ?_)
          refine lv_if_eq (tgt := 19) hx hb dX3_greatestSeen_14 (by decide) (fun w => ?_) (fun w => ?_)
          · have hf := if_t w hf
            refine lv_iinc (v := (v1 + (-1))) (lv' := [(1, .int (v1 + (-1))), (0, .ref (ad k))]) hx hb dX3_greatestSeen_19 hl (k := 1) rfl rfl (by decide) rfl (fun ls hl => ?_)
            refine lv_goto (tgt := 3) hx hb dX3_greatestSeen_22 (by decide) ?_
            exact ih _ hf _ _ _ hP hS (lv_sub hl [1, 0] rfl)
          · have hf := if_f w hf
            refine lv_iload_n hx hb dX3_greatestSeen_17 rfl (lv_at hl 1 rfl) ?_
            obtain rfl := Option.some.inj hf
            exact r_iret hx hb hr hP hS dX3_greatestSeen_18 hlocks
    exact L1 _ _ hf _ _ _ hP hS (lv_sub hl [1, 0] rfl)
  exact main s.heap [] ls hP va_S.rf hl
end
section
theorem dX0_pick_0 : decode cX0_pick 0 = .ok (.iload_n 1, 1) := by decide +kernel
theorem dX0_pick_1 : decode cX0_pick 1 = .ok (.ifCond .ne 10, 3) := by decide +kernel
theorem dX0_pick_4 : decode cX0_pick 4 = .ok (.aload_n 0, 1) := by decide +kernel
theorem dX0_pick_5 : decode cX0_pick 5 = .ok (.getfield 18, 3) := by decide +kernel
theorem dX0_pick_8 : decode cX0_pick 8 = .ok (.goto 19, 3) := by decide +kernel
theorem dX0_pick_11 : decode cX0_pick 11 = .ok (.iload_n 1, 1) := by decide +kernel
theorem dX0_pick_12 : decode cX0_pick 12 = .ok (.iconst 1, 1) := by decide +kernel
theorem dX0_pick_13 : decode cX0_pick 13 = .ok (.if_icmp .ne 10, 3) := by decide +kernel
theorem dX0_pick_16 : decode cX0_pick 16 = .ok (.aload_n 0, 1) := by decide +kernel
theorem dX0_pick_17 : decode cX0_pick 17 = .ok (.getfield 22, 3) := by decide +kernel
theorem dX0_pick_20 : decode cX0_pick 20 = .ok (.goto 7, 3) := by decide +kernel
theorem dX0_pick_23 : decode cX0_pick 23 = .ok (.aload_n 0, 1) := by decide +kernel
theorem dX0_pick_24 : decode cX0_pick 24 = .ok (.getfield 25, 3) := by decide +kernel
theorem dX0_pick_27 : decode cX0_pick 27 = .ok (.areturn, 1) := by decide +kernel
set_option maxRecDepth 20000 in
theorem ggX0_clear_X3_clear : GoodIn wsX0_clear wsX3_clear := goodIn_r _ [13, 14, 15, 16, 17, 18, 19, 12, 20, 21, 32, 33, 34, 35, 36, 37] (by decide +kernel) (by decide +kernel)
set_option maxRecDepth 20000 in
theorem gX0_clear_X3_clear : GoodIn wsX0_clear (wsV RX0 48 RX3 yX3_clear wsX3_clear) := goodIn_app (goodIn_of _ (by decide +kernel)) ggX0_clear_X3_clear
theorem dX0_clear_0 : decode cX0_clear 0 = .ok (.aload_n 0, 1) := by decide +kernel
theorem dX0_clear_1 : decode cX0_clear 1 = .ok (.getfield 18, 3) := by decide +kernel
theorem dX0_clear_4 : decode cX0_clear 4 = .ok (.invokevirtual 48, 3) := by decide +kernel
theorem dX0_clear_7 : decode cX0_clear 7 = .ok (.aload_n 0, 1) := by decide +kernel
theorem dX0_clear_8 : decode cX0_clear 8 = .ok (.getfield 22, 3) := by decide +kernel
theorem dX0_clear_11 : decode cX0_clear 11 = .ok (.invokevirtual 48, 3) := by decide +kernel
theorem dX0_clear_14 : decode cX0_clear 14 = .ok (.aload_n 0, 1) := by decide +kernel
theorem dX0_clear_15 : decode cX0_clear 15 = .ok (.getfield 25, 3) := by decide +kernel
theorem dX0_clear_18 : decode cX0_clear 18 = .ok (.invokevirtual 48, 3) := by decide +kernel
theorem dX0_clear_21 : decode cX0_clear 21 = .ok (.aload_n 0, 1) := by decide +kernel
theorem dX0_clear_22 : decode cX0_clear 22 = .ok (.iconst 0, 1) := by decide +kernel
theorem dX0_clear_23 : decode cX0_clear 23 = .ok (.putfield 32, 3) := by decide +kernel
theorem dX0_clear_26 : decode cX0_clear 26 = .ok (.aload_n 0, 1) := by decide +kernel
theorem dX0_clear_27 : decode cX0_clear 27 = .ok (.iconst 0, 1) := by decide +kernel
theorem dX0_clear_28 : decode cX0_clear 28 = .ok (.putfield 35, 3) := by decide +kernel
theorem dX0_clear_31 : decode cX0_clear 31 = .ok (.aload_n 0, 1) := by decide +kernel
theorem dX0_clear_32 : decode cX0_clear 32 = .ok (.iconst 0, 1) := by decide +kernel
theorem dX0_clear_33 : decode cX0_clear 33 = .ok (.putfield 38, 3) := by decide +kernel
theorem dX0_clear_36 : decode cX0_clear 36 = .ok (.aload_n 0, 1) := by decide +kernel
theorem dX0_clear_37 : decode cX0_clear 37 = .ok (.iconst 0, 1) := by decide +kernel
theorem dX0_clear_38 : decode cX0_clear 38 = .ok (.putfield 41, 3) := by decide +kernel
theorem dX0_clear_41 : decode cX0_clear 41 = .ok (.aload_n 0, 1) := by decide +kernel
theorem dX0_clear_42 : decode cX0_clear 42 = .ok (.iconst 0, 1) := by decide +kernel
theorem dX0_clear_43 : decode cX0_clear 43 = .ok (.putfield 44, 3) := by decide +kernel
theorem dX0_clear_46 : decode cX0_clear 46 = .ok (.return_, 1) := by decide +kernel
theorem dX0_add_0 : decode cX0_add 0 = .ok (.aload_n 1, 1) := by decide +kernel
theorem dX0_add_1 : decode cX0_add 1 = .ok (.getfield 51, 3) := by decide +kernel
theorem dX0_add_4 : decode cX0_add 4 = .ok (.ifCond .eq 37, 3) := by decide +kernel
theorem dX0_add_7 : decode cX0_add 7 = .ok (.aload_n 0, 1) := by decide +kernel
theorem dX0_add_8 : decode cX0_add 8 = .ok (.dup, 1) := by decide +kernel
theorem dX0_add_9 : decode cX0_add 9 = .ok (.getfield 38, 3) := by decide +kernel
theorem dX0_add_12 : decode cX0_add 12 = .ok (.aload_n 1, 1) := by decide +kernel
theorem dX0_add_13 : decode cX0_add 13 = .ok (.getfield 56, 3) := by decide +kernel
theorem dX0_add_16 : decode cX0_add 16 = .ok (.iadd, 1) := by decide +kernel
theorem dX0_add_17 : decode cX0_add 17 = .ok (.putfield 38, 3) := by decide +kernel
theorem dX0_add_20 : decode cX0_add 20 = .ok (.aload_n 0, 1) := by decide +kernel
theorem dX0_add_21 : decode cX0_add 21 = .ok (.dup, 1) := by decide +kernel
theorem dX0_add_22 : decode cX0_add 22 = .ok (.getfield 41, 3) := by decide +kernel
theorem dX0_add_25 : decode cX0_add 25 = .ok (.aload_n 1, 1) := by decide +kernel
theorem dX0_add_26 : decode cX0_add 26 = .ok (.getfield 59, 3) := by decide +kernel
theorem dX0_add_29 : decode cX0_add 29 = .ok (.iadd, 1) := by decide +kernel
theorem dX0_add_30 : decode cX0_add 30 = .ok (.putfield 41, 3) := by decide +kernel
theorem dX0_add_33 : decode cX0_add 33 = .ok (.aload_n 0, 1) := by decide +kernel
theorem dX0_add_34 : decode cX0_add 34 = .ok (.iconst 1, 1) := by decide +kernel
theorem dX0_add_35 : decode cX0_add 35 = .ok (.putfield 44, 3) := by decide +kernel
theorem dX0_add_38 : decode cX0_add 38 = .ok (.goto 29, 3) := by decide +kernel
theorem dX0_add_41 : decode cX0_add 41 = .ok (.aload_n 0, 1) := by decide +kernel
theorem dX0_add_42 : decode cX0_add 42 = .ok (.dup, 1) := by decide +kernel
theorem dX0_add_43 : decode cX0_add 43 = .ok (.getfield 32, 3) := by decide +kernel
theorem dX0_add_46 : decode cX0_add 46 = .ok (.aload_n 1, 1) := by decide +kernel
theorem dX0_add_47 : decode cX0_add 47 = .ok (.getfield 56, 3) := by decide +kernel
theorem dX0_add_50 : decode cX0_add 50 = .ok (.iadd, 1) := by decide +kernel
theorem dX0_add_51 : decode cX0_add 51 = .ok (.putfield 32, 3) := by decide +kernel
theorem dX0_add_54 : decode cX0_add 54 = .ok (.aload_n 0, 1) := by decide +kernel
theorem dX0_add_55 : decode cX0_add 55 = .ok (.dup, 1) := by decide +kernel
theorem dX0_add_56 : decode cX0_add 56 = .ok (.getfield 35, 3) := by decide +kernel
theorem dX0_add_59 : decode cX0_add 59 = .ok (.aload_n 1, 1) := by decide +kernel
theorem dX0_add_60 : decode cX0_add 60 = .ok (.getfield 59, 3) := by decide +kernel
theorem dX0_add_63 : decode cX0_add 63 = .ok (.iadd, 1) := by decide +kernel
theorem dX0_add_64 : decode cX0_add 64 = .ok (.putfield 35, 3) := by decide +kernel
theorem dX0_add_67 : decode cX0_add 67 = .ok (.return_, 1) := by decide +kernel
set_option maxRecDepth 20000 in
theorem ggX0_settle_X0_isTakenBehind : GoodIn wsX0_settle wsX0_isTakenBehind := goodIn_r _ [8, 9, 10, 58, 59, 60, 61, 62, 63, 64, 65, 66, 67] (by decide +kernel) (by decide +kernel)
set_option maxRecDepth 20000 in
theorem gX0_settle_X0_isTakenBehind : GoodIn wsX0_settle (wsV RX0 62 RX0 yX0_isTakenBehind wsX0_isTakenBehind) := goodIn_app (goodIn_of _ (by decide +kernel)) ggX0_settle_X0_isTakenBehind
set_option maxRecDepth 20000 in
theorem ggX0_settle_X3_setPrice : GoodIn wsX0_settle wsX3_setPrice := goodIn_r _ [15, 16, 68, 69, 70, 71, 72, 73] (by decide +kernel) (by decide +kernel)
set_option maxRecDepth 20000 in
theorem gX0_settle_X3_setPrice : GoodIn wsX0_settle (wsV RX0 66 RX3 yX3_setPrice wsX3_setPrice) := goodIn_app (goodIn_of _ (by decide +kernel)) ggX0_settle_X3_setPrice
set_option maxRecDepth 20000 in
theorem ggX0_settle_X3_isOpen : GoodIn wsX0_settle wsX3_isOpen := goodIn_r _ [20, 21, 22, 23, 14, 24, 16, 68, 69, 70, 71, 72, 73] (by decide +kernel) (by decide +kernel)
set_option maxRecDepth 20000 in
theorem gX0_settle_X3_isOpen : GoodIn wsX0_settle (wsV RX0 70 RX3 yX3_isOpen wsX3_isOpen) := goodIn_app (goodIn_of _ (by decide +kernel)) ggX0_settle_X3_isOpen
set_option maxRecDepth 20000 in
theorem ggX0_settle_X0_joinFirsts : GoodIn wsX0_settle wsX0_joinFirsts := goodIn_r _ [28, 29, 30, 31, 32, 33, 34, 3, 35, 36, 37, 7, 38, 39, 40, 41, 42, 43, 44, 22, 23, 14, 24, 16, 45, 46, 47, 11, 12, 13, 15, 58, 59, 60, 61, 62, 63, 64, 65, 66, 67, 68, 69, 70, 71, 72, 73] (by decide +kernel) (by decide +kernel)
set_option maxRecDepth 20000 in
theorem gX0_settle_X0_joinFirsts : GoodIn wsX0_settle (wsV RX0 73 RX0 yX0_joinFirsts wsX0_joinFirsts) := goodIn_app (goodIn_of _ (by decide +kernel)) ggX0_settle_X0_joinFirsts
set_option maxRecDepth 20000 in
theorem ggX0_settle_X3_bound : GoodIn wsX0_settle wsX3_bound := goodIn_r _ [51, 52, 53, 54, 55, 31, 56, 57, 18, 19, 14, 20, 21, 22, 23, 24, 16, 68, 69, 70, 71, 72, 73] (by decide +kernel) (by decide +kernel)
set_option maxRecDepth 20000 in
theorem gX0_settle_X3_bound : GoodIn wsX0_settle (wsV RX0 77 RX3 yX3_bound wsX3_bound) := goodIn_app (goodIn_of _ (by decide +kernel)) ggX0_settle_X3_bound
theorem dX0_settle_0 : decode cX0_settle 0 = .ok (.bipush (-50), 2) := by decide +kernel
theorem dX0_settle_2 : decode cX0_settle 2 = .ok (.istore_n 1, 1) := by decide +kernel
theorem dX0_settle_3 : decode cX0_settle 3 = .ok (.iload_n 1, 1) := by decide +kernel
theorem dX0_settle_4 : decode cX0_settle 4 = .ok (.bipush 50, 2) := by decide +kernel
theorem dX0_settle_6 : decode cX0_settle 6 = .ok (.if_icmp .gt 49, 3) := by decide +kernel
theorem dX0_settle_9 : decode cX0_settle 9 = .ok (.aload_n 0, 1) := by decide +kernel
theorem dX0_settle_10 : decode cX0_settle 10 = .ok (.getfield 44, 3) := by decide +kernel
theorem dX0_settle_13 : decode cX0_settle 13 = .ok (.ifCond .eq 20, 3) := by decide +kernel
theorem dX0_settle_16 : decode cX0_settle 16 = .ok (.aload_n 0, 1) := by decide +kernel
theorem dX0_settle_17 : decode cX0_settle 17 = .ok (.iload_n 1, 1) := by decide +kernel
theorem dX0_settle_18 : decode cX0_settle 18 = .ok (.invokevirtual 62, 3) := by decide +kernel
theorem dX0_settle_21 : decode cX0_settle 21 = .ok (.ifCond .ne 12, 3) := by decide +kernel
theorem dX0_settle_24 : decode cX0_settle 24 = .ok (.aload_n 0, 1) := by decide +kernel
theorem dX0_settle_25 : decode cX0_settle 25 = .ok (.getfield 25, 3) := by decide +kernel
theorem dX0_settle_28 : decode cX0_settle 28 = .ok (.iload_n 1, 1) := by decide +kernel
theorem dX0_settle_29 : decode cX0_settle 29 = .ok (.iconst (-1), 1) := by decide +kernel
theorem dX0_settle_30 : decode cX0_settle 30 = .ok (.invokevirtual 66, 3) := by decide +kernel
theorem dX0_settle_33 : decode cX0_settle 33 = .ok (.aload_n 0, 1) := by decide +kernel
theorem dX0_settle_34 : decode cX0_settle 34 = .ok (.getfield 22, 3) := by decide +kernel
theorem dX0_settle_37 : decode cX0_settle 37 = .ok (.iload_n 1, 1) := by decide +kernel
theorem dX0_settle_38 : decode cX0_settle 38 = .ok (.invokevirtual 70, 3) := by decide +kernel
theorem dX0_settle_41 : decode cX0_settle 41 = .ok (.ifCond .eq 8, 3) := by decide +kernel
theorem dX0_settle_44 : decode cX0_settle 44 = .ok (.aload_n 0, 1) := by decide +kernel
theorem dX0_settle_45 : decode cX0_settle 45 = .ok (.iload_n 1, 1) := by decide +kernel
theorem dX0_settle_46 : decode cX0_settle 46 = .ok (.invokevirtual 73, 3) := by decide +kernel
theorem dX0_settle_49 : decode cX0_settle 49 = .ok (.iinc 1 1, 3) := by decide +kernel
theorem dX0_settle_52 : decode cX0_settle 52 = .ok (.goto (-49), 3) := by decide +kernel
theorem dX0_settle_55 : decode cX0_settle 55 = .ok (.aload_n 0, 1) := by decide +kernel
theorem dX0_settle_56 : decode cX0_settle 56 = .ok (.getfield 22, 3) := by decide +kernel
theorem dX0_settle_59 : decode cX0_settle 59 = .ok (.invokevirtual 77, 3) := by decide +kernel
theorem dX0_settle_62 : decode cX0_settle 62 = .ok (.aload_n 0, 1) := by decide +kernel
theorem dX0_settle_63 : decode cX0_settle 63 = .ok (.getfield 25, 3) := by decide +kernel
theorem dX0_settle_66 : decode cX0_settle 66 = .ok (.invokevirtual 77, 3) := by decide +kernel
theorem dX0_settle_69 : decode cX0_settle 69 = .ok (.return_, 1) := by decide +kernel
theorem dX0_firstCount_0 : decode cX0_firstCount 0 = .ok (.iload_n 1, 1) := by decide +kernel
theorem dX0_firstCount_1 : decode cX0_firstCount 1 = .ok (.bipush (-50), 2) := by decide +kernel
theorem dX0_firstCount_3 : decode cX0_firstCount 3 = .ok (.if_icmp .lt 9, 3) := by decide +kernel
theorem dX0_firstCount_6 : decode cX0_firstCount 6 = .ok (.iload_n 1, 1) := by decide +kernel
theorem dX0_firstCount_7 : decode cX0_firstCount 7 = .ok (.bipush 50, 2) := by decide +kernel
theorem dX0_firstCount_9 : decode cX0_firstCount 9 = .ok (.if_icmp .le 7, 3) := by decide +kernel
theorem dX0_firstCount_12 : decode cX0_firstCount 12 = .ok (.iconst 0, 1) := by decide +kernel
theorem dX0_firstCount_13 : decode cX0_firstCount 13 = .ok (.goto 12, 3) := by decide +kernel
theorem dX0_firstCount_16 : decode cX0_firstCount 16 = .ok (.aload_n 0, 1) := by decide +kernel
theorem dX0_firstCount_17 : decode cX0_firstCount 17 = .ok (.getfield 28, 3) := by decide +kernel
theorem dX0_firstCount_20 : decode cX0_firstCount 20 = .ok (.iload_n 1, 1) := by decide +kernel
theorem dX0_firstCount_21 : decode cX0_firstCount 21 = .ok (.bipush (-50), 2) := by decide +kernel
theorem dX0_firstCount_23 : decode cX0_firstCount 23 = .ok (.isub, 1) := by decide +kernel
theorem dX0_firstCount_24 : decode cX0_firstCount 24 = .ok (.iaload, 1) := by decide +kernel
theorem dX0_firstCount_25 : decode cX0_firstCount 25 = .ok (.ireturn, 1) := by decide +kernel
set_option maxRecDepth 20000 in
theorem ggX0_seeFirsts_X3_isSeen : GoodIn wsX0_seeFirsts wsX3_isSeen := goodIn_r _ [13, 14, 48, 49, 50, 51, 52, 53] (by decide +kernel) (by decide +kernel)
set_option maxRecDepth 20000 in
theorem gX0_seeFirsts_X3_isSeen : GoodIn wsX0_seeFirsts (wsV RX0 92 RX3 yX3_isSeen wsX3_isSeen) := goodIn_app (goodIn_of _ (by decide +kernel)) ggX0_seeFirsts_X3_isSeen
set_option maxRecDepth 20000 in
theorem ggX0_seeFirsts_X0_isTakenAhead : GoodIn wsX0_seeFirsts wsX0_isTakenAhead := goodIn_r _ [19, 20, 21, 38, 39, 40, 41, 42, 43, 44, 45, 46, 47] (by decide +kernel) (by decide +kernel)
set_option maxRecDepth 20000 in
theorem gX0_seeFirsts_X0_isTakenAhead : GoodIn wsX0_seeFirsts (wsV RX0 95 RX0 yX0_isTakenAhead wsX0_isTakenAhead) := goodIn_app (goodIn_of _ (by decide +kernel)) ggX0_seeFirsts_X0_isTakenAhead
set_option maxRecDepth 20000 in
theorem ggX0_seeFirsts_X0_firstFor : GoodIn wsX0_seeFirsts wsX0_firstFor := goodIn_r _ [24] (by decide +kernel) (by decide +kernel)
set_option maxRecDepth 20000 in
theorem gX0_seeFirsts_X0_firstFor : GoodIn wsX0_seeFirsts (va_wsS RX0 99 yX0_firstFor wsX0_firstFor) := goodIn_app (goodIn_of _ (by decide +kernel)) ggX0_seeFirsts_X0_firstFor
set_option maxRecDepth 20000 in
theorem ggX0_seeFirsts_X3_isOpen : GoodIn wsX0_seeFirsts wsX3_isOpen := goodIn_r _ [28, 29, 30, 31, 12, 32, 33, 48, 49, 50, 51, 52, 53] (by decide +kernel) (by decide +kernel)
set_option maxRecDepth 20000 in
theorem gX0_seeFirsts_X3_isOpen : GoodIn wsX0_seeFirsts (wsV RX0 70 RX3 yX3_isOpen wsX3_isOpen) := goodIn_app (goodIn_of _ (by decide +kernel)) ggX0_seeFirsts_X3_isOpen
set_option maxRecDepth 20000 in
theorem ggX0_seeFirsts_X3_see : GoodIn wsX0_seeFirsts wsX3_see := goodIn_r _ [37, 14, 48, 49, 50, 51, 52, 53] (by decide +kernel) (by decide +kernel)
set_option maxRecDepth 20000 in
theorem gX0_seeFirsts_X3_see : GoodIn wsX0_seeFirsts (wsV RX0 103 RX3 yX3_see wsX3_see) := goodIn_app (goodIn_of _ (by decide +kernel)) ggX0_seeFirsts_X3_see
theorem dX0_seeFirsts_0 : decode cX0_seeFirsts 0 = .ok (.aload_n 0, 1) := by decide +kernel
theorem dX0_seeFirsts_1 : decode cX0_seeFirsts 1 = .ok (.getfield 22, 3) := by decide +kernel
theorem dX0_seeFirsts_4 : decode cX0_seeFirsts 4 = .ok (.getfield 80, 3) := by decide +kernel
theorem dX0_seeFirsts_7 : decode cX0_seeFirsts 7 = .ok (.istore_n 1, 1) := by decide +kernel
theorem dX0_seeFirsts_8 : decode cX0_seeFirsts 8 = .ok (.iload_n 1, 1) := by decide +kernel
theorem dX0_seeFirsts_9 : decode cX0_seeFirsts 9 = .ok (.aload_n 0, 1) := by decide +kernel
theorem dX0_seeFirsts_10 : decode cX0_seeFirsts 10 = .ok (.getfield 22, 3) := by decide +kernel
theorem dX0_seeFirsts_13 : decode cX0_seeFirsts 13 = .ok (.getfield 83, 3) := by decide +kernel
theorem dX0_seeFirsts_16 : decode cX0_seeFirsts 16 = .ok (.if_icmp .gt 73, 3) := by decide +kernel
theorem dX0_seeFirsts_19 : decode cX0_seeFirsts 19 = .ok (.iload_n 1, 1) := by decide +kernel
theorem dX0_seeFirsts_20 : decode cX0_seeFirsts 20 = .ok (.invokestatic 86, 3) := by decide +kernel
theorem dX0_seeFirsts_23 : decode cX0_seeFirsts 23 = .ok (.istore_n 2, 1) := by decide +kernel
theorem dX0_seeFirsts_24 : decode cX0_seeFirsts 24 = .ok (.aload_n 0, 1) := by decide +kernel
theorem dX0_seeFirsts_25 : decode cX0_seeFirsts 25 = .ok (.getfield 22, 3) := by decide +kernel
theorem dX0_seeFirsts_28 : decode cX0_seeFirsts 28 = .ok (.iload_n 1, 1) := by decide +kernel
theorem dX0_seeFirsts_29 : decode cX0_seeFirsts 29 = .ok (.invokevirtual 92, 3) := by decide +kernel
theorem dX0_seeFirsts_32 : decode cX0_seeFirsts 32 = .ok (.ifCond .eq 51, 3) := by decide +kernel
theorem dX0_seeFirsts_35 : decode cX0_seeFirsts 35 = .ok (.iload_n 2, 1) := by decide +kernel
theorem dX0_seeFirsts_36 : decode cX0_seeFirsts 36 = .ok (.bipush 50, 2) := by decide +kernel
theorem dX0_seeFirsts_38 : decode cX0_seeFirsts 38 = .ok (.if_icmp .gt 45, 3) := by decide +kernel
theorem dX0_seeFirsts_41 : decode cX0_seeFirsts 41 = .ok (.aload_n 0, 1) := by decide +kernel
theorem dX0_seeFirsts_42 : decode cX0_seeFirsts 42 = .ok (.iload_n 2, 1) := by decide +kernel
theorem dX0_seeFirsts_43 : decode cX0_seeFirsts 43 = .ok (.iload_n 1, 1) := by decide +kernel
theorem dX0_seeFirsts_44 : decode cX0_seeFirsts 44 = .ok (.invokevirtual 95, 3) := by decide +kernel
theorem dX0_seeFirsts_47 : decode cX0_seeFirsts 47 = .ok (.ifCond .eq 30, 3) := by decide +kernel
theorem dX0_seeFirsts_50 : decode cX0_seeFirsts 50 = .ok (.aload_n 0, 1) := by decide +kernel
theorem dX0_seeFirsts_51 : decode cX0_seeFirsts 51 = .ok (.getfield 18, 3) := by decide +kernel
theorem dX0_seeFirsts_54 : decode cX0_seeFirsts 54 = .ok (.iload_n 2, 1) := by decide +kernel
theorem dX0_seeFirsts_55 : decode cX0_seeFirsts 55 = .ok (.iload_n 1, 1) := by decide +kernel
theorem dX0_seeFirsts_56 : decode cX0_seeFirsts 56 = .ok (.invokestatic 99, 3) := by decide +kernel
theorem dX0_seeFirsts_59 : decode cX0_seeFirsts 59 = .ok (.invokevirtual 70, 3) := by decide +kernel
theorem dX0_seeFirsts_62 : decode cX0_seeFirsts 62 = .ok (.ifCond .eq 15, 3) := by decide +kernel
theorem dX0_seeFirsts_65 : decode cX0_seeFirsts 65 = .ok (.aload_n 0, 1) := by decide +kernel
theorem dX0_seeFirsts_66 : decode cX0_seeFirsts 66 = .ok (.getfield 18, 3) := by decide +kernel
theorem dX0_seeFirsts_69 : decode cX0_seeFirsts 69 = .ok (.iload_n 2, 1) := by decide +kernel
theorem dX0_seeFirsts_70 : decode cX0_seeFirsts 70 = .ok (.iload_n 1, 1) := by decide +kernel
theorem dX0_seeFirsts_71 : decode cX0_seeFirsts 71 = .ok (.invokestatic 99, 3) := by decide +kernel
theorem dX0_seeFirsts_74 : decode cX0_seeFirsts 74 = .ok (.invokevirtual 103, 3) := by decide +kernel
theorem dX0_seeFirsts_77 : decode cX0_seeFirsts 77 = .ok (.iinc 2 1, 3) := by decide +kernel
theorem dX0_seeFirsts_80 : decode cX0_seeFirsts 80 = .ok (.goto (-56), 3) := by decide +kernel
theorem dX0_seeFirsts_83 : decode cX0_seeFirsts 83 = .ok (.iinc 1 1, 3) := by decide +kernel
theorem dX0_seeFirsts_86 : decode cX0_seeFirsts 86 = .ok (.goto (-78), 3) := by decide +kernel
theorem dX0_seeFirsts_89 : decode cX0_seeFirsts 89 = .ok (.return_, 1) := by decide +kernel
set_option maxRecDepth 20000 in
theorem ggX0_joinFirsts_X0_isTakenAhead : GoodIn wsX0_joinFirsts wsX0_isTakenAhead := goodIn_r _ [12, 13, 14, 31, 32, 33, 34, 35, 36, 37, 38, 39, 40] (by decide +kernel) (by decide +kernel)
set_option maxRecDepth 20000 in
theorem gX0_joinFirsts_X0_isTakenAhead : GoodIn wsX0_joinFirsts (wsV RX0 95 RX0 yX0_isTakenAhead wsX0_isTakenAhead) := goodIn_app (goodIn_of _ (by decide +kernel)) ggX0_joinFirsts_X0_isTakenAhead
set_option maxRecDepth 20000 in
theorem ggX0_joinFirsts_X0_firstFor : GoodIn wsX0_joinFirsts wsX0_firstFor := goodIn_r _ [17] (by decide +kernel) (by decide +kernel)
set_option maxRecDepth 20000 in
theorem gX0_joinFirsts_X0_firstFor : GoodIn wsX0_joinFirsts (va_wsS RX0 99 yX0_firstFor wsX0_firstFor) := goodIn_app (goodIn_of _ (by decide +kernel)) ggX0_joinFirsts_X0_firstFor
set_option maxRecDepth 20000 in
theorem ggX0_joinFirsts_X3_priceOf : GoodIn wsX0_joinFirsts wsX3_priceOf := goodIn_r _ [22, 23, 41, 42, 43, 44, 45, 46] (by decide +kernel) (by decide +kernel)
set_option maxRecDepth 20000 in
theorem gX0_joinFirsts_X3_priceOf : GoodIn wsX0_joinFirsts (wsV RX0 106 RX3 yX3_priceOf wsX3_priceOf) := goodIn_app (goodIn_of _ (by decide +kernel)) ggX0_joinFirsts_X3_priceOf
set_option maxRecDepth 20000 in
theorem ggX0_joinFirsts_X5_cheaper : GoodIn wsX0_joinFirsts wsX5_cheaper := goodIn_r _ [26] (by decide +kernel) (by decide +kernel)
set_option maxRecDepth 20000 in
theorem gX0_joinFirsts_X5_cheaper_n109 : GoodIn wsX0_joinFirsts (wsX5_cheaper) := ggX0_joinFirsts_X5_cheaper
set_option maxRecDepth 20000 in
theorem ggX0_joinFirsts_X3_setPrice : GoodIn wsX0_joinFirsts wsX3_setPrice := goodIn_r _ [30, 23, 41, 42, 43, 44, 45, 46] (by decide +kernel) (by decide +kernel)
set_option maxRecDepth 20000 in
theorem gX0_joinFirsts_X3_setPrice : GoodIn wsX0_joinFirsts (wsV RX0 66 RX3 yX3_setPrice wsX3_setPrice) := goodIn_app (goodIn_of _ (by decide +kernel)) ggX0_joinFirsts_X3_setPrice
theorem dX0_joinFirsts_0 : decode cX0_joinFirsts 0 = .ok (.iconst 0, 1) := by decide +kernel
theorem dX0_joinFirsts_1 : decode cX0_joinFirsts 1 = .ok (.istore_n 2, 1) := by decide +kernel
theorem dX0_joinFirsts_2 : decode cX0_joinFirsts 2 = .ok (.iconst (-1), 1) := by decide +kernel
theorem dX0_joinFirsts_3 : decode cX0_joinFirsts 3 = .ok (.istore_n 3, 1) := by decide +kernel
theorem dX0_joinFirsts_4 : decode cX0_joinFirsts 4 = .ok (.iload_n 1, 1) := by decide +kernel
theorem dX0_joinFirsts_5 : decode cX0_joinFirsts 5 = .ok (.invokestatic 86, 3) := by decide +kernel
theorem dX0_joinFirsts_8 : decode cX0_joinFirsts 8 = .ok (.istore 4, 2) := by decide +kernel
theorem dX0_joinFirsts_10 : decode cX0_joinFirsts 10 = .ok (.iload 4, 2) := by decide +kernel
theorem dX0_joinFirsts_12 : decode cX0_joinFirsts 12 = .ok (.bipush 50, 2) := by decide +kernel
theorem dX0_joinFirsts_14 : decode cX0_joinFirsts 14 = .ok (.if_icmp .gt 54, 3) := by decide +kernel
theorem dX0_joinFirsts_17 : decode cX0_joinFirsts 17 = .ok (.aload_n 0, 1) := by decide +kernel
theorem dX0_joinFirsts_18 : decode cX0_joinFirsts 18 = .ok (.iload 4, 2) := by decide +kernel
theorem dX0_joinFirsts_20 : decode cX0_joinFirsts 20 = .ok (.iload_n 1, 1) := by decide +kernel
theorem dX0_joinFirsts_21 : decode cX0_joinFirsts 21 = .ok (.invokevirtual 95, 3) := by decide +kernel
theorem dX0_joinFirsts_24 : decode cX0_joinFirsts 24 = .ok (.ifCond .eq 19, 3) := by decide +kernel
theorem dX0_joinFirsts_27 : decode cX0_joinFirsts 27 = .ok (.aload_n 0, 1) := by decide +kernel
theorem dX0_joinFirsts_28 : decode cX0_joinFirsts 28 = .ok (.getfield 18, 3) := by decide +kernel
theorem dX0_joinFirsts_31 : decode cX0_joinFirsts 31 = .ok (.iload 4, 2) := by decide +kernel
theorem dX0_joinFirsts_33 : decode cX0_joinFirsts 33 = .ok (.iload_n 1, 1) := by decide +kernel
theorem dX0_joinFirsts_34 : decode cX0_joinFirsts 34 = .ok (.invokestatic 99, 3) := by decide +kernel
theorem dX0_joinFirsts_37 : decode cX0_joinFirsts 37 = .ok (.invokevirtual 106, 3) := by decide +kernel
theorem dX0_joinFirsts_40 : decode cX0_joinFirsts 40 = .ok (.goto 4, 3) := by decide +kernel
theorem dX0_joinFirsts_43 : decode cX0_joinFirsts 43 = .ok (.iconst (-1), 1) := by decide +kernel
theorem dX0_joinFirsts_44 : decode cX0_joinFirsts 44 = .ok (.istore 5, 2) := by decide +kernel
theorem dX0_joinFirsts_46 : decode cX0_joinFirsts 46 = .ok (.iload 5, 2) := by decide +kernel
theorem dX0_joinFirsts_48 : decode cX0_joinFirsts 48 = .ok (.iconst (-1), 1) := by decide +kernel
theorem dX0_joinFirsts_49 : decode cX0_joinFirsts 49 = .ok (.if_icmp .eq 13, 3) := by decide +kernel
theorem dX0_joinFirsts_52 : decode cX0_joinFirsts 52 = .ok (.iinc 2 1, 3) := by decide +kernel
theorem dX0_joinFirsts_55 : decode cX0_joinFirsts 55 = .ok (.iload_n 3, 1) := by decide +kernel
theorem dX0_joinFirsts_56 : decode cX0_joinFirsts 56 = .ok (.iload 5, 2) := by decide +kernel
theorem dX0_joinFirsts_58 : decode cX0_joinFirsts 58 = .ok (.invokestatic 109, 3) := by decide +kernel
theorem dX0_joinFirsts_61 : decode cX0_joinFirsts 61 = .ok (.istore_n 3, 1) := by decide +kernel
theorem dX0_joinFirsts_62 : decode cX0_joinFirsts 62 = .ok (.iinc 4 1, 3) := by decide +kernel
theorem dX0_joinFirsts_65 : decode cX0_joinFirsts 65 = .ok (.goto (-55), 3) := by decide +kernel
theorem dX0_joinFirsts_68 : decode cX0_joinFirsts 68 = .ok (.iload_n 1, 1) := by decide +kernel
theorem dX0_joinFirsts_69 : decode cX0_joinFirsts 69 = .ok (.bipush (-50), 2) := by decide +kernel
theorem dX0_joinFirsts_71 : decode cX0_joinFirsts 71 = .ok (.if_icmp .lt 19, 3) := by decide +kernel
theorem dX0_joinFirsts_74 : decode cX0_joinFirsts 74 = .ok (.iload_n 1, 1) := by decide +kernel
theorem dX0_joinFirsts_75 : decode cX0_joinFirsts 75 = .ok (.bipush 50, 2) := by decide +kernel
theorem dX0_joinFirsts_77 : decode cX0_joinFirsts 77 = .ok (.if_icmp .gt 13, 3) := by decide +kernel
theorem dX0_joinFirsts_80 : decode cX0_joinFirsts 80 = .ok (.aload_n 0, 1) := by decide +kernel
theorem dX0_joinFirsts_81 : decode cX0_joinFirsts 81 = .ok (.getfield 28, 3) := by decide +kernel
theorem dX0_joinFirsts_84 : decode cX0_joinFirsts 84 = .ok (.iload_n 1, 1) := by decide +kernel
theorem dX0_joinFirsts_85 : decode cX0_joinFirsts 85 = .ok (.bipush (-50), 2) := by decide +kernel
theorem dX0_joinFirsts_87 : decode cX0_joinFirsts 87 = .ok (.isub, 1) := by decide +kernel
theorem dX0_joinFirsts_88 : decode cX0_joinFirsts 88 = .ok (.iload_n 2, 1) := by decide +kernel
theorem dX0_joinFirsts_89 : decode cX0_joinFirsts 89 = .ok (.iastore, 1) := by decide +kernel
theorem dX0_joinFirsts_90 : decode cX0_joinFirsts 90 = .ok (.aload_n 0, 1) := by decide +kernel
theorem dX0_joinFirsts_91 : decode cX0_joinFirsts 91 = .ok (.getfield 22, 3) := by decide +kernel
theorem dX0_joinFirsts_94 : decode cX0_joinFirsts 94 = .ok (.iload_n 1, 1) := by decide +kernel
theorem dX0_joinFirsts_95 : decode cX0_joinFirsts 95 = .ok (.iload_n 3, 1) := by decide +kernel
theorem dX0_joinFirsts_96 : decode cX0_joinFirsts 96 = .ok (.iconst (-1), 1) := by decide +kernel
theorem dX0_joinFirsts_97 : decode cX0_joinFirsts 97 = .ok (.if_icmp .ne 7, 3) := by decide +kernel
theorem dX0_joinFirsts_100 : decode cX0_joinFirsts 100 = .ok (.iconst (-1), 1) := by decide +kernel
theorem dX0_joinFirsts_101 : decode cX0_joinFirsts 101 = .ok (.goto 13, 3) := by decide +kernel
theorem dX0_joinFirsts_104 : decode cX0_joinFirsts 104 = .ok (.aload_n 0, 1) := by decide +kernel
theorem dX0_joinFirsts_105 : decode cX0_joinFirsts 105 = .ok (.getfield 22, 3) := by decide +kernel
theorem dX0_joinFirsts_108 : decode cX0_joinFirsts 108 = .ok (.iload_n 1, 1) := by decide +kernel
theorem dX0_joinFirsts_109 : decode cX0_joinFirsts 109 = .ok (.invokevirtual 106, 3) := by decide +kernel
theorem dX0_joinFirsts_112 : decode cX0_joinFirsts 112 = .ok (.iload_n 3, 1) := by decide +kernel
theorem dX0_joinFirsts_113 : decode cX0_joinFirsts 113 = .ok (.iadd, 1) := by decide +kernel
theorem dX0_joinFirsts_114 : decode cX0_joinFirsts 114 = .ok (.invokevirtual 66, 3) := by decide +kernel
theorem dX0_joinFirsts_117 : decode cX0_joinFirsts 117 = .ok (.return_, 1) := by decide +kernel
theorem dX0_firstFor_0 : decode cX0_firstFor 0 = .ok (.iload_n 1, 1) := by decide +kernel
theorem dX0_firstFor_1 : decode cX0_firstFor 1 = .ok (.ifCond .ge 8, 3) := by decide +kernel
theorem dX0_firstFor_4 : decode cX0_firstFor 4 = .ok (.iload_n 0, 1) := by decide +kernel
theorem dX0_firstFor_5 : decode cX0_firstFor 5 = .ok (.ineg, 1) := by decide +kernel
theorem dX0_firstFor_6 : decode cX0_firstFor 6 = .ok (.goto 4, 3) := by decide +kernel
theorem dX0_firstFor_9 : decode cX0_firstFor 9 = .ok (.iload_n 0, 1) := by decide +kernel
theorem dX0_firstFor_10 : decode cX0_firstFor 10 = .ok (.ireturn, 1) := by decide +kernel
theorem dX0_isTakenAhead_0 : decode cX0_isTakenAhead 0 = .ok (.bipush 51, 2) := by decide +kernel
theorem dX0_isTakenAhead_2 : decode cX0_isTakenAhead 2 = .ok (.iload_n 1, 1) := by decide +kernel
theorem dX0_isTakenAhead_3 : decode cX0_isTakenAhead 3 = .ok (.imul, 1) := by decide +kernel
theorem dX0_isTakenAhead_4 : decode cX0_isTakenAhead 4 = .ok (.iload_n 1, 1) := by decide +kernel
theorem dX0_isTakenAhead_5 : decode cX0_isTakenAhead 5 = .ok (.imul, 1) := by decide +kernel
theorem dX0_isTakenAhead_6 : decode cX0_isTakenAhead 6 = .ok (.bipush 51, 2) := by decide +kernel
theorem dX0_isTakenAhead_8 : decode cX0_isTakenAhead 8 = .ok (.iload_n 2, 1) := by decide +kernel
theorem dX0_isTakenAhead_9 : decode cX0_isTakenAhead 9 = .ok (.imul, 1) := by decide +kernel
theorem dX0_isTakenAhead_10 : decode cX0_isTakenAhead 10 = .ok (.iload_n 2, 1) := by decide +kernel
theorem dX0_isTakenAhead_11 : decode cX0_isTakenAhead 11 = .ok (.imul, 1) := by decide +kernel
theorem dX0_isTakenAhead_12 : decode cX0_isTakenAhead 12 = .ok (.isub, 1) := by decide +kernel
theorem dX0_isTakenAhead_13 : decode cX0_isTakenAhead 13 = .ok (.istore_n 3, 1) := by decide +kernel
theorem dX0_isTakenAhead_14 : decode cX0_isTakenAhead 14 = .ok (.iload_n 3, 1) := by decide +kernel
theorem dX0_isTakenAhead_15 : decode cX0_isTakenAhead 15 = .ok (.aload_n 0, 1) := by decide +kernel
theorem dX0_isTakenAhead_16 : decode cX0_isTakenAhead 16 = .ok (.getfield 32, 3) := by decide +kernel
theorem dX0_isTakenAhead_19 : decode cX0_isTakenAhead 19 = .ok (.if_icmp .lt 15, 3) := by decide +kernel
theorem dX0_isTakenAhead_22 : decode cX0_isTakenAhead 22 = .ok (.iload_n 3, 1) := by decide +kernel
theorem dX0_isTakenAhead_23 : decode cX0_isTakenAhead 23 = .ok (.aload_n 0, 1) := by decide +kernel
theorem dX0_isTakenAhead_24 : decode cX0_isTakenAhead 24 = .ok (.getfield 35, 3) := by decide +kernel
theorem dX0_isTakenAhead_27 : decode cX0_isTakenAhead 27 = .ok (.if_icmp .gt 7, 3) := by decide +kernel
theorem dX0_isTakenAhead_30 : decode cX0_isTakenAhead 30 = .ok (.iconst 1, 1) := by decide +kernel
theorem dX0_isTakenAhead_31 : decode cX0_isTakenAhead 31 = .ok (.goto 4, 3) := by decide +kernel
theorem dX0_isTakenAhead_34 : decode cX0_isTakenAhead 34 = .ok (.iconst 0, 1) := by decide +kernel
theorem dX0_isTakenAhead_35 : decode cX0_isTakenAhead 35 = .ok (.ireturn, 1) := by decide +kernel
theorem dX0_isTakenBehind_0 : decode cX0_isTakenBehind 0 = .ok (.bipush 51, 2) := by decide +kernel
theorem dX0_isTakenBehind_2 : decode cX0_isTakenBehind 2 = .ok (.iload_n 1, 1) := by decide +kernel
theorem dX0_isTakenBehind_3 : decode cX0_isTakenBehind 3 = .ok (.imul, 1) := by decide +kernel
theorem dX0_isTakenBehind_4 : decode cX0_isTakenBehind 4 = .ok (.iload_n 1, 1) := by decide +kernel
theorem dX0_isTakenBehind_5 : decode cX0_isTakenBehind 5 = .ok (.imul, 1) := by decide +kernel
theorem dX0_isTakenBehind_6 : decode cX0_isTakenBehind 6 = .ok (.istore_n 2, 1) := by decide +kernel
theorem dX0_isTakenBehind_7 : decode cX0_isTakenBehind 7 = .ok (.iload_n 2, 1) := by decide +kernel
theorem dX0_isTakenBehind_8 : decode cX0_isTakenBehind 8 = .ok (.aload_n 0, 1) := by decide +kernel
theorem dX0_isTakenBehind_9 : decode cX0_isTakenBehind 9 = .ok (.getfield 38, 3) := by decide +kernel
theorem dX0_isTakenBehind_12 : decode cX0_isTakenBehind 12 = .ok (.if_icmp .lt 15, 3) := by decide +kernel
theorem dX0_isTakenBehind_15 : decode cX0_isTakenBehind 15 = .ok (.iload_n 2, 1) := by decide +kernel
theorem dX0_isTakenBehind_16 : decode cX0_isTakenBehind 16 = .ok (.aload_n 0, 1) := by decide +kernel
theorem dX0_isTakenBehind_17 : decode cX0_isTakenBehind 17 = .ok (.getfield 41, 3) := by decide +kernel
theorem dX0_isTakenBehind_20 : decode cX0_isTakenBehind 20 = .ok (.if_icmp .gt 7, 3) := by decide +kernel
theorem dX0_isTakenBehind_23 : decode cX0_isTakenBehind 23 = .ok (.iconst 1, 1) := by decide +kernel
theorem dX0_isTakenBehind_24 : decode cX0_isTakenBehind 24 = .ok (.goto 4, 3) := by decide +kernel
theorem dX0_isTakenBehind_27 : decode cX0_isTakenBehind 27 = .ok (.iconst 0, 1) := by decide +kernel
theorem dX0_isTakenBehind_28 : decode cX0_isTakenBehind 28 = .ok (.ireturn, 1) := by decide +kernel
theorem dX5_cheaper_0 : decode cX5_cheaper 0 = .ok (.iload_n 0, 1) := by decide +kernel
theorem dX5_cheaper_1 : decode cX5_cheaper 1 = .ok (.iconst (-1), 1) := by decide +kernel
theorem dX5_cheaper_2 : decode cX5_cheaper 2 = .ok (.if_icmp .eq 8, 3) := by decide +kernel
theorem dX5_cheaper_5 : decode cX5_cheaper 5 = .ok (.iload_n 1, 1) := by decide +kernel
theorem dX5_cheaper_6 : decode cX5_cheaper 6 = .ok (.iload_n 0, 1) := by decide +kernel
theorem dX5_cheaper_7 : decode cX5_cheaper 7 = .ok (.if_icmp .ge 7, 3) := by decide +kernel
theorem dX5_cheaper_10 : decode cX5_cheaper 10 = .ok (.iload_n 1, 1) := by decide +kernel
theorem dX5_cheaper_11 : decode cX5_cheaper 11 = .ok (.goto 4, 3) := by decide +kernel
theorem dX5_cheaper_14 : decode cX5_cheaper 14 = .ok (.iload_n 0, 1) := by decide +kernel
theorem dX5_cheaper_15 : decode cX5_cheaper 15 = .ok (.ireturn, 1) := by decide +kernel
end
section
def f_X5_cheaper (a1 : Int32) (a2 : Int32) : Option Int32 :=
if a1 = (-1) then (some a2)
else (if a1 ≤ a2 then (some a1)
else (some a2))
def rm_X5_cheaper : Room := { frames := 0, cells := 0, slots := 0, locals := 0 }
set_option maxRecDepth 100000 in
set_option maxHeartbeats 4000000 in
theorem m_X5_cheaper (l : Launch) (D : va_G) (ca : Nat → ClassId) (ad : Nat → Nat) (hj : Inj ad) (a1 : Int32) (a2 : Int32) (S : QS) (o : Int32) (hf : f_X5_cheaper a1 a2 = some o) : Ci l D ca ad yX5_cheaper wsX5_cheaper rm_X5_cheaper [.int a1, .int a2] S o S := by
  intro sz
  refine Met.ofW (cc := cX5_cheaper) (maxL := 2) (ret := (some .int)) (by decide) rfl ?_
  intro p e s m args below meth c s₁ B hml hv
  obtain ⟨hav, hsz, hP, hKK⟩ := hv
  have hx := B.exec
  have hb := B.bytes
  have hr := B.returns
  have hts := atoms_spec (ws := wsX5_cheaper) B.pre
  have hown : s.vm.findClass RX5 = some m.cls := findClass_of_methodNamed B.named
  have hlocks := B.notSynchronized
  subst hsz
  have hl := lv_entry [.int a1, .int a2] (n := 2) (Nat.le_of_ble_eq_true rfl)
  rw [show entryFrame m args 2 = entryFrame m ([.int a1, .int a2] : List Value).toArray 2 by rw [hav], lg_entry_eq]
  generalize (lg_sl [.int a1, .int a2] ++ List.replicate (2 - (lg_sl [.int a1, .int a2]).length) Slot.unset).toArray = ls at hl ⊢
  have hl : lv_has ls 2 [(0, .int a1), (1, .int a2)] := hl
  have main : ∀ (H : Heap) (locs : List Loc) (ls : Array Slot), va_P D vwCl (wd ca ad S) H → va_S (Aq ad s.heap.size) s.heap H locs → lv_has ls 2 [(0, .int a1), (1, .int a2)] → W p l e rm_X5_cheaper s m args below meth c H locs 0 0 (Zi below D ca ad args s o S) (F0 m 0 ls []) := by
    intro H locs ls hP hS hl
    unfold f_X5_cheaper at hf
    refine lv_iload_n hx hb dX5_cheaper_0 rfl (lv_at hl 0 rfl) ?_
    refine lv_iconst (v := (-1)) hx hb dX5_cheaper_1 (by decide) ?_
    refine lv_icmp_eq (tgt := 10) hx hb dX5_cheaper_2 (by decide) (fun w => ?_) (fun w => ?_)
    · have hf := if_t w hf
      refine lv_iload_n hx hb dX5_cheaper_10 rfl (lv_at hl 1 rfl) ?_
      refine lv_goto (tgt := 15) hx hb dX5_cheaper_11 (by decide) ?_
      obtain rfl := Option.some.inj hf
      exact r_iret hx hb hr hP hS dX5_cheaper_15 hlocks
    · have hf := if_f w hf
      refine lv_iload_n hx hb dX5_cheaper_5 rfl (lv_at hl 1 rfl) ?_
      refine lv_iload_n hx hb dX5_cheaper_6 rfl (lv_at hl 0 rfl) ?_
      refine lv_icmp_ge (tgt := 14) hx hb dX5_cheaper_7 (by decide) (fun w => ?_) (fun w => ?_)
      · have hf := if_t w hf
        refine lv_iload_n hx hb dX5_cheaper_14 rfl (lv_at hl 0 rfl) ?_
        obtain rfl := Option.some.inj hf
        exact r_iret hx hb hr hP hS dX5_cheaper_15 hlocks
      · have hf := if_f w hf
        refine lv_iload_n hx hb dX5_cheaper_10 rfl (lv_at hl 1 rfl) ?_
        refine lv_goto (tgt := 15) hx hb dX5_cheaper_11 (by decide) ?_
        obtain rfl := Option.some.inj hf
        exact r_iret hx hb hr hP hS dX5_cheaper_15 hlocks
  exact main s.heap [] ls hP va_S.rf hl
def f_X0_pick (k : Nat) (a1 : Int32) (S : QS) : Option Nat :=
if a1 = 0 then (some (k + 1))
else (if a1 = 1 then (some (k + 4))
else (some (k + 7)))
theorem k_X0_pick {k : Nat} {a : Int32} {S : QS} {c : Nat} (hk : qk k = 0) (h : f_X0_pick k a S = some c) : qk c = 3 := by
  unfold f_X0_pick at h
  split at h
  · obtain rfl := Option.some.inj h
    exact (q_car hk).1
  · split at h
    · obtain rfl := Option.some.inj h
      exact (q_car hk).2.1
    · obtain rfl := Option.some.inj h
      exact (q_car hk).2.2.1
def rm_X0_pick : Room := { frames := 0, cells := 0, slots := 0, locals := 0 }
set_option maxRecDepth 100000 in
set_option maxHeartbeats 4000000 in
theorem m_X0_pick (l : Launch) (D : va_G) (ca : Nat → ClassId) (ad : Nat → Nat) (hj : Inj ad) (k : Nat) (hk : qk k = 0) (a1 : Int32) (S : QS) (o : Nat) (hf : f_X0_pick k a1 S = some o) : Cr l D ca ad yX0_pick wsX0_pick rm_X0_pick [.ref (ad k), .int a1] S o S := by
  intro sz
  refine Met.ofW (cc := cX0_pick) (maxL := 2) (ret := (some (.object "CrashDesk$Speed"))) (by decide) rfl ?_
  intro p e s m args below meth c s₁ B hml hv
  obtain ⟨hav, hsz, hP, hKK⟩ := hv
  have hx := B.exec
  have hb := B.bytes
  have hr := B.returns
  have hts := atoms_spec (ws := wsX0_pick) B.pre
  have hown : s.vm.findClass RX0 = some m.cls := findClass_of_methodNamed B.named
  have hlocks := B.notSynchronized
  subst hsz
  have hX0 : ∀ w ∈ wsX00, w.before _ s = true := fun w h => hts w (List.mem_cons_of_mem _ (List.mem_append_right _ h))
  have K18 := hts (Cond.fieldLink RX0 18 "CrashDesk$Car" "first" "LCrashDesk$Speed;") (List.mem_cons_of_mem _ (List.mem_append_left _ (List.mem_of_getElem? (i := 0) rfl)))
  have K22 := hts (Cond.fieldLink RX0 22 "CrashDesk$Car" "at" "LCrashDesk$Speed;") (List.mem_cons_of_mem _ (List.mem_append_left _ (List.mem_of_getElem? (i := 1) rfl)))
  have K25 := hts (Cond.fieldLink RX0 25 "CrashDesk$Car" "after" "LCrashDesk$Speed;") (List.mem_cons_of_mem _ (List.mem_append_left _ (List.mem_of_getElem? (i := 2) rfl)))
  have hl := lv_entry [.ref (ad k), .int a1] (n := 2) (Nat.le_of_ble_eq_true rfl)
  rw [show entryFrame m args 2 = entryFrame m ([.ref (ad k), .int a1] : List Value).toArray 2 by rw [hav], lg_entry_eq]
  generalize (lg_sl [.ref (ad k), .int a1] ++ List.replicate (2 - (lg_sl [.ref (ad k), .int a1]).length) Slot.unset).toArray = ls at hl ⊢
  have hl : lv_has ls 2 [(0, .ref (ad k)), (1, .int a1)] := hl
  have main : ∀ (H : Heap) (locs : List Loc) (ls : Array Slot), va_P D vwCl (wd ca ad S) H → va_S (Aq ad s.heap.size) s.heap H locs → lv_has ls 2 [(0, .ref (ad k)), (1, .int a1)] → W p l e rm_X0_pick s m args below meth c H locs 0 0 (Zr below D ca ad args s o S) (F0 m 0 ls []) := by
    intro H locs ls hP hS hl
    unfold f_X0_pick at hf
    refine lv_iload_n hx hb dX0_pick_0 rfl (lv_at hl 1 rfl) ?_
    refine lv_if_ne (tgt := 11) hx hb dX0_pick_1 (by decide) (fun w => ?_) (fun w => ?_)
    · have hf := if_f w hf
      refine lv_iload_n hx hb dX0_pick_11 rfl (lv_at hl 1 rfl) ?_
      refine lv_iconst (v := 1) hx hb dX0_pick_12 (by decide) ?_
      refine lv_icmp_ne (tgt := 23) hx hb dX0_pick_13 (by decide) (fun w => ?_) (fun w => ?_)
      · have hf := if_f w hf
        refine lv_aload_n hx hb dX0_pick_23 rfl (lv_at hl 0 rfl) ?_
        refine g_X0_after hx hb hX0 hown hKK hP hk K25 dX0_pick_24 ?_
        obtain rfl := Option.some.inj hf
        exact r_aret hx hb hr hP hS dX0_pick_27 hlocks
      · have hf := if_t w hf
        refine lv_aload_n hx hb dX0_pick_16 rfl (lv_at hl 0 rfl) ?_
        refine g_X0_at hx hb hX0 hown hKK hP hk K22 dX0_pick_17 ?_
        refine lv_goto (tgt := 27) hx hb dX0_pick_20 (by decide) ?_
        obtain rfl := Option.some.inj hf
        exact r_aret hx hb hr hP hS dX0_pick_27 hlocks
    · have hf := if_t w hf
      refine lv_aload_n hx hb dX0_pick_4 rfl (lv_at hl 0 rfl) ?_
      refine g_X0_first hx hb hX0 hown hKK hP hk K18 dX0_pick_5 ?_
      refine lv_goto (tgt := 27) hx hb dX0_pick_8 (by decide) ?_
      obtain rfl := Option.some.inj hf
      exact r_aret hx hb hr hP hS dX0_pick_27 hlocks
  exact main s.heap [] ls hP va_S.rf hl
def f_X0_clear (k : Nat) (S : QS) : Option QS :=
(f_X3_clear (k + 1) S).bind fun S2 =>
(f_X3_clear (k + 4) S2).bind fun S4 =>
(f_X3_clear (k + 7) S4).bind fun S6 =>
(stF k 5 0 S6).bind fun S7 =>
(stF k 6 0 S7).bind fun S9 =>
(stF k 7 0 S9).bind fun S11 =>
(stF k 8 0 S11).bind fun S13 =>
(stZ k 9 0 S13).bind fun S15 =>
some S15
def rm_X0_clear : Room := { frames := 2, cells := 0, slots := 0, locals := 43 }
set_option maxRecDepth 100000 in
set_option maxHeartbeats 4000000 in
theorem m_X0_clear (l : Launch) (D : va_G) (ca : Nat → ClassId) (ad : Nat → Nat) (hj : Inj ad) (k : Nat) (hk : qk k = 0) (S : QS) (o : QS) (hf : f_X0_clear k S = some o) : Cv l D ca ad yX0_clear wsX0_clear rm_X0_clear [.ref (ad k)] S o := by
  intro sz
  refine Met.ofW (cc := cX0_clear) (maxL := 1) (ret := none) (by decide) rfl ?_
  intro p e s m args below meth c s₁ B hml hv
  obtain ⟨hav, hsz, hP, hKK⟩ := hv
  have hx := B.exec
  have hb := B.bytes
  have hr := B.returns
  have hts := atoms_spec (ws := wsX0_clear) B.pre
  have hown : s.vm.findClass RX0 = some m.cls := findClass_of_methodNamed B.named
  have hlocks := B.notSynchronized
  subst hsz
  have hX0 : ∀ w ∈ wsX00, w.before _ s = true := fun w h => hts w (List.mem_cons_of_mem _ (List.mem_append_left _ (List.mem_append_right _ h)))
  have K18 := hts (Cond.fieldLink RX0 18 "CrashDesk$Car" "first" "LCrashDesk$Speed;") (List.mem_cons_of_mem _ (List.mem_append_left _ (List.mem_append_left _ (List.mem_of_getElem? (i := 0) rfl))))
  have K22 := hts (Cond.fieldLink RX0 22 "CrashDesk$Car" "at" "LCrashDesk$Speed;") (List.mem_cons_of_mem _ (List.mem_append_left _ (List.mem_append_left _ (List.mem_of_getElem? (i := 1) rfl))))
  have K25 := hts (Cond.fieldLink RX0 25 "CrashDesk$Car" "after" "LCrashDesk$Speed;") (List.mem_cons_of_mem _ (List.mem_append_left _ (List.mem_append_left _ (List.mem_of_getElem? (i := 2) rfl))))
  have K32 := hts (Cond.fieldLink RX0 32 "CrashDesk$Car" "aheadLeast" "I") (List.mem_cons_of_mem _ (List.mem_append_left _ (List.mem_append_left _ (List.mem_of_getElem? (i := 3) rfl))))
  have K35 := hts (Cond.fieldLink RX0 35 "CrashDesk$Car" "aheadGreatest" "I") (List.mem_cons_of_mem _ (List.mem_append_left _ (List.mem_append_left _ (List.mem_of_getElem? (i := 4) rfl))))
  have K38 := hts (Cond.fieldLink RX0 38 "CrashDesk$Car" "behindLeast" "I") (List.mem_cons_of_mem _ (List.mem_append_left _ (List.mem_append_left _ (List.mem_of_getElem? (i := 5) rfl))))
  have K41 := hts (Cond.fieldLink RX0 41 "CrashDesk$Car" "behindGreatest" "I") (List.mem_cons_of_mem _ (List.mem_append_left _ (List.mem_append_left _ (List.mem_of_getElem? (i := 6) rfl))))
  have K44 := hts (Cond.fieldLink RX0 44 "CrashDesk$Car" "skidsBehind" "Z") (List.mem_cons_of_mem _ (List.mem_append_left _ (List.mem_append_left _ (List.mem_of_getElem? (i := 7) rfl))))
  have hl := lv_entry [.ref (ad k)] (n := 1) (Nat.le_of_ble_eq_true rfl)
  rw [show entryFrame m args 1 = entryFrame m ([.ref (ad k)] : List Value).toArray 1 by rw [hav], lg_entry_eq]
  generalize (lg_sl [.ref (ad k)] ++ List.replicate (1 - (lg_sl [.ref (ad k)]).length) Slot.unset).toArray = ls at hl ⊢
  have hl : lv_has ls 1 [(0, .ref (ad k))] := hl
  have main : ∀ (H : Heap) (locs : List Loc) (ls : Array Slot), va_P D vwCl (wd ca ad S) H → va_S (Aq ad s.heap.size) s.heap H locs → lv_has ls 1 [(0, .ref (ad k))] → W p l e rm_X0_clear s m args below meth c H locs 0 0 (Zv below D ca ad args s o) (F0 m 0 ls []) := by
    intro H locs ls hP hS hl
    unfold f_X0_clear at hf
    refine lv_aload_n hx hb dX0_clear_0 rfl (lv_at hl 0 rfl) ?_
    refine g_X0_first hx hb hX0 hown hKK hP hk K18 dX0_clear_1 ?_
    obtain ⟨S2, h1, hf⟩ := bd_e hf
    refine r_cv hS (va_runV (As := []) (rest := []) ⟨hx, hb, hml, hown, hts⟩ (m_X3_clear l D ca ad hj (k + 1) (q_car hk).1 S _ h1 H.size) (cwV 0 hts gX0_clear_X3_clear rfl rfl rfl (by decide +kernel) ⟨Nat.le_of_ble_eq_true rfl, Nat.le_of_ble_eq_true rfl⟩) (r_preV hKK hP (q_car hk).1 rfl) rfl rfl hl.1 rfl (lv_room (Nat.le_of_ble_eq_true rfl)) dX0_clear_4 ⟨Nat.le_of_ble_eq_true rfl, Nat.le_of_ble_eq_true rfl⟩) (fun H locs hP hS => ?_)
    refine lv_aload_n hx hb dX0_clear_7 rfl (lv_at hl 0 rfl) ?_
    refine g_X0_at hx hb hX0 hown hKK hP hk K22 dX0_clear_8 ?_
    obtain ⟨S4, h3, hf⟩ := bd_e hf
    refine r_cv hS (va_runV (As := []) (rest := []) ⟨hx, hb, hml, hown, hts⟩ (m_X3_clear l D ca ad hj (k + 4) (q_car hk).2.1 S2 _ h3 H.size) (cwV 0 hts gX0_clear_X3_clear rfl rfl rfl (by decide +kernel) ⟨Nat.le_of_ble_eq_true rfl, Nat.le_of_ble_eq_true rfl⟩) (r_preV hKK hP (q_car hk).2.1 rfl) rfl rfl hl.1 rfl (lv_room (Nat.le_of_ble_eq_true rfl)) dX0_clear_11 ⟨Nat.le_of_ble_eq_true rfl, Nat.le_of_ble_eq_true rfl⟩) (fun H locs hP hS => ?_)
    refine lv_aload_n hx hb dX0_clear_14 rfl (lv_at hl 0 rfl) ?_
    refine g_X0_after hx hb hX0 hown hKK hP hk K25 dX0_clear_15 ?_
    obtain ⟨S6, h5, hf⟩ := bd_e hf
    refine r_cv hS (va_runV (As := []) (rest := []) ⟨hx, hb, hml, hown, hts⟩ (m_X3_clear l D ca ad hj (k + 7) (q_car hk).2.2.1 S4 _ h5 H.size) (cwV 0 hts gX0_clear_X3_clear rfl rfl rfl (by decide +kernel) ⟨Nat.le_of_ble_eq_true rfl, Nat.le_of_ble_eq_true rfl⟩) (r_preV hKK hP (q_car hk).2.2.1 rfl) rfl rfl hl.1 rfl (lv_room (Nat.le_of_ble_eq_true rfl)) dX0_clear_18 ⟨Nat.le_of_ble_eq_true rfl, Nat.le_of_ble_eq_true rfl⟩) (fun H locs hP hS => ?_)
    refine lv_aload_n hx hb dX0_clear_21 rfl (lv_at hl 0 rfl) ?_
    refine lv_iconst (v := 0) hx hb dX0_clear_22 (by decide) ?_
    obtain ⟨S7, h8, hf⟩ := bd_e hf
    obtain rfl := Option.some.inj h8
    refine p_X0_aheadLeast hx hb hX0 hown hj hKK hP hS hk K32 dX0_clear_23 (fun H locs hP hS => ?_)
    refine lv_aload_n hx hb dX0_clear_26 rfl (lv_at hl 0 rfl) ?_
    refine lv_iconst (v := 0) hx hb dX0_clear_27 (by decide) ?_
    obtain ⟨S9, h10, hf⟩ := bd_e hf
    obtain rfl := Option.some.inj h10
    refine p_X0_aheadGreatest hx hb hX0 hown hj hKK hP hS hk K35 dX0_clear_28 (fun H locs hP hS => ?_)
    refine lv_aload_n hx hb dX0_clear_31 rfl (lv_at hl 0 rfl) ?_
    refine lv_iconst (v := 0) hx hb dX0_clear_32 (by decide) ?_
    obtain ⟨S11, h12, hf⟩ := bd_e hf
    obtain rfl := Option.some.inj h12
    refine p_X0_behindLeast hx hb hX0 hown hj hKK hP hS hk K38 dX0_clear_33 (fun H locs hP hS => ?_)
    refine lv_aload_n hx hb dX0_clear_36 rfl (lv_at hl 0 rfl) ?_
    refine lv_iconst (v := 0) hx hb dX0_clear_37 (by decide) ?_
    obtain ⟨S13, h14, hf⟩ := bd_e hf
    obtain rfl := Option.some.inj h14
    refine p_X0_behindGreatest hx hb hX0 hown hj hKK hP hS hk K41 dX0_clear_38 (fun H locs hP hS => ?_)
    refine lv_aload_n hx hb dX0_clear_41 rfl (lv_at hl 0 rfl) ?_
    refine lv_iconst (v := 0) hx hb dX0_clear_42 (by decide) ?_
    obtain ⟨S15, h16, hf⟩ := bd_e hf
    refine p_X0_skidsBehind hx hb hX0 hown hj hKK hP hS hk h16 K44 dX0_clear_43 (fun H locs hP hS => ?_)
    obtain rfl := Option.some.inj hf
    exact r_vret hx hb hr hP hS dX0_clear_46 hlocks
  exact main s.heap [] ls hP va_S.rf hl
def f_X0_add (k : Nat) (t1 : Nat) (S : QS) : Option QS :=
if (S.1 t1 1) = 0 then ((stF k 5 ((S.1 k 5) + (S.1 t1 2)) S).bind fun S1 =>
(stF k 6 ((S1.1 k 6) + (S1.1 t1 3)) S1).bind fun S3 =>
some S3)
else ((stF k 7 ((S.1 k 7) + (S.1 t1 2)) S).bind fun S5 =>
(stF k 8 ((S5.1 k 8) + (S5.1 t1 3)) S5).bind fun S7 =>
(stZ k 9 1 S7).bind fun S9 =>
some S9)
def rm_X0_add : Room := { frames := 0, cells := 0, slots := 0, locals := 0 }
set_option maxRecDepth 100000 in
set_option maxHeartbeats 4000000 in
theorem m_X0_add (l : Launch) (D : va_G) (ca : Nat → ClassId) (ad : Nat → Nat) (hj : Inj ad) (k : Nat) (hk : qk k = 0) (t1 : Nat) (ht1 : qk t1 = 2) (S : QS) (o : QS) (hf : f_X0_add k t1 S = some o) : Cv l D ca ad yX0_add wsX0_add rm_X0_add [.ref (ad k), .ref (ad t1)] S o := by
  intro sz
  refine Met.ofW (cc := cX0_add) (maxL := 2) (ret := none) (by decide) rfl ?_
  intro p e s m args below meth c s₁ B hml hv
  obtain ⟨hav, hsz, hP, hKK⟩ := hv
  have hx := B.exec
  have hb := B.bytes
  have hr := B.returns
  have hts := atoms_spec (ws := wsX0_add) B.pre
  have hown : s.vm.findClass RX0 = some m.cls := findClass_of_methodNamed B.named
  have hlocks := B.notSynchronized
  subst hsz
  have hX0 : ∀ w ∈ wsX00, w.before _ s = true := fun w h => hts w (List.mem_cons_of_mem _ (List.mem_append_right _ h))
  have hX2 : ∀ w ∈ wsX20, w.before _ s = true := fun w h => hts w (List.mem_cons_of_mem _ (List.mem_append_left _ (List.mem_append_right _ h)))
  have K32 := hts (Cond.fieldLink RX0 32 "CrashDesk$Car" "aheadLeast" "I") (List.mem_cons_of_mem _ (List.mem_append_left _ (List.mem_append_left _ (List.mem_of_getElem? (i := 6) rfl))))
  have K35 := hts (Cond.fieldLink RX0 35 "CrashDesk$Car" "aheadGreatest" "I") (List.mem_cons_of_mem _ (List.mem_append_left _ (List.mem_append_left _ (List.mem_of_getElem? (i := 7) rfl))))
  have K38 := hts (Cond.fieldLink RX0 38 "CrashDesk$Car" "behindLeast" "I") (List.mem_cons_of_mem _ (List.mem_append_left _ (List.mem_append_left _ (List.mem_of_getElem? (i := 1) rfl))))
  have K41 := hts (Cond.fieldLink RX0 41 "CrashDesk$Car" "behindGreatest" "I") (List.mem_cons_of_mem _ (List.mem_append_left _ (List.mem_append_left _ (List.mem_of_getElem? (i := 3) rfl))))
  have K44 := hts (Cond.fieldLink RX0 44 "CrashDesk$Car" "skidsBehind" "Z") (List.mem_cons_of_mem _ (List.mem_append_left _ (List.mem_append_left _ (List.mem_of_getElem? (i := 5) rfl))))
  have K51 := hts (Cond.fieldLink RX0 51 "CrashDesk$Skid" "behind" "Z") (List.mem_cons_of_mem _ (List.mem_append_left _ (List.mem_append_left _ (List.mem_of_getElem? (i := 0) rfl))))
  have K56 := hts (Cond.fieldLink RX0 56 "CrashDesk$Skid" "least" "I") (List.mem_cons_of_mem _ (List.mem_append_left _ (List.mem_append_left _ (List.mem_of_getElem? (i := 2) rfl))))
  have K59 := hts (Cond.fieldLink RX0 59 "CrashDesk$Skid" "greatest" "I") (List.mem_cons_of_mem _ (List.mem_append_left _ (List.mem_append_left _ (List.mem_of_getElem? (i := 4) rfl))))
  have hl := lv_entry [.ref (ad k), .ref (ad t1)] (n := 2) (Nat.le_of_ble_eq_true rfl)
  rw [show entryFrame m args 2 = entryFrame m ([.ref (ad k), .ref (ad t1)] : List Value).toArray 2 by rw [hav], lg_entry_eq]
  generalize (lg_sl [.ref (ad k), .ref (ad t1)] ++ List.replicate (2 - (lg_sl [.ref (ad k), .ref (ad t1)]).length) Slot.unset).toArray = ls at hl ⊢
  have hl : lv_has ls 2 [(0, .ref (ad k)), (1, .ref (ad t1))] := hl
  have main : ∀ (H : Heap) (locs : List Loc) (ls : Array Slot), va_P D vwCl (wd ca ad S) H → va_S (Aq ad s.heap.size) s.heap H locs → lv_has ls 2 [(0, .ref (ad k)), (1, .ref (ad t1))] → W p l e rm_X0_add s m args below meth c H locs 0 0 (Zv below D ca ad args s o) (F0 m 0 ls []) := by
    intro H locs ls hP hS hl
    unfold f_X0_add at hf
    refine lv_aload_n hx hb dX0_add_0 rfl (lv_at hl 1 rfl) ?_
    refine g_X2_behind hx hb hX2 hown hKK hP ht1 K51 dX0_add_1 ?_
    refine lv_if_eq (tgt := 41) hx hb dX0_add_4 (by decide) (fun w => ?_) (fun w => ?_)
    · have hf := if_t w hf
      refine lv_aload_n hx hb dX0_add_41 rfl (lv_at hl 0 rfl) ?_
      refine lv_dup hx hb dX0_add_42 rfl ?_
      refine g_X0_aheadLeast hx hb hX0 hown hKK hP hk K32 dX0_add_43 ?_
      refine lv_aload_n hx hb dX0_add_46 rfl (lv_at hl 1 rfl) ?_
      refine g_X2_least hx hb hX2 hown hKK hP ht1 K56 dX0_add_47 ?_
      refine lv_iadd hx hb dX0_add_50 ?_
      obtain ⟨S1, h2, hf⟩ := bd_e hf
      obtain rfl := Option.some.inj h2
      refine p_X0_aheadLeast hx hb hX0 hown hj hKK hP hS hk K32 dX0_add_51 (fun H locs hP hS => ?_)
      refine lv_aload_n hx hb dX0_add_54 rfl (lv_at hl 0 rfl) ?_
      refine lv_dup hx hb dX0_add_55 rfl ?_
      refine g_X0_aheadGreatest hx hb hX0 hown hKK hP hk K35 dX0_add_56 ?_
      refine lv_aload_n hx hb dX0_add_59 rfl (lv_at hl 1 rfl) ?_
      refine g_X2_greatest hx hb hX2 hown hKK hP ht1 K59 dX0_add_60 ?_
      refine lv_iadd hx hb dX0_add_63 ?_
      obtain ⟨S3, h4, hf⟩ := bd_e hf
      obtain rfl := Option.some.inj h4
      refine p_X0_aheadGreatest hx hb hX0 hown hj hKK hP hS hk K35 dX0_add_64 (fun H locs hP hS => ?_)
      obtain rfl := Option.some.inj hf
      exact r_vret hx hb hr hP hS dX0_add_67 hlocks
    · have hf := if_f w hf
      refine lv_aload_n hx hb dX0_add_7 rfl (lv_at hl 0 rfl) ?_
      refine lv_dup hx hb dX0_add_8 rfl ?_
      refine g_X0_behindLeast hx hb hX0 hown hKK hP hk K38 dX0_add_9 ?_
      refine lv_aload_n hx hb dX0_add_12 rfl (lv_at hl 1 rfl) ?_
      refine g_X2_least hx hb hX2 hown hKK hP ht1 K56 dX0_add_13 ?_
      refine lv_iadd hx hb dX0_add_16 ?_
      obtain ⟨S5, h6, hf⟩ := bd_e hf
      obtain rfl := Option.some.inj h6
      refine p_X0_behindLeast hx hb hX0 hown hj hKK hP hS hk K38 dX0_add_17 (fun H locs hP hS => ?_)
      refine lv_aload_n hx hb dX0_add_20 rfl (lv_at hl 0 rfl) ?_
      refine lv_dup hx hb dX0_add_21 rfl ?_
      refine g_X0_behindGreatest hx hb hX0 hown hKK hP hk K41 dX0_add_22 ?_
      refine lv_aload_n hx hb dX0_add_25 rfl (lv_at hl 1 rfl) ?_
      refine g_X2_greatest hx hb hX2 hown hKK hP ht1 K59 dX0_add_26 ?_
      refine lv_iadd hx hb dX0_add_29 ?_
      obtain ⟨S7, h8, hf⟩ := bd_e hf
      obtain rfl := Option.some.inj h8
      refine p_X0_behindGreatest hx hb hX0 hown hj hKK hP hS hk K41 dX0_add_30 (fun H locs hP hS => ?_)
      refine lv_aload_n hx hb dX0_add_33 rfl (lv_at hl 0 rfl) ?_
      refine lv_iconst (v := 1) hx hb dX0_add_34 (by decide) ?_
      obtain ⟨S9, h10, hf⟩ := bd_e hf
      refine p_X0_skidsBehind hx hb hX0 hown hj hKK hP hS hk h10 K44 dX0_add_35 (fun H locs hP hS => ?_)
      refine lv_goto (tgt := 67) hx hb dX0_add_38 (by decide) ?_
      obtain rfl := Option.some.inj hf
      exact r_vret hx hb hr hP hS dX0_add_67 hlocks
  exact main s.heap [] ls hP va_S.rf hl
def f_X0_isTakenBehind (k : Nat) (a1 : Int32) (S : QS) : Option Int32 :=
if ((51 * a1) * a1) < (S.1 k 7) then (some 0)
else (if (S.1 k 8) < ((51 * a1) * a1) then (some 0)
else (some 1))
def rm_X0_isTakenBehind : Room := { frames := 0, cells := 0, slots := 0, locals := 0 }
set_option maxRecDepth 100000 in
set_option maxHeartbeats 4000000 in
theorem m_X0_isTakenBehind (l : Launch) (D : va_G) (ca : Nat → ClassId) (ad : Nat → Nat) (hj : Inj ad) (k : Nat) (hk : qk k = 0) (a1 : Int32) (S : QS) (o : Int32) (hf : f_X0_isTakenBehind k a1 S = some o) : Ci l D ca ad yX0_isTakenBehind wsX0_isTakenBehind rm_X0_isTakenBehind [.ref (ad k), .int a1] S o S := by
  intro sz
  refine Met.ofW (cc := cX0_isTakenBehind) (maxL := 3) (ret := (some .boolean)) (by decide) rfl ?_
  intro p e s m args below meth c s₁ B hml hv
  obtain ⟨hav, hsz, hP, hKK⟩ := hv
  have hx := B.exec
  have hb := B.bytes
  have hr := B.returns
  have hts := atoms_spec (ws := wsX0_isTakenBehind) B.pre
  have hown : s.vm.findClass RX0 = some m.cls := findClass_of_methodNamed B.named
  have hlocks := B.notSynchronized
  subst hsz
  have hX0 : ∀ w ∈ wsX00, w.before _ s = true := fun w h => hts w (List.mem_cons_of_mem _ (List.mem_append_right _ h))
  have K38 := hts (Cond.fieldLink RX0 38 "CrashDesk$Car" "behindLeast" "I") (List.mem_cons_of_mem _ (List.mem_append_left _ (List.mem_of_getElem? (i := 0) rfl)))
  have K41 := hts (Cond.fieldLink RX0 41 "CrashDesk$Car" "behindGreatest" "I") (List.mem_cons_of_mem _ (List.mem_append_left _ (List.mem_of_getElem? (i := 1) rfl)))
  have hl := lv_entry [.ref (ad k), .int a1] (n := 3) (Nat.le_of_ble_eq_true rfl)
  rw [show entryFrame m args 3 = entryFrame m ([.ref (ad k), .int a1] : List Value).toArray 3 by rw [hav], lg_entry_eq]
  generalize (lg_sl [.ref (ad k), .int a1] ++ List.replicate (3 - (lg_sl [.ref (ad k), .int a1]).length) Slot.unset).toArray = ls at hl ⊢
  have hl : lv_has ls 3 [(0, .ref (ad k)), (1, .int a1)] := hl
  have main : ∀ (H : Heap) (locs : List Loc) (ls : Array Slot), va_P D vwCl (wd ca ad S) H → va_S (Aq ad s.heap.size) s.heap H locs → lv_has ls 3 [(0, .ref (ad k)), (1, .int a1)] → W p l e rm_X0_isTakenBehind s m args below meth c H locs 0 0 (Zi below D ca ad args s o S) (F0 m 0 ls []) := by
    intro H locs ls hP hS hl
    unfold f_X0_isTakenBehind at hf
    refine lv_bipush (v := 51) hx hb dX0_isTakenBehind_0 (by decide) ?_
    refine lv_iload_n hx hb dX0_isTakenBehind_2 rfl (lv_at hl 1 rfl) ?_
    refine lv_imul hx hb dX0_isTakenBehind_3 ?_
    refine lv_iload_n hx hb dX0_isTakenBehind_4 rfl (lv_at hl 1 rfl) ?_
    refine lv_imul hx hb dX0_isTakenBehind_5 ?_
    refine lv_istore_n (lv' := [(2, .int ((51 * a1) * a1)), (0, .ref (ad k)), (1, .int a1)]) hx hb dX0_isTakenBehind_6 rfl hl (by decide) rfl (fun ls hl => ?_)
    refine lv_iload_n hx hb dX0_isTakenBehind_7 rfl (lv_at hl 0 rfl) ?_
    refine lv_aload_n hx hb dX0_isTakenBehind_8 rfl (lv_at hl 1 rfl) ?_
    refine g_X0_behindLeast hx hb hX0 hown hKK hP hk K38 dX0_isTakenBehind_9 ?_
    refine lv_icmp_lt (tgt := 27) hx hb dX0_isTakenBehind_12 (by decide) (fun w => ?_) (fun w => ?_)
    · have hf := if_t w hf
      refine lv_iconst (v := 0) hx hb dX0_isTakenBehind_27 (by decide) ?_
      obtain rfl := Option.some.inj hf
      exact r_zret hx hb hr hP hS (Or.inl rfl) dX0_isTakenBehind_28 hlocks
    · have hf := if_f w hf
      refine lv_iload_n hx hb dX0_isTakenBehind_15 rfl (lv_at hl 0 rfl) ?_
      refine lv_aload_n hx hb dX0_isTakenBehind_16 rfl (lv_at hl 1 rfl) ?_
      refine g_X0_behindGreatest hx hb hX0 hown hKK hP hk K41 dX0_isTakenBehind_17 ?_
      refine lv_icmp_gt (tgt := 27) hx hb dX0_isTakenBehind_20 (by decide) (fun w => ?_) (fun w => ?_)
      · have hf := if_t w hf
        refine lv_iconst (v := 0) hx hb dX0_isTakenBehind_27 (by decide) ?_
        obtain rfl := Option.some.inj hf
        exact r_zret hx hb hr hP hS (Or.inl rfl) dX0_isTakenBehind_28 hlocks
      · have hf := if_f w hf
        refine lv_iconst (v := 1) hx hb dX0_isTakenBehind_23 (by decide) ?_
        refine lv_goto (tgt := 28) hx hb dX0_isTakenBehind_24 (by decide) ?_
        obtain rfl := Option.some.inj hf
        exact r_zret hx hb hr hP hS (Or.inr rfl) dX0_isTakenBehind_28 hlocks
  exact main s.heap [] ls hP va_S.rf hl
def f_X0_isTakenAhead (k : Nat) (a1 : Int32) (a2 : Int32) (S : QS) : Option Int32 :=
if (((51 * a1) * a1) - ((51 * a2) * a2)) < (S.1 k 5) then (some 0)
else (if (S.1 k 6) < (((51 * a1) * a1) - ((51 * a2) * a2)) then (some 0)
else (some 1))
def rm_X0_isTakenAhead : Room := { frames := 0, cells := 0, slots := 0, locals := 0 }
set_option maxRecDepth 100000 in
set_option maxHeartbeats 4000000 in
theorem m_X0_isTakenAhead (l : Launch) (D : va_G) (ca : Nat → ClassId) (ad : Nat → Nat) (hj : Inj ad) (k : Nat) (hk : qk k = 0) (a1 : Int32) (a2 : Int32) (S : QS) (o : Int32) (hf : f_X0_isTakenAhead k a1 a2 S = some o) : Ci l D ca ad yX0_isTakenAhead wsX0_isTakenAhead rm_X0_isTakenAhead [.ref (ad k), .int a1, .int a2] S o S := by
  intro sz
  refine Met.ofW (cc := cX0_isTakenAhead) (maxL := 4) (ret := (some .boolean)) (by decide) rfl ?_
  intro p e s m args below meth c s₁ B hml hv
  obtain ⟨hav, hsz, hP, hKK⟩ := hv
  have hx := B.exec
  have hb := B.bytes
  have hr := B.returns
  have hts := atoms_spec (ws := wsX0_isTakenAhead) B.pre
  have hown : s.vm.findClass RX0 = some m.cls := findClass_of_methodNamed B.named
  have hlocks := B.notSynchronized
  subst hsz
  have hX0 : ∀ w ∈ wsX00, w.before _ s = true := fun w h => hts w (List.mem_cons_of_mem _ (List.mem_append_right _ h))
  have K32 := hts (Cond.fieldLink RX0 32 "CrashDesk$Car" "aheadLeast" "I") (List.mem_cons_of_mem _ (List.mem_append_left _ (List.mem_of_getElem? (i := 0) rfl)))
  have K35 := hts (Cond.fieldLink RX0 35 "CrashDesk$Car" "aheadGreatest" "I") (List.mem_cons_of_mem _ (List.mem_append_left _ (List.mem_of_getElem? (i := 1) rfl)))
  have hl := lv_entry [.ref (ad k), .int a1, .int a2] (n := 4) (Nat.le_of_ble_eq_true rfl)
  rw [show entryFrame m args 4 = entryFrame m ([.ref (ad k), .int a1, .int a2] : List Value).toArray 4 by rw [hav], lg_entry_eq]
  generalize (lg_sl [.ref (ad k), .int a1, .int a2] ++ List.replicate (4 - (lg_sl [.ref (ad k), .int a1, .int a2]).length) Slot.unset).toArray = ls at hl ⊢
  have hl : lv_has ls 4 [(0, .ref (ad k)), (1, .int a1), (2, .int a2)] := hl
  have main : ∀ (H : Heap) (locs : List Loc) (ls : Array Slot), va_P D vwCl (wd ca ad S) H → va_S (Aq ad s.heap.size) s.heap H locs → lv_has ls 4 [(0, .ref (ad k)), (1, .int a1), (2, .int a2)] → W p l e rm_X0_isTakenAhead s m args below meth c H locs 0 0 (Zi below D ca ad args s o S) (F0 m 0 ls []) := by
    intro H locs ls hP hS hl
    unfold f_X0_isTakenAhead at hf
    refine lv_bipush (v := 51) hx hb dX0_isTakenAhead_0 (by decide) ?_
    refine lv_iload_n hx hb dX0_isTakenAhead_2 rfl (lv_at hl 1 rfl) ?_
    refine lv_imul hx hb dX0_isTakenAhead_3 ?_
    refine lv_iload_n hx hb dX0_isTakenAhead_4 rfl (lv_at hl 1 rfl) ?_
    refine lv_imul hx hb dX0_isTakenAhead_5 ?_
    refine lv_bipush (v := 51) hx hb dX0_isTakenAhead_6 (by decide) ?_
    refine lv_iload_n hx hb dX0_isTakenAhead_8 rfl (lv_at hl 2 rfl) ?_
    refine lv_imul hx hb dX0_isTakenAhead_9 ?_
    refine lv_iload_n hx hb dX0_isTakenAhead_10 rfl (lv_at hl 2 rfl) ?_
    refine lv_imul hx hb dX0_isTakenAhead_11 ?_
    refine lv_isub hx hb dX0_isTakenAhead_12 ?_
    refine lv_istore_n (lv' := [(3, .int (((51 * a1) * a1) - ((51 * a2) * a2))), (0, .ref (ad k)), (1, .int a1), (2, .int a2)]) hx hb dX0_isTakenAhead_13 rfl hl (by decide) rfl (fun ls hl => ?_)
    refine lv_iload_n hx hb dX0_isTakenAhead_14 rfl (lv_at hl 0 rfl) ?_
    refine lv_aload_n hx hb dX0_isTakenAhead_15 rfl (lv_at hl 1 rfl) ?_
    refine g_X0_aheadLeast hx hb hX0 hown hKK hP hk K32 dX0_isTakenAhead_16 ?_
    refine lv_icmp_lt (tgt := 34) hx hb dX0_isTakenAhead_19 (by decide) (fun w => ?_) (fun w => ?_)
    · have hf := if_t w hf
      refine lv_iconst (v := 0) hx hb dX0_isTakenAhead_34 (by decide) ?_
      obtain rfl := Option.some.inj hf
      exact r_zret hx hb hr hP hS (Or.inl rfl) dX0_isTakenAhead_35 hlocks
    · have hf := if_f w hf
      refine lv_iload_n hx hb dX0_isTakenAhead_22 rfl (lv_at hl 0 rfl) ?_
      refine lv_aload_n hx hb dX0_isTakenAhead_23 rfl (lv_at hl 1 rfl) ?_
      refine g_X0_aheadGreatest hx hb hX0 hown hKK hP hk K35 dX0_isTakenAhead_24 ?_
      refine lv_icmp_gt (tgt := 34) hx hb dX0_isTakenAhead_27 (by decide) (fun w => ?_) (fun w => ?_)
      · have hf := if_t w hf
        refine lv_iconst (v := 0) hx hb dX0_isTakenAhead_34 (by decide) ?_
        obtain rfl := Option.some.inj hf
        exact r_zret hx hb hr hP hS (Or.inl rfl) dX0_isTakenAhead_35 hlocks
      · have hf := if_f w hf
        refine lv_iconst (v := 1) hx hb dX0_isTakenAhead_30 (by decide) ?_
        refine lv_goto (tgt := 35) hx hb dX0_isTakenAhead_31 (by decide) ?_
        obtain rfl := Option.some.inj hf
        exact r_zret hx hb hr hP hS (Or.inr rfl) dX0_isTakenAhead_35 hlocks
  exact main s.heap [] ls hP va_S.rf hl
def f_X0_firstFor (a1 : Int32) (a2 : Int32) : Option Int32 :=
if 0 ≤ a2 then (some a1)
else (some (-a1))
def rm_X0_firstFor : Room := { frames := 0, cells := 0, slots := 0, locals := 0 }
set_option maxRecDepth 100000 in
set_option maxHeartbeats 4000000 in
theorem m_X0_firstFor (l : Launch) (D : va_G) (ca : Nat → ClassId) (ad : Nat → Nat) (hj : Inj ad) (a1 : Int32) (a2 : Int32) (S : QS) (o : Int32) (hf : f_X0_firstFor a1 a2 = some o) : Ci l D ca ad yX0_firstFor wsX0_firstFor rm_X0_firstFor [.int a1, .int a2] S o S := by
  intro sz
  refine Met.ofW (cc := cX0_firstFor) (maxL := 2) (ret := (some .int)) (by decide) rfl ?_
  intro p e s m args below meth c s₁ B hml hv
  obtain ⟨hav, hsz, hP, hKK⟩ := hv
  have hx := B.exec
  have hb := B.bytes
  have hr := B.returns
  have hts := atoms_spec (ws := wsX0_firstFor) B.pre
  have hown : s.vm.findClass RX0 = some m.cls := findClass_of_methodNamed B.named
  have hlocks := B.notSynchronized
  subst hsz
  have hl := lv_entry [.int a1, .int a2] (n := 2) (Nat.le_of_ble_eq_true rfl)
  rw [show entryFrame m args 2 = entryFrame m ([.int a1, .int a2] : List Value).toArray 2 by rw [hav], lg_entry_eq]
  generalize (lg_sl [.int a1, .int a2] ++ List.replicate (2 - (lg_sl [.int a1, .int a2]).length) Slot.unset).toArray = ls at hl ⊢
  have hl : lv_has ls 2 [(0, .int a1), (1, .int a2)] := hl
  have main : ∀ (H : Heap) (locs : List Loc) (ls : Array Slot), va_P D vwCl (wd ca ad S) H → va_S (Aq ad s.heap.size) s.heap H locs → lv_has ls 2 [(0, .int a1), (1, .int a2)] → W p l e rm_X0_firstFor s m args below meth c H locs 0 0 (Zi below D ca ad args s o S) (F0 m 0 ls []) := by
    intro H locs ls hP hS hl
    unfold f_X0_firstFor at hf
    refine lv_iload_n hx hb dX0_firstFor_0 rfl (lv_at hl 1 rfl) ?_
    refine lv_if_ge (tgt := 9) hx hb dX0_firstFor_1 (by decide) (fun w => ?_) (fun w => ?_)
    · have hf := if_t w hf
      refine lv_iload_n hx hb dX0_firstFor_9 rfl (lv_at hl 0 rfl) ?_
      obtain rfl := Option.some.inj hf
      exact r_iret hx hb hr hP hS dX0_firstFor_10 hlocks
    · have hf := if_f w hf
      refine lv_iload_n hx hb dX0_firstFor_4 rfl (lv_at hl 0 rfl) ?_
      refine lv_ineg hx hb dX0_firstFor_5 ?_
      refine lv_goto (tgt := 10) hx hb dX0_firstFor_6 (by decide) ?_
      obtain rfl := Option.some.inj hf
      exact r_iret hx hb hr hP hS dX0_firstFor_10 hlocks
  exact main s.heap [] ls hP va_S.rf hl
def lp_X0_joinFirsts_10 (k : Nat) (a1 : Int32) (S : QS) : Nat → Int32 → Int32 → Int32 → Option (Int32 × Int32)
  | 0, _, _, _ => none
  | fuel + 1, v1, v2, v3 => (if 50 < v3 then (some (v1, v2))
else ((f_X0_isTakenAhead k v3 a1 S).bind fun v6 =>
((if v6 = 0 then (some (-1))
else ((f_X0_firstFor v3 a1).bind fun v9 =>
(f_X3_priceOf (k + 1) v9 S).bind fun v11 =>
some v11)) : Option (Int32)).bind fun q7 =>
if q7 = (-1) then (lp_X0_joinFirsts_10 k a1 S fuel v1 v2 (v3 + 1))
else ((f_X5_cheaper v2 q7).bind fun v13 =>
lp_X0_joinFirsts_10 k a1 S fuel (v1 + 1) v13 (v3 + 1))))
def f_X0_joinFirsts (k : Nat) (a1 : Int32) (S : QS) : Option QS :=
(lp_X0_joinFirsts_10 k a1 S FU 0 (-1) (if 0 ≤ a1 then a1 else 0 - a1)).bind fun q4 =>
if a1 < (-50) then (if q4.2 = (-1) then ((f_X3_setPrice (k + 4) a1 (-1) S).bind fun S19 =>
some S19)
else ((f_X3_priceOf (k + 4) a1 S).bind fun v15 =>
(f_X3_setPrice (k + 4) a1 (v15 + q4.2) S).bind fun S17 =>
some S17))
else (if 50 < a1 then (if q4.2 = (-1) then ((f_X3_setPrice (k + 4) a1 (-1) S).bind fun S25 =>
some S25)
else ((f_X3_priceOf (k + 4) a1 S).bind fun v21 =>
(f_X3_setPrice (k + 4) a1 (v21 + q4.2) S).bind fun S23 =>
some S23))
else ((wrA (k + 10) 101 (a1 - (-50)) q4.1 S).bind fun S26 =>
if q4.2 = (-1) then ((f_X3_setPrice (k + 4) a1 (-1) S26).bind fun S33 =>
some S33)
else ((f_X3_priceOf (k + 4) a1 S26).bind fun v29 =>
(f_X3_setPrice (k + 4) a1 (v29 + q4.2) S26).bind fun S31 =>
some S31)))
def rm_X0_joinFirsts : Room := { frames := 1, cells := 0, slots := 0, locals := 23 }
set_option maxRecDepth 100000 in
set_option maxHeartbeats 4000000 in
theorem m_X0_joinFirsts (l : Launch) (D : va_G) (ca : Nat → ClassId) (ad : Nat → Nat) (hj : Inj ad) (k : Nat) (hk : qk k = 0) (a1 : Int32) (S : QS) (o : QS) (hf : f_X0_joinFirsts k a1 S = some o) : Cv l D ca ad yX0_joinFirsts wsX0_joinFirsts rm_X0_joinFirsts [.ref (ad k), .int a1] S o := by
  intro sz
  refine Met.ofW (cc := cX0_joinFirsts) (maxL := 6) (ret := none) (by decide) rfl ?_
  intro p e s m args below meth c s₁ B hml hv
  obtain ⟨hav, hsz, hP, hKK⟩ := hv
  have hx := B.exec
  have hb := B.bytes
  have hr := B.returns
  have hts := atoms_spec (ws := wsX0_joinFirsts) B.pre
  have hown : s.vm.findClass RX0 = some m.cls := findClass_of_methodNamed B.named
  have hlocks := B.notSynchronized
  subst hsz
  have hX0 : ∀ w ∈ wsX00, w.before _ s = true := fun w h => hts w (List.mem_cons_of_mem _ (List.mem_append_left _ (List.mem_append_right _ h)))
  have K18 := hts (Cond.fieldLink RX0 18 "CrashDesk$Car" "first" "LCrashDesk$Speed;") (List.mem_cons_of_mem _ (List.mem_append_left _ (List.mem_append_left _ (List.mem_append_left _ (List.mem_of_getElem? (i := 4) rfl)))))
  have K22 := hts (Cond.fieldLink RX0 22 "CrashDesk$Car" "at" "LCrashDesk$Speed;") (List.mem_cons_of_mem _ (List.mem_append_left _ (List.mem_append_left _ (List.mem_append_left _ (List.mem_of_getElem? (i := 6) rfl)))))
  have K28 := hts (Cond.fieldLink RX0 28 "CrashDesk$Car" "firstCounts" "[I") (List.mem_cons_of_mem _ (List.mem_append_left _ (List.mem_append_left _ (List.mem_append_left _ (List.mem_of_getElem? (i := 5) rfl)))))
  have K86 := hts (Cond.methodLink RX0 86 Lib.Math.abs.name) (List.mem_cons_of_mem _ (List.mem_append_left _ (List.mem_append_left _ (List.mem_append_left _ (List.mem_of_getElem? (i := 0) rfl)))))
  have hl := lv_entry [.ref (ad k), .int a1] (n := 6) (Nat.le_of_ble_eq_true rfl)
  rw [show entryFrame m args 6 = entryFrame m ([.ref (ad k), .int a1] : List Value).toArray 6 by rw [hav], lg_entry_eq]
  generalize (lg_sl [.ref (ad k), .int a1] ++ List.replicate (6 - (lg_sl [.ref (ad k), .int a1]).length) Slot.unset).toArray = ls at hl ⊢
  have hl : lv_has ls 6 [(0, .ref (ad k)), (1, .int a1)] := hl
  have main : ∀ (H : Heap) (locs : List Loc) (ls : Array Slot), va_P D vwCl (wd ca ad S) H → va_S (Aq ad s.heap.size) s.heap H locs → lv_has ls 6 [(0, .ref (ad k)), (1, .int a1)] → W p l e rm_X0_joinFirsts s m args below meth c H locs 0 0 (Zv below D ca ad args s o) (F0 m 0 ls []) := by
    intro H locs ls hP hS hl
    unfold f_X0_joinFirsts at hf
    refine lv_iconst (v := 0) hx hb dX0_joinFirsts_0 (by decide) ?_
    refine lv_istore_n (lv' := [(2, .int 0), (0, .ref (ad k)), (1, .int a1)]) hx hb dX0_joinFirsts_1 rfl hl (by decide) rfl (fun ls hl => ?_)
    refine lv_iconst (v := (-1)) hx hb dX0_joinFirsts_2 (by decide) ?_
    refine lv_istore_n (lv' := [(3, .int (-1)), (2, .int 0), (0, .ref (ad k)), (1, .int a1)]) hx hb dX0_joinFirsts_3 rfl hl (by decide) rfl (fun ls hl => ?_)
    refine lv_iload_n hx hb dX0_joinFirsts_4 rfl (lv_at hl 3 rfl) ?_
    refine va_mabs hx hb (hml.trans hl.1.symm) hown K86 (hts _ (List.mem_cons_of_mem _ (List.mem_append_left _ (List.mem_append_left _ (List.mem_append_left _ (List.mem_of_getElem? (i := 1) rfl)))))) (hts _ (List.mem_cons_of_mem _ (List.mem_append_left _ (List.mem_append_left _ (List.mem_append_left _ (List.mem_of_getElem? (i := 2) rfl)))))) (hts _ (List.mem_cons_of_mem _ (List.mem_append_left _ (List.mem_append_left _ (List.mem_append_left _ (List.mem_of_getElem? (i := 3) rfl)))))) (Nat.le_of_ble_eq_true rfl) (Nat.le_of_ble_eq_true rfl) (Nat.le_of_ble_eq_true rfl) (Nat.le_of_ble_eq_true rfl) dX0_joinFirsts_5 ?_
    refine lv_istore (lv' := [(4, .int (if 0 ≤ a1 then a1 else 0 - a1)), (3, .int (-1)), (2, .int 0), (0, .ref (ad k)), (1, .int a1)]) hx hb dX0_joinFirsts_8 hl (by decide) rfl (fun ls hl => ?_)
    obtain ⟨q4, hq4, hf⟩ := bd_e hf
    have J1 : ∀ (H : Heap) (locs : List Loc) (ls : Array Slot), va_P D vwCl (wd ca ad S) H → va_S (Aq ad s.heap.size) s.heap H locs → lv_has ls 6 [(0, .ref (ad k)), (1, .int a1), (2, .int q4.1), (3, .int q4.2)] → W p l e rm_X0_joinFirsts s m args below meth c H locs 0 0 (Zv below D ca ad args s o) (F0 m 68 ls []) := by
      intro H locs ls hP hS hl
      refine lv_iload_n hx hb dX0_joinFirsts_68 rfl (lv_at hl 1 rfl) ?_
      refine lv_bipush (v := (-50)) hx hb dX0_joinFirsts_69 (by decide) ?_
      refine lv_icmp_lt (tgt := 90) hx hb dX0_joinFirsts_71 (by decide) (fun w => ?_) (fun w => ?_)
      · have hf := if_t w hf
        refine lv_aload_n hx hb dX0_joinFirsts_90 rfl (lv_at hl 0 rfl) ?_
        refine g_X0_at hx hb hX0 hown hKK hP hk K22 dX0_joinFirsts_91 ?_
        refine lv_iload_n hx hb dX0_joinFirsts_94 rfl (lv_at hl 1 rfl) ?_
        refine lv_iload_n hx hb dX0_joinFirsts_95 rfl (lv_at hl 3 rfl) ?_
        refine lv_iconst (v := (-1)) hx hb dX0_joinFirsts_96 (by decide) ?_
        refine lv_icmp_ne (tgt := 104) hx hb dX0_joinFirsts_97 (by decide) (fun w => ?_) (fun w => ?_)
        · have hf := if_f w hf
          refine lv_aload_n hx hb dX0_joinFirsts_104 rfl (lv_at hl 0 rfl) ?_
          refine g_X0_at hx hb hX0 hown hKK hP hk K22 dX0_joinFirsts_105 ?_
          refine lv_iload_n hx hb dX0_joinFirsts_108 rfl (lv_at hl 1 rfl) ?_
          obtain ⟨v15, h14, hf⟩ := bd_e hf
          refine r_ci hS (va_runV (As := [.int a1]) (rest := [.int a1, .ref (ad (k + 4))]) ⟨hx, hb, hml, hown, hts⟩ (m_X3_priceOf l D ca ad hj (k + 4) (q_car hk).2.1 a1 S _ h14 H.size) (cwV 1 hts gX0_joinFirsts_X3_priceOf rfl rfl rfl (by decide +kernel) ⟨Nat.le_of_ble_eq_true rfl, Nat.le_of_ble_eq_true rfl⟩) (r_preV hKK hP (q_car hk).2.1 rfl) rfl rfl hl.1 rfl (lv_room (Nat.le_of_ble_eq_true rfl)) dX0_joinFirsts_109 ⟨Nat.le_of_ble_eq_true rfl, Nat.le_of_ble_eq_true rfl⟩) (fun H locs hP hS => ?_)
          refine lv_iload_n hx hb dX0_joinFirsts_112 rfl (lv_at hl 3 rfl) ?_
          refine lv_iadd hx hb dX0_joinFirsts_113 ?_
          obtain ⟨S17, h16, hf⟩ := bd_e hf
          refine r_cv hS (va_runV (As := [.int a1, .int (v15 + q4.2)]) (rest := []) ⟨hx, hb, hml, hown, hts⟩ (m_X3_setPrice l D ca ad hj (k + 4) (q_car hk).2.1 a1 (v15 + q4.2) S _ h16 H.size) (cwV 2 hts gX0_joinFirsts_X3_setPrice rfl rfl rfl (by decide +kernel) ⟨Nat.le_of_ble_eq_true rfl, Nat.le_of_ble_eq_true rfl⟩) (r_preV hKK hP (q_car hk).2.1 rfl) rfl rfl hl.1 rfl (lv_room (Nat.le_of_ble_eq_true rfl)) dX0_joinFirsts_114 ⟨Nat.le_of_ble_eq_true rfl, Nat.le_of_ble_eq_true rfl⟩) (fun H locs hP hS => ?_)
          obtain rfl := Option.some.inj hf
          exact r_vret hx hb hr hP hS dX0_joinFirsts_117 hlocks
        · have hf := if_t w hf
          refine lv_iconst (v := (-1)) hx hb dX0_joinFirsts_100 (by decide) ?_
          refine lv_goto (tgt := 114) hx hb dX0_joinFirsts_101 (by decide) ?_
          obtain ⟨S19, h18, hf⟩ := bd_e hf
          refine r_cv hS (va_runV (As := [.int a1, .int (-1)]) (rest := []) ⟨hx, hb, hml, hown, hts⟩ (m_X3_setPrice l D ca ad hj (k + 4) (q_car hk).2.1 a1 (-1) S _ h18 H.size) (cwV 2 hts gX0_joinFirsts_X3_setPrice rfl rfl rfl (by decide +kernel) ⟨Nat.le_of_ble_eq_true rfl, Nat.le_of_ble_eq_true rfl⟩) (r_preV hKK hP (q_car hk).2.1 rfl) rfl rfl hl.1 rfl (lv_room (Nat.le_of_ble_eq_true rfl)) dX0_joinFirsts_114 ⟨Nat.le_of_ble_eq_true rfl, Nat.le_of_ble_eq_true rfl⟩) (fun H locs hP hS => ?_)
          obtain rfl := Option.some.inj hf
          exact r_vret hx hb hr hP hS dX0_joinFirsts_117 hlocks
      · have hf := if_f w hf
        refine lv_iload_n hx hb dX0_joinFirsts_74 rfl (lv_at hl 1 rfl) ?_
        refine lv_bipush (v := 50) hx hb dX0_joinFirsts_75 (by decide) ?_
        refine lv_icmp_gt (tgt := 90) hx hb dX0_joinFirsts_77 (by decide) (fun w => ?_) (fun w => ?_)
        · have hf := if_t w hf
          refine lv_aload_n hx hb dX0_joinFirsts_90 rfl (lv_at hl 0 rfl) ?_
          refine g_X0_at hx hb hX0 hown hKK hP hk K22 dX0_joinFirsts_91 ?_
          refine lv_iload_n hx hb dX0_joinFirsts_94 rfl (lv_at hl 1 rfl) ?_
          refine lv_iload_n hx hb dX0_joinFirsts_95 rfl (lv_at hl 3 rfl) ?_
          refine lv_iconst (v := (-1)) hx hb dX0_joinFirsts_96 (by decide) ?_
          refine lv_icmp_ne (tgt := 104) hx hb dX0_joinFirsts_97 (by decide) (fun w => ?_) (fun w => ?_)
          · have hf := if_f w hf
            refine lv_aload_n hx hb dX0_joinFirsts_104 rfl (lv_at hl 0 rfl) ?_
            refine g_X0_at hx hb hX0 hown hKK hP hk K22 dX0_joinFirsts_105 ?_
            refine lv_iload_n hx hb dX0_joinFirsts_108 rfl (lv_at hl 1 rfl) ?_
            obtain ⟨v21, h20, hf⟩ := bd_e hf
            refine r_ci hS (va_runV (As := [.int a1]) (rest := [.int a1, .ref (ad (k + 4))]) ⟨hx, hb, hml, hown, hts⟩ (m_X3_priceOf l D ca ad hj (k + 4) (q_car hk).2.1 a1 S _ h20 H.size) (cwV 1 hts gX0_joinFirsts_X3_priceOf rfl rfl rfl (by decide +kernel) ⟨Nat.le_of_ble_eq_true rfl, Nat.le_of_ble_eq_true rfl⟩) (r_preV hKK hP (q_car hk).2.1 rfl) rfl rfl hl.1 rfl (lv_room (Nat.le_of_ble_eq_true rfl)) dX0_joinFirsts_109 ⟨Nat.le_of_ble_eq_true rfl, Nat.le_of_ble_eq_true rfl⟩) (fun H locs hP hS => ?_)
            refine lv_iload_n hx hb dX0_joinFirsts_112 rfl (lv_at hl 3 rfl) ?_
            refine lv_iadd hx hb dX0_joinFirsts_113 ?_
            obtain ⟨S23, h22, hf⟩ := bd_e hf
            refine r_cv hS (va_runV (As := [.int a1, .int (v21 + q4.2)]) (rest := []) ⟨hx, hb, hml, hown, hts⟩ (m_X3_setPrice l D ca ad hj (k + 4) (q_car hk).2.1 a1 (v21 + q4.2) S _ h22 H.size) (cwV 2 hts gX0_joinFirsts_X3_setPrice rfl rfl rfl (by decide +kernel) ⟨Nat.le_of_ble_eq_true rfl, Nat.le_of_ble_eq_true rfl⟩) (r_preV hKK hP (q_car hk).2.1 rfl) rfl rfl hl.1 rfl (lv_room (Nat.le_of_ble_eq_true rfl)) dX0_joinFirsts_114 ⟨Nat.le_of_ble_eq_true rfl, Nat.le_of_ble_eq_true rfl⟩) (fun H locs hP hS => ?_)
            obtain rfl := Option.some.inj hf
            exact r_vret hx hb hr hP hS dX0_joinFirsts_117 hlocks
          · have hf := if_t w hf
            refine lv_iconst (v := (-1)) hx hb dX0_joinFirsts_100 (by decide) ?_
            refine lv_goto (tgt := 114) hx hb dX0_joinFirsts_101 (by decide) ?_
            obtain ⟨S25, h24, hf⟩ := bd_e hf
            refine r_cv hS (va_runV (As := [.int a1, .int (-1)]) (rest := []) ⟨hx, hb, hml, hown, hts⟩ (m_X3_setPrice l D ca ad hj (k + 4) (q_car hk).2.1 a1 (-1) S _ h24 H.size) (cwV 2 hts gX0_joinFirsts_X3_setPrice rfl rfl rfl (by decide +kernel) ⟨Nat.le_of_ble_eq_true rfl, Nat.le_of_ble_eq_true rfl⟩) (r_preV hKK hP (q_car hk).2.1 rfl) rfl rfl hl.1 rfl (lv_room (Nat.le_of_ble_eq_true rfl)) dX0_joinFirsts_114 ⟨Nat.le_of_ble_eq_true rfl, Nat.le_of_ble_eq_true rfl⟩) (fun H locs hP hS => ?_)
            obtain rfl := Option.some.inj hf
            exact r_vret hx hb hr hP hS dX0_joinFirsts_117 hlocks
        · have hf := if_f w hf
          refine lv_aload_n hx hb dX0_joinFirsts_80 rfl (lv_at hl 0 rfl) ?_
          refine g_X0_firstCounts hx hb hX0 hown hKK hP hk K28 dX0_joinFirsts_81 ?_
          refine lv_iload_n hx hb dX0_joinFirsts_84 rfl (lv_at hl 1 rfl) ?_
          refine lv_bipush (v := (-50)) hx hb dX0_joinFirsts_85 (by decide) ?_
          refine lv_isub hx hb dX0_joinFirsts_87 ?_
          refine lv_iload_n hx hb dX0_joinFirsts_88 rfl (lv_at hl 2 rfl) ?_
          obtain ⟨S26, h27, hf⟩ := bd_e hf
          refine r_iast hx hb hj hKK hP hS (q_car hk).2.2.2.1 (q_car hk).2.2.2.2 h27 dX0_joinFirsts_89 (fun H locs hP hS => ?_)
          refine lv_aload_n hx hb dX0_joinFirsts_90 rfl (lv_at hl 0 rfl) ?_
          refine g_X0_at hx hb hX0 hown hKK hP hk K22 dX0_joinFirsts_91 ?_
          refine lv_iload_n hx hb dX0_joinFirsts_94 rfl (lv_at hl 1 rfl) ?_
          refine lv_iload_n hx hb dX0_joinFirsts_95 rfl (lv_at hl 3 rfl) ?_
          refine lv_iconst (v := (-1)) hx hb dX0_joinFirsts_96 (by decide) ?_
          refine lv_icmp_ne (tgt := 104) hx hb dX0_joinFirsts_97 (by decide) (fun w => ?_) (fun w => ?_)
          · have hf := if_f w hf
            refine lv_aload_n hx hb dX0_joinFirsts_104 rfl (lv_at hl 0 rfl) ?_
            refine g_X0_at hx hb hX0 hown hKK hP hk K22 dX0_joinFirsts_105 ?_
            refine lv_iload_n hx hb dX0_joinFirsts_108 rfl (lv_at hl 1 rfl) ?_
            obtain ⟨v29, h28, hf⟩ := bd_e hf
            refine r_ci hS (va_runV (As := [.int a1]) (rest := [.int a1, .ref (ad (k + 4))]) ⟨hx, hb, hml, hown, hts⟩ (m_X3_priceOf l D ca ad hj (k + 4) (q_car hk).2.1 a1 S26 _ h28 H.size) (cwV 1 hts gX0_joinFirsts_X3_priceOf rfl rfl rfl (by decide +kernel) ⟨Nat.le_of_ble_eq_true rfl, Nat.le_of_ble_eq_true rfl⟩) (r_preV hKK hP (q_car hk).2.1 rfl) rfl rfl hl.1 rfl (lv_room (Nat.le_of_ble_eq_true rfl)) dX0_joinFirsts_109 ⟨Nat.le_of_ble_eq_true rfl, Nat.le_of_ble_eq_true rfl⟩) (fun H locs hP hS => ?_)
            refine lv_iload_n hx hb dX0_joinFirsts_112 rfl (lv_at hl 3 rfl) ?_
            refine lv_iadd hx hb dX0_joinFirsts_113 ?_
            obtain ⟨S31, h30, hf⟩ := bd_e hf
            refine r_cv hS (va_runV (As := [.int a1, .int (v29 + q4.2)]) (rest := []) ⟨hx, hb, hml, hown, hts⟩ (m_X3_setPrice l D ca ad hj (k + 4) (q_car hk).2.1 a1 (v29 + q4.2) S26 _ h30 H.size) (cwV 2 hts gX0_joinFirsts_X3_setPrice rfl rfl rfl (by decide +kernel) ⟨Nat.le_of_ble_eq_true rfl, Nat.le_of_ble_eq_true rfl⟩) (r_preV hKK hP (q_car hk).2.1 rfl) rfl rfl hl.1 rfl (lv_room (Nat.le_of_ble_eq_true rfl)) dX0_joinFirsts_114 ⟨Nat.le_of_ble_eq_true rfl, Nat.le_of_ble_eq_true rfl⟩) (fun H locs hP hS => ?_)
            obtain rfl := Option.some.inj hf
            exact r_vret hx hb hr hP hS dX0_joinFirsts_117 hlocks
          · have hf := if_t w hf
            refine lv_iconst (v := (-1)) hx hb dX0_joinFirsts_100 (by decide) ?_
            refine lv_goto (tgt := 114) hx hb dX0_joinFirsts_101 (by decide) ?_
            obtain ⟨S33, h32, hf⟩ := bd_e hf
            refine r_cv hS (va_runV (As := [.int a1, .int (-1)]) (rest := []) ⟨hx, hb, hml, hown, hts⟩ (m_X3_setPrice l D ca ad hj (k + 4) (q_car hk).2.1 a1 (-1) S26 _ h32 H.size) (cwV 2 hts gX0_joinFirsts_X3_setPrice rfl rfl rfl (by decide +kernel) ⟨Nat.le_of_ble_eq_true rfl, Nat.le_of_ble_eq_true rfl⟩) (r_preV hKK hP (q_car hk).2.1 rfl) rfl rfl hl.1 rfl (lv_room (Nat.le_of_ble_eq_true rfl)) dX0_joinFirsts_114 ⟨Nat.le_of_ble_eq_true rfl, Nat.le_of_ble_eq_true rfl⟩) (fun H locs hP hS => ?_)
            obtain rfl := Option.some.inj hf
            exact r_vret hx hb hr hP hS dX0_joinFirsts_117 hlocks
    replace hf := hq4
    have L1 : ∀ (fuel : Nat) (v1 : Int32) (v2 : Int32) (v3 : Int32), lp_X0_joinFirsts_10 k a1 S fuel v1 v2 v3 = some q4 → ∀ (H : Heap) (locs : List Loc) (ls : Array Slot), va_P D vwCl (wd ca ad S) H → va_S (Aq ad s.heap.size) s.heap H locs → lv_has ls 6 [(0, .ref (ad k)), (1, .int a1), (2, .int v1), (3, .int v2), (4, .int v3)] → W p l e rm_X0_joinFirsts s m args below meth c H locs 0 0 (Zv below D ca ad args s o) (F0 m 10 ls []) := by
      intro fuel
      induction fuel with
      | zero =>
        intro v1 v2 v3 hf
        simp [lp_X0_joinFirsts_10] at hf
      | succ fuel ih =>
        intro v1 v2 v3 hf H locs ls hP hS hl
        rw [lp_X0_joinFirsts_10] at hf
        refine lv_iload hx hb dX0_joinFirsts_10 (lv_at hl 4 rfl) ?_
        refine lv_bipush (v := 50) hx hb dX0_joinFirsts_12 (by decide) ?_
        refine lv_icmp_gt (tgt := 68) hx hb dX0_joinFirsts_14 (by decide) (fun w => ?_) (fun w => ?_)
        · have hf := if_t w hf
          obtain rfl := Option.some.inj hf
          exact J1 _ _ _ hP hS (lv_sub hl [0, 1, 2, 3] rfl)
        · have hf := if_f w hf
          refine lv_aload_n hx hb dX0_joinFirsts_17 rfl (lv_at hl 0 rfl) ?_
          refine lv_iload hx hb dX0_joinFirsts_18 (lv_at hl 4 rfl) ?_
          refine lv_iload_n hx hb dX0_joinFirsts_20 rfl (lv_at hl 1 rfl) ?_
          obtain ⟨v6, h5, hf⟩ := bd_e hf
          refine r_ci hS (va_runV (As := [.int v3, .int a1]) (rest := []) ⟨hx, hb, hml, hown, hts⟩ (m_X0_isTakenAhead l D ca ad hj k hk v3 a1 S _ h5 H.size) (cwV 2 hts gX0_joinFirsts_X0_isTakenAhead rfl rfl rfl (by decide +kernel) ⟨Nat.le_of_ble_eq_true rfl, Nat.le_of_ble_eq_true rfl⟩) (r_preV hKK hP hk rfl) rfl rfl hl.1 rfl (lv_room (Nat.le_of_ble_eq_true rfl)) dX0_joinFirsts_21 ⟨Nat.le_of_ble_eq_true rfl, Nat.le_of_ble_eq_true rfl⟩) (fun H locs hP hS => ?_)
          obtain ⟨q7, hq7, hf⟩ := bd_e hf
          have J2 : ∀ (H : Heap) (locs : List Loc) (ls : Array Slot), va_P D vwCl (wd ca ad S) H → va_S (Aq ad s.heap.size) s.heap H locs → lv_has ls 6 [(0, .ref (ad k)), (1, .int a1), (2, .int v1), (3, .int v2), (4, .int v3)] → W p l e rm_X0_joinFirsts s m args below meth c H locs 0 0 (Zv below D ca ad args s o) (F0 m 44 ls [.int q7]) := by
            intro H locs ls hP hS hl
            refine lv_istore (lv' := [(5, .int q7), (0, .ref (ad k)), (1, .int a1), (2, .int v1), (3, .int v2), (4, .int v3)]) hx hb dX0_joinFirsts_44 hl (by decide) rfl (fun ls hl => ?_)
            refine lv_iload hx hb dX0_joinFirsts_46 (lv_at hl 0 rfl) ?_
            refine lv_iconst (v := (-1)) hx hb dX0_joinFirsts_48 (by decide) ?_
            refine lv_icmp_eq (tgt := 62) hx hb dX0_joinFirsts_49 (by decide) (fun w => ?_) (fun w => ?_)
            · have hf := if_t w hf
              refine lv_iinc (v := (v3 + 1)) (lv' := [(4, .int (v3 + 1)), (5, .int q7), (0, .ref (ad k)), (1, .int a1), (2, .int v1), (3, .int v2)]) hx hb dX0_joinFirsts_62 hl (k := 5) rfl rfl (by decide) rfl (fun ls hl => ?_)
              refine lv_goto (tgt := 10) hx hb dX0_joinFirsts_65 (by decide) ?_
              exact ih _ _ _ hf _ _ _ hP hS (lv_sub hl [2, 3, 4, 5, 0] rfl)
            · have hf := if_f w hf
              refine lv_iinc (v := (v1 + 1)) (lv' := [(2, .int (v1 + 1)), (5, .int q7), (0, .ref (ad k)), (1, .int a1), (3, .int v2), (4, .int v3)]) hx hb dX0_joinFirsts_52 hl (k := 3) rfl rfl (by decide) rfl (fun ls hl => ?_)
              refine lv_iload_n hx hb dX0_joinFirsts_55 rfl (lv_at hl 4 rfl) ?_
              refine lv_iload hx hb dX0_joinFirsts_56 (lv_at hl 1 rfl) ?_
              obtain ⟨v13, h12, hf⟩ := bd_e hf
              refine r_ci hS (va_runSN (As := [.int v2, .int q7]) (rest := []) ⟨hx, hb, hml, hown, hts⟩ (m_X5_cheaper l D ca ad hj v2 q7 S _ h12 H.size) ⟨va_cnB 2 hts ggX0_joinFirsts_X5_cheaper rfl rfl rfl (hKK.2 _ (List.mem_of_getElem? (i := 3) rfl)) (hts _ (List.mem_cons_of_mem _ (List.mem_append_left _ (List.mem_append_left _ (List.mem_append_right _ (List.mem_of_getElem? (i := 0) rfl)))))) (by decide +kernel) ⟨Nat.le_of_ble_eq_true rfl, Nat.le_of_ble_eq_true rfl⟩, hts _ (List.mem_cons_of_mem _ (List.mem_append_left _ (List.mem_append_left _ (List.mem_append_left _ (List.mem_of_getElem? (i := 23) rfl))))), trivial⟩ (r_pre hKK hP) rfl rfl hl.1 rfl (lv_room (Nat.le_of_ble_eq_true rfl)) dX0_joinFirsts_58 ⟨Nat.le_of_ble_eq_true rfl, Nat.le_of_ble_eq_true rfl⟩) (fun H locs hP hS => ?_)
              refine lv_istore_n (lv' := [(3, .int v13), (2, .int (v1 + 1)), (5, .int q7), (0, .ref (ad k)), (1, .int a1), (4, .int v3)]) hx hb dX0_joinFirsts_61 rfl hl (by decide) rfl (fun ls hl => ?_)
              refine lv_iinc (v := (v3 + 1)) (lv' := [(4, .int (v3 + 1)), (3, .int v13), (2, .int (v1 + 1)), (5, .int q7), (0, .ref (ad k)), (1, .int a1)]) hx hb dX0_joinFirsts_62 hl (k := 5) rfl rfl (by decide) rfl (fun ls hl => ?_)
              refine lv_goto (tgt := 10) hx hb dX0_joinFirsts_65 (by decide) ?_
              exact ih _ _ _ hf _ _ _ hP hS (lv_sub hl [4, 5, 2, 1, 0] rfl)
          replace hf := hq7
          refine lv_if_eq (tgt := 43) hx hb dX0_joinFirsts_24 (by decide) (fun w => ?_) (fun w => ?_)
          · have hf := if_t w hf
            refine lv_iconst (v := (-1)) hx hb dX0_joinFirsts_43 (by decide) ?_
            obtain rfl := Option.some.inj hf
            exact J2 _ _ _ hP hS (lv_sub hl [0, 1, 2, 3, 4] rfl)
          · have hf := if_f w hf
            refine lv_aload_n hx hb dX0_joinFirsts_27 rfl (lv_at hl 0 rfl) ?_
            refine g_X0_first hx hb hX0 hown hKK hP hk K18 dX0_joinFirsts_28 ?_
            refine lv_iload hx hb dX0_joinFirsts_31 (lv_at hl 4 rfl) ?_
            refine lv_iload_n hx hb dX0_joinFirsts_33 rfl (lv_at hl 1 rfl) ?_
            obtain ⟨v9, h8, hf⟩ := bd_e hf
            refine r_ci hS (va_runS (As := [.int v3, .int a1]) (rest := [.ref (ad (k + 1))]) ⟨hx, hb, hml, hown, hts⟩ (m_X0_firstFor l D ca ad hj v3 a1 S _ h8 H.size) (cwS 2 hts gX0_joinFirsts_X0_firstFor rfl rfl rfl (by decide +kernel) ⟨Nat.le_of_ble_eq_true rfl, Nat.le_of_ble_eq_true rfl⟩) (r_pre hKK hP) rfl rfl hl.1 rfl (lv_room (Nat.le_of_ble_eq_true rfl)) dX0_joinFirsts_34 ⟨Nat.le_of_ble_eq_true rfl, Nat.le_of_ble_eq_true rfl⟩) (fun H locs hP hS => ?_)
            obtain ⟨v11, h10, hf⟩ := bd_e hf
            refine r_ci hS (va_runV (As := [.int v9]) (rest := []) ⟨hx, hb, hml, hown, hts⟩ (m_X3_priceOf l D ca ad hj (k + 1) (q_car hk).1 v9 S _ h10 H.size) (cwV 1 hts gX0_joinFirsts_X3_priceOf rfl rfl rfl (by decide +kernel) ⟨Nat.le_of_ble_eq_true rfl, Nat.le_of_ble_eq_true rfl⟩) (r_preV hKK hP (q_car hk).1 rfl) rfl rfl hl.1 rfl (lv_room (Nat.le_of_ble_eq_true rfl)) dX0_joinFirsts_37 ⟨Nat.le_of_ble_eq_true rfl, Nat.le_of_ble_eq_true rfl⟩) (fun H locs hP hS => ?_)
            refine lv_goto (tgt := 44) hx hb dX0_joinFirsts_40 (by decide) ?_
            obtain rfl := Option.some.inj hf
            exact J2 _ _ _ hP hS (lv_sub hl [0, 1, 2, 3, 4] rfl)
    exact L1 _ _ _ _ hf _ _ _ hP hS (lv_sub hl [3, 4, 2, 1, 0] rfl)
  exact main s.heap [] ls hP va_S.rf hl
def lp_X0_settle_3 (k : Nat) : Nat → Int32 → QS → Option (QS)
  | 0, _, _ => none
  | fuel + 1, v1, S2 => (if 50 < v1 then (some S2)
else (((if (S2.1 k 9) = 0 then (some S2)
else ((f_X0_isTakenBehind k v1 S2).bind fun v6 =>
if v6 = 0 then ((f_X3_setPrice (k + 7) v1 (-1) S2).bind fun S8 =>
some S8)
else (some S2))) : Option (QS)).bind fun q4 =>
(f_X3_isOpen (k + 4) v1 q4).bind fun v10 =>
if v10 = 0 then (lp_X0_settle_3 k fuel (v1 + 1) q4)
else ((f_X0_joinFirsts k v1 q4).bind fun S12 =>
lp_X0_settle_3 k fuel (v1 + 1) S12)))
def f_X0_settle (k : Nat) (S : QS) : Option QS :=
(lp_X0_settle_3 k FU (-50) S).bind fun q3 =>
(f_X3_bound (k + 4) q3).bind fun S14 =>
(f_X3_bound (k + 7) S14).bind fun S16 =>
some S16
def rm_X0_settle : Room := { frames := 3, cells := 0, slots := 0, locals := 63 }
set_option maxRecDepth 100000 in
set_option maxHeartbeats 4000000 in
theorem m_X0_settle (l : Launch) (D : va_G) (ca : Nat → ClassId) (ad : Nat → Nat) (hj : Inj ad) (k : Nat) (hk : qk k = 0) (S : QS) (o : QS) (hf : f_X0_settle k S = some o) : Cv l D ca ad yX0_settle wsX0_settle rm_X0_settle [.ref (ad k)] S o := by
  intro sz
  refine Met.ofW (cc := cX0_settle) (maxL := 2) (ret := none) (by decide) rfl ?_
  intro p e s m args below meth c s₁ B hml hv
  obtain ⟨hav, hsz, hP, hKK⟩ := hv
  have hx := B.exec
  have hb := B.bytes
  have hr := B.returns
  have hts := atoms_spec (ws := wsX0_settle) B.pre
  have hown : s.vm.findClass RX0 = some m.cls := findClass_of_methodNamed B.named
  have hlocks := B.notSynchronized
  subst hsz
  have hX0 : ∀ w ∈ wsX00, w.before _ s = true := fun w h => hts w (List.mem_cons_of_mem _ (List.mem_append_left _ (List.mem_append_right _ h)))
  have K22 := hts (Cond.fieldLink RX0 22 "CrashDesk$Car" "at" "LCrashDesk$Speed;") (List.mem_cons_of_mem _ (List.mem_append_left _ (List.mem_append_left _ (List.mem_append_left _ (List.mem_of_getElem? (i := 2) rfl)))))
  have K25 := hts (Cond.fieldLink RX0 25 "CrashDesk$Car" "after" "LCrashDesk$Speed;") (List.mem_cons_of_mem _ (List.mem_append_left _ (List.mem_append_left _ (List.mem_append_left _ (List.mem_of_getElem? (i := 1) rfl)))))
  have K44 := hts (Cond.fieldLink RX0 44 "CrashDesk$Car" "skidsBehind" "Z") (List.mem_cons_of_mem _ (List.mem_append_left _ (List.mem_append_left _ (List.mem_append_left _ (List.mem_of_getElem? (i := 0) rfl)))))
  have hl := lv_entry [.ref (ad k)] (n := 2) (Nat.le_of_ble_eq_true rfl)
  rw [show entryFrame m args 2 = entryFrame m ([.ref (ad k)] : List Value).toArray 2 by rw [hav], lg_entry_eq]
  generalize (lg_sl [.ref (ad k)] ++ List.replicate (2 - (lg_sl [.ref (ad k)]).length) Slot.unset).toArray = ls at hl ⊢
  have hl : lv_has ls 2 [(0, .ref (ad k))] := hl
  have main : ∀ (H : Heap) (locs : List Loc) (ls : Array Slot), va_P D vwCl (wd ca ad S) H → va_S (Aq ad s.heap.size) s.heap H locs → lv_has ls 2 [(0, .ref (ad k))] → W p l e rm_X0_settle s m args below meth c H locs 0 0 (Zv below D ca ad args s o) (F0 m 0 ls []) := by
    intro H locs ls hP hS hl
    unfold f_X0_settle at hf
    refine lv_bipush (v := (-50)) hx hb dX0_settle_0 (by decide) ?_
    refine lv_istore_n (lv' := [(1, .int (-50)), (0, .ref (ad k))]) hx hb dX0_settle_2 rfl hl (by decide) rfl (fun ls hl => ?_)
    obtain ⟨q3, hq3, hf⟩ := bd_e hf
    have J1 : ∀ (H : Heap) (locs : List Loc) (ls : Array Slot), va_P D vwCl (wd ca ad q3) H → va_S (Aq ad s.heap.size) s.heap H locs → lv_has ls 2 [(0, .ref (ad k))] → W p l e rm_X0_settle s m args below meth c H locs 0 0 (Zv below D ca ad args s o) (F0 m 55 ls []) := by
      intro H locs ls hP hS hl
      refine lv_aload_n hx hb dX0_settle_55 rfl (lv_at hl 0 rfl) ?_
      refine g_X0_at hx hb hX0 hown hKK hP hk K22 dX0_settle_56 ?_
      obtain ⟨S14, h13, hf⟩ := bd_e hf
      refine r_cv hS (va_runV (As := []) (rest := []) ⟨hx, hb, hml, hown, hts⟩ (m_X3_bound l D ca ad hj (k + 4) (q_car hk).2.1 q3 _ h13 H.size) (cwV 0 hts gX0_settle_X3_bound rfl rfl rfl (by decide +kernel) ⟨Nat.le_of_ble_eq_true rfl, Nat.le_of_ble_eq_true rfl⟩) (r_preV hKK hP (q_car hk).2.1 rfl) rfl rfl hl.1 rfl (lv_room (Nat.le_of_ble_eq_true rfl)) dX0_settle_59 ⟨Nat.le_of_ble_eq_true rfl, Nat.le_of_ble_eq_true rfl⟩) (fun H locs hP hS => ?_)
      refine lv_aload_n hx hb dX0_settle_62 rfl (lv_at hl 0 rfl) ?_
      refine g_X0_after hx hb hX0 hown hKK hP hk K25 dX0_settle_63 ?_
      obtain ⟨S16, h15, hf⟩ := bd_e hf
      refine r_cv hS (va_runV (As := []) (rest := []) ⟨hx, hb, hml, hown, hts⟩ (m_X3_bound l D ca ad hj (k + 7) (q_car hk).2.2.1 S14 _ h15 H.size) (cwV 0 hts gX0_settle_X3_bound rfl rfl rfl (by decide +kernel) ⟨Nat.le_of_ble_eq_true rfl, Nat.le_of_ble_eq_true rfl⟩) (r_preV hKK hP (q_car hk).2.2.1 rfl) rfl rfl hl.1 rfl (lv_room (Nat.le_of_ble_eq_true rfl)) dX0_settle_66 ⟨Nat.le_of_ble_eq_true rfl, Nat.le_of_ble_eq_true rfl⟩) (fun H locs hP hS => ?_)
      obtain rfl := Option.some.inj hf
      exact r_vret hx hb hr hP hS dX0_settle_69 hlocks
    replace hf := hq3
    have L1 : ∀ (fuel : Nat) (v1 : Int32) (S2 : QS), lp_X0_settle_3 k fuel v1 S2 = some q3 → ∀ (H : Heap) (locs : List Loc) (ls : Array Slot), va_P D vwCl (wd ca ad S2) H → va_S (Aq ad s.heap.size) s.heap H locs → lv_has ls 2 [(0, .ref (ad k)), (1, .int v1)] → W p l e rm_X0_settle s m args below meth c H locs 0 0 (Zv below D ca ad args s o) (F0 m 3 ls []) := by
      intro fuel
      induction fuel with
      | zero =>
        intro v1 S2 hf
        simp [lp_X0_settle_3] at hf
      | succ fuel ih =>
        intro v1 S2 hf H locs ls hP hS hl
        rw [lp_X0_settle_3] at hf
        refine lv_iload_n hx hb dX0_settle_3 rfl (lv_at hl 1 rfl) ?_
        refine lv_bipush (v := 50) hx hb dX0_settle_4 (by decide) ?_
        refine lv_icmp_gt (tgt := 55) hx hb dX0_settle_6 (by decide) (fun w => ?_) (fun w => ?_)
        · have hf := if_t w hf
          obtain rfl := Option.some.inj hf
          exact J1 _ _ _ hP hS (lv_sub hl [0] rfl)
        · have hf := if_f w hf
          refine lv_aload_n hx hb dX0_settle_9 rfl (lv_at hl 0 rfl) ?_
          refine g_X0_skidsBehind hx hb hX0 hown hKK hP hk K44 dX0_settle_10 ?_
          obtain ⟨q4, hq4, hf⟩ := bd_e hf
          have J2 : ∀ (H : Heap) (locs : List Loc) (ls : Array Slot), va_P D vwCl (wd ca ad q4) H → va_S (Aq ad s.heap.size) s.heap H locs → lv_has ls 2 [(0, .ref (ad k)), (1, .int v1)] → W p l e rm_X0_settle s m args below meth c H locs 0 0 (Zv below D ca ad args s o) (F0 m 33 ls []) := by
            intro H locs ls hP hS hl
            refine lv_aload_n hx hb dX0_settle_33 rfl (lv_at hl 0 rfl) ?_
            refine g_X0_at hx hb hX0 hown hKK hP hk K22 dX0_settle_34 ?_
            refine lv_iload_n hx hb dX0_settle_37 rfl (lv_at hl 1 rfl) ?_
            obtain ⟨v10, h9, hf⟩ := bd_e hf
            refine r_ci hS (va_runV (As := [.int v1]) (rest := []) ⟨hx, hb, hml, hown, hts⟩ (m_X3_isOpen l D ca ad hj (k + 4) (q_car hk).2.1 v1 q4 _ h9 H.size) (cwV 1 hts gX0_settle_X3_isOpen rfl rfl rfl (by decide +kernel) ⟨Nat.le_of_ble_eq_true rfl, Nat.le_of_ble_eq_true rfl⟩) (r_preV hKK hP (q_car hk).2.1 rfl) rfl rfl hl.1 rfl (lv_room (Nat.le_of_ble_eq_true rfl)) dX0_settle_38 ⟨Nat.le_of_ble_eq_true rfl, Nat.le_of_ble_eq_true rfl⟩) (fun H locs hP hS => ?_)
            refine lv_if_eq (tgt := 49) hx hb dX0_settle_41 (by decide) (fun w => ?_) (fun w => ?_)
            · have hf := if_t w hf
              refine lv_iinc (v := (v1 + 1)) (lv' := [(1, .int (v1 + 1)), (0, .ref (ad k))]) hx hb dX0_settle_49 hl (k := 1) rfl rfl (by decide) rfl (fun ls hl => ?_)
              refine lv_goto (tgt := 3) hx hb dX0_settle_52 (by decide) ?_
              exact ih _ _ hf _ _ _ hP hS (lv_sub hl [1, 0] rfl)
            · have hf := if_f w hf
              refine lv_aload_n hx hb dX0_settle_44 rfl (lv_at hl 0 rfl) ?_
              refine lv_iload_n hx hb dX0_settle_45 rfl (lv_at hl 1 rfl) ?_
              obtain ⟨S12, h11, hf⟩ := bd_e hf
              refine r_cv hS (va_runV (As := [.int v1]) (rest := []) ⟨hx, hb, hml, hown, hts⟩ (m_X0_joinFirsts l D ca ad hj k hk v1 q4 _ h11 H.size) (cwV 1 hts gX0_settle_X0_joinFirsts rfl rfl rfl (by decide +kernel) ⟨Nat.le_of_ble_eq_true rfl, Nat.le_of_ble_eq_true rfl⟩) (r_preV hKK hP hk rfl) rfl rfl hl.1 rfl (lv_room (Nat.le_of_ble_eq_true rfl)) dX0_settle_46 ⟨Nat.le_of_ble_eq_true rfl, Nat.le_of_ble_eq_true rfl⟩) (fun H locs hP hS => ?_)
              refine lv_iinc (v := (v1 + 1)) (lv' := [(1, .int (v1 + 1)), (0, .ref (ad k))]) hx hb dX0_settle_49 hl (k := 1) rfl rfl (by decide) rfl (fun ls hl => ?_)
              refine lv_goto (tgt := 3) hx hb dX0_settle_52 (by decide) ?_
              exact ih _ _ hf _ _ _ hP hS (lv_sub hl [1, 0] rfl)
          replace hf := hq4
          refine lv_if_eq (tgt := 33) hx hb dX0_settle_13 (by decide) (fun w => ?_) (fun w => ?_)
          · have hf := if_t w hf
            obtain rfl := Option.some.inj hf
            exact J2 _ _ _ hP hS (lv_sub hl [0, 1] rfl)
          · have hf := if_f w hf
            refine lv_aload_n hx hb dX0_settle_16 rfl (lv_at hl 0 rfl) ?_
            refine lv_iload_n hx hb dX0_settle_17 rfl (lv_at hl 1 rfl) ?_
            obtain ⟨v6, h5, hf⟩ := bd_e hf
            refine r_ci hS (va_runV (As := [.int v1]) (rest := []) ⟨hx, hb, hml, hown, hts⟩ (m_X0_isTakenBehind l D ca ad hj k hk v1 S2 _ h5 H.size) (cwV 1 hts gX0_settle_X0_isTakenBehind rfl rfl rfl (by decide +kernel) ⟨Nat.le_of_ble_eq_true rfl, Nat.le_of_ble_eq_true rfl⟩) (r_preV hKK hP hk rfl) rfl rfl hl.1 rfl (lv_room (Nat.le_of_ble_eq_true rfl)) dX0_settle_18 ⟨Nat.le_of_ble_eq_true rfl, Nat.le_of_ble_eq_true rfl⟩) (fun H locs hP hS => ?_)
            refine lv_if_ne (tgt := 33) hx hb dX0_settle_21 (by decide) (fun w => ?_) (fun w => ?_)
            · have hf := if_f w hf
              obtain rfl := Option.some.inj hf
              exact J2 _ _ _ hP hS (lv_sub hl [0, 1] rfl)
            · have hf := if_t w hf
              refine lv_aload_n hx hb dX0_settle_24 rfl (lv_at hl 0 rfl) ?_
              refine g_X0_after hx hb hX0 hown hKK hP hk K25 dX0_settle_25 ?_
              refine lv_iload_n hx hb dX0_settle_28 rfl (lv_at hl 1 rfl) ?_
              refine lv_iconst (v := (-1)) hx hb dX0_settle_29 (by decide) ?_
              obtain ⟨S8, h7, hf⟩ := bd_e hf
              refine r_cv hS (va_runV (As := [.int v1, .int (-1)]) (rest := []) ⟨hx, hb, hml, hown, hts⟩ (m_X3_setPrice l D ca ad hj (k + 7) (q_car hk).2.2.1 v1 (-1) S2 _ h7 H.size) (cwV 2 hts gX0_settle_X3_setPrice rfl rfl rfl (by decide +kernel) ⟨Nat.le_of_ble_eq_true rfl, Nat.le_of_ble_eq_true rfl⟩) (r_preV hKK hP (q_car hk).2.2.1 rfl) rfl rfl hl.1 rfl (lv_room (Nat.le_of_ble_eq_true rfl)) dX0_settle_30 ⟨Nat.le_of_ble_eq_true rfl, Nat.le_of_ble_eq_true rfl⟩) (fun H locs hP hS => ?_)
              obtain rfl := Option.some.inj hf
              exact J2 _ _ _ hP hS (lv_sub hl [0, 1] rfl)
    exact L1 _ _ _ hf _ _ _ hP hS (lv_sub hl [1, 0] rfl)
  exact main s.heap [] ls hP va_S.rf hl
def f_X0_firstCount (k : Nat) (a1 : Int32) (S : QS) : Option Int32 :=
if a1 < (-50) then (some 0)
else (if a1 ≤ 50 then ((rdA (k + 10) 101 (a1 - (-50)) S).bind fun v1 =>
some v1)
else (some 0))
def rm_X0_firstCount : Room := { frames := 0, cells := 0, slots := 0, locals := 0 }
set_option maxRecDepth 100000 in
set_option maxHeartbeats 4000000 in
theorem m_X0_firstCount (l : Launch) (D : va_G) (ca : Nat → ClassId) (ad : Nat → Nat) (hj : Inj ad) (k : Nat) (hk : qk k = 0) (a1 : Int32) (S : QS) (o : Int32) (hf : f_X0_firstCount k a1 S = some o) : Ci l D ca ad yX0_firstCount wsX0_firstCount rm_X0_firstCount [.ref (ad k), .int a1] S o S := by
  intro sz
  refine Met.ofW (cc := cX0_firstCount) (maxL := 2) (ret := (some .int)) (by decide) rfl ?_
  intro p e s m args below meth c s₁ B hml hv
  obtain ⟨hav, hsz, hP, hKK⟩ := hv
  have hx := B.exec
  have hb := B.bytes
  have hr := B.returns
  have hts := atoms_spec (ws := wsX0_firstCount) B.pre
  have hown : s.vm.findClass RX0 = some m.cls := findClass_of_methodNamed B.named
  have hlocks := B.notSynchronized
  subst hsz
  have hX0 : ∀ w ∈ wsX00, w.before _ s = true := fun w h => hts w (List.mem_cons_of_mem _ (List.mem_append_right _ h))
  have K28 := hts (Cond.fieldLink RX0 28 "CrashDesk$Car" "firstCounts" "[I") (List.mem_cons_of_mem _ (List.mem_append_left _ (List.mem_of_getElem? (i := 0) rfl)))
  have hl := lv_entry [.ref (ad k), .int a1] (n := 2) (Nat.le_of_ble_eq_true rfl)
  rw [show entryFrame m args 2 = entryFrame m ([.ref (ad k), .int a1] : List Value).toArray 2 by rw [hav], lg_entry_eq]
  generalize (lg_sl [.ref (ad k), .int a1] ++ List.replicate (2 - (lg_sl [.ref (ad k), .int a1]).length) Slot.unset).toArray = ls at hl ⊢
  have hl : lv_has ls 2 [(0, .ref (ad k)), (1, .int a1)] := hl
  have main : ∀ (H : Heap) (locs : List Loc) (ls : Array Slot), va_P D vwCl (wd ca ad S) H → va_S (Aq ad s.heap.size) s.heap H locs → lv_has ls 2 [(0, .ref (ad k)), (1, .int a1)] → W p l e rm_X0_firstCount s m args below meth c H locs 0 0 (Zi below D ca ad args s o S) (F0 m 0 ls []) := by
    intro H locs ls hP hS hl
    unfold f_X0_firstCount at hf
    refine lv_iload_n hx hb dX0_firstCount_0 rfl (lv_at hl 1 rfl) ?_
    refine lv_bipush (v := (-50)) hx hb dX0_firstCount_1 (by decide) ?_
    refine lv_icmp_lt (tgt := 12) hx hb dX0_firstCount_3 (by decide) (fun w => ?_) (fun w => ?_)
    · have hf := if_t w hf
      refine lv_iconst (v := 0) hx hb dX0_firstCount_12 (by decide) ?_
      refine lv_goto (tgt := 25) hx hb dX0_firstCount_13 (by decide) ?_
      obtain rfl := Option.some.inj hf
      exact r_iret hx hb hr hP hS dX0_firstCount_25 hlocks
    · have hf := if_f w hf
      refine lv_iload_n hx hb dX0_firstCount_6 rfl (lv_at hl 1 rfl) ?_
      refine lv_bipush (v := 50) hx hb dX0_firstCount_7 (by decide) ?_
      refine lv_icmp_le (tgt := 16) hx hb dX0_firstCount_9 (by decide) (fun w => ?_) (fun w => ?_)
      · have hf := if_t w hf
        refine lv_aload_n hx hb dX0_firstCount_16 rfl (lv_at hl 0 rfl) ?_
        refine g_X0_firstCounts hx hb hX0 hown hKK hP hk K28 dX0_firstCount_17 ?_
        refine lv_iload_n hx hb dX0_firstCount_20 rfl (lv_at hl 1 rfl) ?_
        refine lv_bipush (v := (-50)) hx hb dX0_firstCount_21 (by decide) ?_
        refine lv_isub hx hb dX0_firstCount_23 ?_
        obtain ⟨v1, h2, hf⟩ := bd_e hf
        refine r_iald hx hb hKK hP (q_car hk).2.2.2.1 (q_car hk).2.2.2.2 h2 dX0_firstCount_24 ?_
        obtain rfl := Option.some.inj hf
        exact r_iret hx hb hr hP hS dX0_firstCount_25 hlocks
      · have hf := if_f w hf
        refine lv_iconst (v := 0) hx hb dX0_firstCount_12 (by decide) ?_
        refine lv_goto (tgt := 25) hx hb dX0_firstCount_13 (by decide) ?_
        obtain rfl := Option.some.inj hf
        exact r_iret hx hb hr hP hS dX0_firstCount_25 hlocks
  exact main s.heap [] ls hP va_S.rf hl
def lp_X0_seeFirsts_24 (k : Nat) (v1 : Int32) : Nat → Int32 → QS → Option (QS)
  | 0, _, _ => none
  | fuel + 1, v3, S4 => ((f_X3_isSeen (k + 4) v1 S4).bind fun v7 =>
if v7 = 0 then (some S4)
else (if 50 < v3 then (some S4)
else ((f_X0_isTakenAhead k v3 v1 S4).bind fun v9 =>
if v9 = 0 then (lp_X0_seeFirsts_24 k v1 fuel (v3 + 1) S4)
else ((f_X0_firstFor v3 v1).bind fun v11 =>
(f_X3_isOpen (k + 1) v11 S4).bind fun v13 =>
if v13 = 0 then (lp_X0_seeFirsts_24 k v1 fuel (v3 + 1) S4)
else ((f_X0_firstFor v3 v1).bind fun v15 =>
(f_X3_see (k + 1) v15 S4).bind fun S17 =>
lp_X0_seeFirsts_24 k v1 fuel (v3 + 1) S17)))))
def lp_X0_seeFirsts_8 (k : Nat) : Nat → Int32 → QS → Option QS
  | 0, _, _ => none
  | fuel + 1, v1, S2 => (if (S2.1 (k + 4) 3) < v1 then (some S2)
else ((lp_X0_seeFirsts_24 k v1 FU (if 0 ≤ v1 then v1 else 0 - v1) S2).bind fun q5 =>
lp_X0_seeFirsts_8 k fuel (v1 + 1) q5))
def f_X0_seeFirsts (k : Nat) (S : QS) : Option QS :=
lp_X0_seeFirsts_8 k FU (S.1 (k + 4) 2) S
def rm_X0_seeFirsts : Room := { frames := 2, cells := 0, slots := 0, locals := 42 }
set_option maxRecDepth 100000 in
set_option maxHeartbeats 4000000 in
theorem m_X0_seeFirsts (l : Launch) (D : va_G) (ca : Nat → ClassId) (ad : Nat → Nat) (hj : Inj ad) (k : Nat) (hk : qk k = 0) (S : QS) (o : QS) (hf : f_X0_seeFirsts k S = some o) : Cv l D ca ad yX0_seeFirsts wsX0_seeFirsts rm_X0_seeFirsts [.ref (ad k)] S o := by
  intro sz
  refine Met.ofW (cc := cX0_seeFirsts) (maxL := 3) (ret := none) (by decide) rfl ?_
  intro p e s m args below meth c s₁ B hml hv
  obtain ⟨hav, hsz, hP, hKK⟩ := hv
  have hx := B.exec
  have hb := B.bytes
  have hr := B.returns
  have hts := atoms_spec (ws := wsX0_seeFirsts) B.pre
  have hown : s.vm.findClass RX0 = some m.cls := findClass_of_methodNamed B.named
  have hlocks := B.notSynchronized
  subst hsz
  have hX0 : ∀ w ∈ wsX00, w.before _ s = true := fun w h => hts w (List.mem_cons_of_mem _ (List.mem_append_left _ (List.mem_append_right _ h)))
  have hX3 : ∀ w ∈ wsX30, w.before _ s = true := fun w h => hts w (List.mem_cons_of_mem _ (List.mem_append_right _ h))
  have K18 := hts (Cond.fieldLink RX0 18 "CrashDesk$Car" "first" "LCrashDesk$Speed;") (List.mem_cons_of_mem _ (List.mem_append_left _ (List.mem_append_left _ (List.mem_append_left _ (List.mem_of_getElem? (i := 7) rfl)))))
  have K22 := hts (Cond.fieldLink RX0 22 "CrashDesk$Car" "at" "LCrashDesk$Speed;") (List.mem_cons_of_mem _ (List.mem_append_left _ (List.mem_append_left _ (List.mem_append_left _ (List.mem_of_getElem? (i := 0) rfl)))))
  have K80 := hts (Cond.fieldLink RX0 80 "CrashDesk$Speed" "bottom" "I") (List.mem_cons_of_mem _ (List.mem_append_left _ (List.mem_append_left _ (List.mem_append_left _ (List.mem_of_getElem? (i := 1) rfl)))))
  have K83 := hts (Cond.fieldLink RX0 83 "CrashDesk$Speed" "top" "I") (List.mem_cons_of_mem _ (List.mem_append_left _ (List.mem_append_left _ (List.mem_append_left _ (List.mem_of_getElem? (i := 2) rfl)))))
  have K86 := hts (Cond.methodLink RX0 86 Lib.Math.abs.name) (List.mem_cons_of_mem _ (List.mem_append_left _ (List.mem_append_left _ (List.mem_append_left _ (List.mem_of_getElem? (i := 3) rfl)))))
  have hl := lv_entry [.ref (ad k)] (n := 3) (Nat.le_of_ble_eq_true rfl)
  rw [show entryFrame m args 3 = entryFrame m ([.ref (ad k)] : List Value).toArray 3 by rw [hav], lg_entry_eq]
  generalize (lg_sl [.ref (ad k)] ++ List.replicate (3 - (lg_sl [.ref (ad k)]).length) Slot.unset).toArray = ls at hl ⊢
  have hl : lv_has ls 3 [(0, .ref (ad k))] := hl
  have main : ∀ (H : Heap) (locs : List Loc) (ls : Array Slot), va_P D vwCl (wd ca ad S) H → va_S (Aq ad s.heap.size) s.heap H locs → lv_has ls 3 [(0, .ref (ad k))] → W p l e rm_X0_seeFirsts s m args below meth c H locs 0 0 (Zv below D ca ad args s o) (F0 m 0 ls []) := by
    intro H locs ls hP hS hl
    unfold f_X0_seeFirsts at hf
    refine lv_aload_n hx hb dX0_seeFirsts_0 rfl (lv_at hl 0 rfl) ?_
    refine g_X0_at hx hb hX0 hown hKK hP hk K22 dX0_seeFirsts_1 ?_
    refine g_X3_bottom hx hb hX3 hown hKK hP (q_car hk).2.1 K80 dX0_seeFirsts_4 ?_
    refine lv_istore_n (lv' := [(1, .int (S.1 (k + 4) 2)), (0, .ref (ad k))]) hx hb dX0_seeFirsts_7 rfl hl (by decide) rfl (fun ls hl => ?_)
    have L1 : ∀ (fuel : Nat) (v1 : Int32) (S2 : QS), lp_X0_seeFirsts_8 k fuel v1 S2 = some o → ∀ (H : Heap) (locs : List Loc) (ls : Array Slot), va_P D vwCl (wd ca ad S2) H → va_S (Aq ad s.heap.size) s.heap H locs → lv_has ls 3 [(0, .ref (ad k)), (1, .int v1)] → W p l e rm_X0_seeFirsts s m args below meth c H locs 0 0 (Zv below D ca ad args s o) (F0 m 8 ls []) := by
      intro fuel
      induction fuel with
      | zero =>
        intro v1 S2 hf
        simp [lp_X0_seeFirsts_8] at hf
      | succ fuel ih =>
        intro v1 S2 hf H locs ls hP hS hl
        rw [lp_X0_seeFirsts_8] at hf
        refine lv_iload_n hx hb dX0_seeFirsts_8 rfl (lv_at hl 1 rfl) ?_
        refine lv_aload_n hx hb dX0_seeFirsts_9 rfl (lv_at hl 0 rfl) ?_
        refine g_X0_at hx hb hX0 hown hKK hP hk K22 dX0_seeFirsts_10 ?_
        refine g_X3_top hx hb hX3 hown hKK hP (q_car hk).2.1 K83 dX0_seeFirsts_13 ?_
        refine lv_icmp_gt (tgt := 89) hx hb dX0_seeFirsts_16 (by decide) (fun w => ?_) (fun w => ?_)
        · have hf := if_t w hf
          obtain rfl := Option.some.inj hf
          exact r_vret hx hb hr hP hS dX0_seeFirsts_89 hlocks
        · have hf := if_f w hf
          refine lv_iload_n hx hb dX0_seeFirsts_19 rfl (lv_at hl 1 rfl) ?_
          refine va_mabs hx hb (hml.trans hl.1.symm) hown K86 (hts _ (List.mem_cons_of_mem _ (List.mem_append_left _ (List.mem_append_left _ (List.mem_append_left _ (List.mem_of_getElem? (i := 4) rfl)))))) (hts _ (List.mem_cons_of_mem _ (List.mem_append_left _ (List.mem_append_left _ (List.mem_append_left _ (List.mem_of_getElem? (i := 5) rfl)))))) (hts _ (List.mem_cons_of_mem _ (List.mem_append_left _ (List.mem_append_left _ (List.mem_append_left _ (List.mem_of_getElem? (i := 6) rfl)))))) (Nat.le_of_ble_eq_true rfl) (Nat.le_of_ble_eq_true rfl) (Nat.le_of_ble_eq_true rfl) (Nat.le_of_ble_eq_true rfl) dX0_seeFirsts_20 ?_
          refine lv_istore_n (lv' := [(2, .int (if 0 ≤ v1 then v1 else 0 - v1)), (0, .ref (ad k)), (1, .int v1)]) hx hb dX0_seeFirsts_23 rfl hl (by decide) rfl (fun ls hl => ?_)
          obtain ⟨q5, hq5, hf⟩ := bd_e hf
          have J2 : ∀ (H : Heap) (locs : List Loc) (ls : Array Slot), va_P D vwCl (wd ca ad q5) H → va_S (Aq ad s.heap.size) s.heap H locs → lv_has ls 3 [(0, .ref (ad k)), (1, .int v1)] → W p l e rm_X0_seeFirsts s m args below meth c H locs 0 0 (Zv below D ca ad args s o) (F0 m 83 ls []) := by
            intro H locs ls hP hS hl
            refine lv_iinc (v := (v1 + 1)) (lv' := [(1, .int (v1 + 1)), (0, .ref (ad k))]) hx hb dX0_seeFirsts_83 hl (k := 1) rfl rfl (by decide) rfl (fun ls hl => ?_)
            refine lv_goto (tgt := 8) hx hb dX0_seeFirsts_86 (by decide) ?_
            exact ih _ _ hf _ _ _ hP hS (lv_sub hl [1, 0] rfl)
          replace hf := hq5
          have L2 : ∀ (fuel : Nat) (v3 : Int32) (S4 : QS), lp_X0_seeFirsts_24 k v1 fuel v3 S4 = some q5 → ∀ (H : Heap) (locs : List Loc) (ls : Array Slot), va_P D vwCl (wd ca ad S4) H → va_S (Aq ad s.heap.size) s.heap H locs → lv_has ls 3 [(0, .ref (ad k)), (1, .int v1), (2, .int v3)] → W p l e rm_X0_seeFirsts s m args below meth c H locs 0 0 (Zv below D ca ad args s o) (F0 m 24 ls []) := by
            intro fuel
            induction fuel with
            | zero =>
              intro v3 S4 hf
              simp [lp_X0_seeFirsts_24] at hf
            | succ fuel ih =>
              intro v3 S4 hf H locs ls hP hS hl
              rw [lp_X0_seeFirsts_24] at hf
              refine lv_aload_n hx hb dX0_seeFirsts_24 rfl (lv_at hl 0 rfl) ?_
              refine g_X0_at hx hb hX0 hown hKK hP hk K22 dX0_seeFirsts_25 ?_
              refine lv_iload_n hx hb dX0_seeFirsts_28 rfl (lv_at hl 1 rfl) ?_
              obtain ⟨v7, h6, hf⟩ := bd_e hf
              refine r_ci hS (va_runV (As := [.int v1]) (rest := []) ⟨hx, hb, hml, hown, hts⟩ (m_X3_isSeen l D ca ad hj (k + 4) (q_car hk).2.1 v1 S4 _ h6 H.size) (cwV 1 hts gX0_seeFirsts_X3_isSeen rfl rfl rfl (by decide +kernel) ⟨Nat.le_of_ble_eq_true rfl, Nat.le_of_ble_eq_true rfl⟩) (r_preV hKK hP (q_car hk).2.1 rfl) rfl rfl hl.1 rfl (lv_room (Nat.le_of_ble_eq_true rfl)) dX0_seeFirsts_29 ⟨Nat.le_of_ble_eq_true rfl, Nat.le_of_ble_eq_true rfl⟩) (fun H locs hP hS => ?_)
              refine lv_if_eq (tgt := 83) hx hb dX0_seeFirsts_32 (by decide) (fun w => ?_) (fun w => ?_)
              · have hf := if_t w hf
                obtain rfl := Option.some.inj hf
                exact J2 _ _ _ hP hS (lv_sub hl [0, 1] rfl)
              · have hf := if_f w hf
                refine lv_iload_n hx hb dX0_seeFirsts_35 rfl (lv_at hl 2 rfl) ?_
                refine lv_bipush (v := 50) hx hb dX0_seeFirsts_36 (by decide) ?_
                refine lv_icmp_gt (tgt := 83) hx hb dX0_seeFirsts_38 (by decide) (fun w => ?_) (fun w => ?_)
                · have hf := if_t w hf
                  obtain rfl := Option.some.inj hf
                  exact J2 _ _ _ hP hS (lv_sub hl [0, 1] rfl)
                · have hf := if_f w hf
                  refine lv_aload_n hx hb dX0_seeFirsts_41 rfl (lv_at hl 0 rfl) ?_
                  refine lv_iload_n hx hb dX0_seeFirsts_42 rfl (lv_at hl 2 rfl) ?_
                  refine lv_iload_n hx hb dX0_seeFirsts_43 rfl (lv_at hl 1 rfl) ?_
                  obtain ⟨v9, h8, hf⟩ := bd_e hf
                  refine r_ci hS (va_runV (As := [.int v3, .int v1]) (rest := []) ⟨hx, hb, hml, hown, hts⟩ (m_X0_isTakenAhead l D ca ad hj k hk v3 v1 S4 _ h8 H.size) (cwV 2 hts gX0_seeFirsts_X0_isTakenAhead rfl rfl rfl (by decide +kernel) ⟨Nat.le_of_ble_eq_true rfl, Nat.le_of_ble_eq_true rfl⟩) (r_preV hKK hP hk rfl) rfl rfl hl.1 rfl (lv_room (Nat.le_of_ble_eq_true rfl)) dX0_seeFirsts_44 ⟨Nat.le_of_ble_eq_true rfl, Nat.le_of_ble_eq_true rfl⟩) (fun H locs hP hS => ?_)
                  refine lv_if_eq (tgt := 77) hx hb dX0_seeFirsts_47 (by decide) (fun w => ?_) (fun w => ?_)
                  · have hf := if_t w hf
                    refine lv_iinc (v := (v3 + 1)) (lv' := [(2, .int (v3 + 1)), (0, .ref (ad k)), (1, .int v1)]) hx hb dX0_seeFirsts_77 hl (k := 2) rfl rfl (by decide) rfl (fun ls hl => ?_)
                    refine lv_goto (tgt := 24) hx hb dX0_seeFirsts_80 (by decide) ?_
                    exact ih _ _ hf _ _ _ hP hS (lv_sub hl [1, 2, 0] rfl)
                  · have hf := if_f w hf
                    refine lv_aload_n hx hb dX0_seeFirsts_50 rfl (lv_at hl 0 rfl) ?_
                    refine g_X0_first hx hb hX0 hown hKK hP hk K18 dX0_seeFirsts_51 ?_
                    refine lv_iload_n hx hb dX0_seeFirsts_54 rfl (lv_at hl 2 rfl) ?_
                    refine lv_iload_n hx hb dX0_seeFirsts_55 rfl (lv_at hl 1 rfl) ?_
                    obtain ⟨v11, h10, hf⟩ := bd_e hf
                    refine r_ci hS (va_runS (As := [.int v3, .int v1]) (rest := [.ref (ad (k + 1))]) ⟨hx, hb, hml, hown, hts⟩ (m_X0_firstFor l D ca ad hj v3 v1 S4 _ h10 H.size) (cwS 2 hts gX0_seeFirsts_X0_firstFor rfl rfl rfl (by decide +kernel) ⟨Nat.le_of_ble_eq_true rfl, Nat.le_of_ble_eq_true rfl⟩) (r_pre hKK hP) rfl rfl hl.1 rfl (lv_room (Nat.le_of_ble_eq_true rfl)) dX0_seeFirsts_56 ⟨Nat.le_of_ble_eq_true rfl, Nat.le_of_ble_eq_true rfl⟩) (fun H locs hP hS => ?_)
                    obtain ⟨v13, h12, hf⟩ := bd_e hf
                    refine r_ci hS (va_runV (As := [.int v11]) (rest := []) ⟨hx, hb, hml, hown, hts⟩ (m_X3_isOpen l D ca ad hj (k + 1) (q_car hk).1 v11 S4 _ h12 H.size) (cwV 1 hts gX0_seeFirsts_X3_isOpen rfl rfl rfl (by decide +kernel) ⟨Nat.le_of_ble_eq_true rfl, Nat.le_of_ble_eq_true rfl⟩) (r_preV hKK hP (q_car hk).1 rfl) rfl rfl hl.1 rfl (lv_room (Nat.le_of_ble_eq_true rfl)) dX0_seeFirsts_59 ⟨Nat.le_of_ble_eq_true rfl, Nat.le_of_ble_eq_true rfl⟩) (fun H locs hP hS => ?_)
                    refine lv_if_eq (tgt := 77) hx hb dX0_seeFirsts_62 (by decide) (fun w => ?_) (fun w => ?_)
                    · have hf := if_t w hf
                      refine lv_iinc (v := (v3 + 1)) (lv' := [(2, .int (v3 + 1)), (0, .ref (ad k)), (1, .int v1)]) hx hb dX0_seeFirsts_77 hl (k := 2) rfl rfl (by decide) rfl (fun ls hl => ?_)
                      refine lv_goto (tgt := 24) hx hb dX0_seeFirsts_80 (by decide) ?_
                      exact ih _ _ hf _ _ _ hP hS (lv_sub hl [1, 2, 0] rfl)
                    · have hf := if_f w hf
                      refine lv_aload_n hx hb dX0_seeFirsts_65 rfl (lv_at hl 0 rfl) ?_
                      refine g_X0_first hx hb hX0 hown hKK hP hk K18 dX0_seeFirsts_66 ?_
                      refine lv_iload_n hx hb dX0_seeFirsts_69 rfl (lv_at hl 2 rfl) ?_
                      refine lv_iload_n hx hb dX0_seeFirsts_70 rfl (lv_at hl 1 rfl) ?_
                      obtain ⟨v15, h14, hf⟩ := bd_e hf
                      refine r_ci hS (va_runS (As := [.int v3, .int v1]) (rest := [.ref (ad (k + 1))]) ⟨hx, hb, hml, hown, hts⟩ (m_X0_firstFor l D ca ad hj v3 v1 S4 _ h14 H.size) (cwS 2 hts gX0_seeFirsts_X0_firstFor rfl rfl rfl (by decide +kernel) ⟨Nat.le_of_ble_eq_true rfl, Nat.le_of_ble_eq_true rfl⟩) (r_pre hKK hP) rfl rfl hl.1 rfl (lv_room (Nat.le_of_ble_eq_true rfl)) dX0_seeFirsts_71 ⟨Nat.le_of_ble_eq_true rfl, Nat.le_of_ble_eq_true rfl⟩) (fun H locs hP hS => ?_)
                      obtain ⟨S17, h16, hf⟩ := bd_e hf
                      refine r_cv hS (va_runV (As := [.int v15]) (rest := []) ⟨hx, hb, hml, hown, hts⟩ (m_X3_see l D ca ad hj (k + 1) (q_car hk).1 v15 S4 _ h16 H.size) (cwV 1 hts gX0_seeFirsts_X3_see rfl rfl rfl (by decide +kernel) ⟨Nat.le_of_ble_eq_true rfl, Nat.le_of_ble_eq_true rfl⟩) (r_preV hKK hP (q_car hk).1 rfl) rfl rfl hl.1 rfl (lv_room (Nat.le_of_ble_eq_true rfl)) dX0_seeFirsts_74 ⟨Nat.le_of_ble_eq_true rfl, Nat.le_of_ble_eq_true rfl⟩) (fun H locs hP hS => ?_)
                      refine lv_iinc (v := (v3 + 1)) (lv' := [(2, .int (v3 + 1)), (0, .ref (ad k)), (1, .int v1)]) hx hb dX0_seeFirsts_77 hl (k := 2) rfl rfl (by decide) rfl (fun ls hl => ?_)
                      refine lv_goto (tgt := 24) hx hb dX0_seeFirsts_80 (by decide) ?_
                      exact ih _ _ hf _ _ _ hP hS (lv_sub hl [1, 2, 0] rfl)
          exact L2 _ _ _ hf _ _ _ hP hS (lv_sub hl [1, 2, 0] rfl)
    exact L1 _ _ _ hf _ _ _ hP hS (lv_sub hl [1, 0] rfl)
  exact main s.heap [] ls hP va_S.rf hl
end
section
theorem dX1_pick_0 : decode cX1_pick 0 = .ok (.iload_n 1, 1) := by decide +kernel
theorem dX1_pick_1 : decode cX1_pick 1 = .ok (.ifCond .ne 10, 3) := by decide +kernel
theorem dX1_pick_4 : decode cX1_pick 4 = .ok (.aload_n 0, 1) := by decide +kernel
theorem dX1_pick_5 : decode cX1_pick 5 = .ok (.getfield 12, 3) := by decide +kernel
theorem dX1_pick_8 : decode cX1_pick 8 = .ok (.goto 7, 3) := by decide +kernel
theorem dX1_pick_11 : decode cX1_pick 11 = .ok (.aload_n 0, 1) := by decide +kernel
theorem dX1_pick_12 : decode cX1_pick 12 = .ok (.getfield 18, 3) := by decide +kernel
theorem dX1_pick_15 : decode cX1_pick 15 = .ok (.areturn, 1) := by decide +kernel
set_option maxRecDepth 20000 in
theorem ggX1_reckon_X1_lowestShare : GoodIn wsX1_reckon wsX1_lowestShare := goodIn_r _ [14] (by decide +kernel) (by decide +kernel)
set_option maxRecDepth 20000 in
theorem gX1_reckon_X1_lowestShare : GoodIn wsX1_reckon (va_wsS RX1 38 yX1_lowestShare wsX1_lowestShare) := goodIn_app (goodIn_of _ (by decide +kernel)) ggX1_reckon_X1_lowestShare
set_option maxRecDepth 20000 in
theorem ggX1_reckon_X0_settle : GoodIn wsX1_reckon wsX0_settle := goodIn_r _ [19, 20, 21, 22, 23, 24, 25, 18, 26, 27, 28, 29, 30, 31, 32, 33, 34, 35, 36, 37, 38, 39, 40, 41, 42, 43, 44, 45, 46, 47, 48, 49, 50, 51, 52, 53, 54, 55, 56, 57, 58, 59, 60, 61, 62, 63, 64, 65, 66, 67, 68, 69, 70, 71, 72, 73, 74, 75, 117, 118, 119, 120, 121, 122, 123, 124, 125, 126, 127, 128, 129, 130, 131, 132] (by decide +kernel) (by decide +kernel)
set_option maxRecDepth 20000 in
theorem gX1_reckon_X0_settle : GoodIn wsX1_reckon (wsV RX1 42 RX0 yX0_settle wsX0_settle) := goodIn_app (goodIn_of _ (by decide +kernel)) ggX1_reckon_X0_settle
set_option maxRecDepth 20000 in
theorem ggX1_reckon_X3_isOpen : GoodIn wsX1_reckon wsX3_isOpen := goodIn_r _ [38, 39, 40, 41, 32, 42, 34, 127, 128, 129, 130, 131, 132] (by decide +kernel) (by decide +kernel)
set_option maxRecDepth 20000 in
theorem gX1_reckon_X3_isOpen : GoodIn wsX1_reckon (wsV RX1 57 RX3 yX3_isOpen wsX3_isOpen) := goodIn_app (goodIn_of _ (by decide +kernel)) ggX1_reckon_X3_isOpen
set_option maxRecDepth 20000 in
theorem ggX1_reckon_X1_pushFrom : GoodIn wsX1_reckon wsX1_pushFrom := goodIn_r _ [80, 6, 5, 81, 9, 76, 36, 37, 32, 38, 39, 40, 41, 42, 34, 82, 83, 84, 13, 85, 7, 3, 8, 86, 87, 49, 88, 10, 89, 73, 74, 1, 2, 63, 64, 65, 90, 91, 92, 93, 94, 95, 96, 97, 18, 98, 52, 99, 111, 112, 113, 114, 115, 116, 117, 118, 119, 120, 121, 122, 123, 124, 125, 126, 127, 128, 129, 130, 131, 132] (by decide +kernel) (by decide +kernel)
set_option maxRecDepth 20000 in
theorem gX1_reckon_X1_pushFrom : GoodIn wsX1_reckon (wsV RX1 61 RX1 yX1_pushFrom wsX1_pushFrom) := goodIn_app (goodIn_of _ (by decide +kernel)) ggX1_reckon_X1_pushFrom
set_option maxRecDepth 20000 in
theorem ggX1_reckon_X0_seeFirsts : GoodIn wsX1_reckon wsX0_seeFirsts := goodIn_r _ [103, 22, 104, 105, 47, 48, 49, 50, 51, 106, 107, 108, 32, 109, 94, 53, 54, 55, 18, 56, 57, 58, 59, 60, 61, 35, 36, 37, 38, 39, 40, 41, 42, 34, 110, 91, 92, 93, 117, 118, 119, 120, 121, 122, 123, 124, 125, 126, 127, 128, 129, 130, 131, 132] (by decide +kernel) (by decide +kernel)
set_option maxRecDepth 20000 in
theorem gX1_reckon_X0_seeFirsts : GoodIn wsX1_reckon (wsV RX1 65 RX0 yX0_seeFirsts wsX0_seeFirsts) := goodIn_app (goodIn_of _ (by decide +kernel)) ggX1_reckon_X0_seeFirsts
theorem dX1_reckon_0 : decode cX1_reckon 0 = .ok (.aload_n 0, 1) := by decide +kernel
theorem dX1_reckon_1 : decode cX1_reckon 1 = .ok (.lconst 0, 1) := by decide +kernel
theorem dX1_reckon_2 : decode cX1_reckon 2 = .ok (.putfield 21, 3) := by decide +kernel
theorem dX1_reckon_5 : decode cX1_reckon 5 = .ok (.aload_n 0, 1) := by decide +kernel
theorem dX1_reckon_6 : decode cX1_reckon 6 = .ok (.iconst (-1), 1) := by decide +kernel
theorem dX1_reckon_7 : decode cX1_reckon 7 = .ok (.putfield 25, 3) := by decide +kernel
theorem dX1_reckon_10 : decode cX1_reckon 10 = .ok (.aload_n 0, 1) := by decide +kernel
theorem dX1_reckon_11 : decode cX1_reckon 11 = .ok (.aload_n 0, 1) := by decide +kernel
theorem dX1_reckon_12 : decode cX1_reckon 12 = .ok (.getfield 18, 3) := by decide +kernel
theorem dX1_reckon_15 : decode cX1_reckon 15 = .ok (.getfield 35, 3) := by decide +kernel
theorem dX1_reckon_18 : decode cX1_reckon 18 = .ok (.aload_n 0, 1) := by decide +kernel
theorem dX1_reckon_19 : decode cX1_reckon 19 = .ok (.getfield 12, 3) := by decide +kernel
theorem dX1_reckon_22 : decode cX1_reckon 22 = .ok (.getfield 35, 3) := by decide +kernel
theorem dX1_reckon_25 : decode cX1_reckon 25 = .ok (.invokestatic 38, 3) := by decide +kernel
theorem dX1_reckon_28 : decode cX1_reckon 28 = .ok (.putfield 29, 3) := by decide +kernel
theorem dX1_reckon_31 : decode cX1_reckon 31 = .ok (.aload_n 0, 1) := by decide +kernel
theorem dX1_reckon_32 : decode cX1_reckon 32 = .ok (.aload_n 0, 1) := by decide +kernel
theorem dX1_reckon_33 : decode cX1_reckon 33 = .ok (.getfield 12, 3) := by decide +kernel
theorem dX1_reckon_36 : decode cX1_reckon 36 = .ok (.getfield 35, 3) := by decide +kernel
theorem dX1_reckon_39 : decode cX1_reckon 39 = .ok (.aload_n 0, 1) := by decide +kernel
theorem dX1_reckon_40 : decode cX1_reckon 40 = .ok (.getfield 18, 3) := by decide +kernel
theorem dX1_reckon_43 : decode cX1_reckon 43 = .ok (.getfield 35, 3) := by decide +kernel
theorem dX1_reckon_46 : decode cX1_reckon 46 = .ok (.invokestatic 38, 3) := by decide +kernel
theorem dX1_reckon_49 : decode cX1_reckon 49 = .ok (.putfield 32, 3) := by decide +kernel
theorem dX1_reckon_52 : decode cX1_reckon 52 = .ok (.aload_n 0, 1) := by decide +kernel
theorem dX1_reckon_53 : decode cX1_reckon 53 = .ok (.getfield 12, 3) := by decide +kernel
theorem dX1_reckon_56 : decode cX1_reckon 56 = .ok (.invokevirtual 42, 3) := by decide +kernel
theorem dX1_reckon_59 : decode cX1_reckon 59 = .ok (.aload_n 0, 1) := by decide +kernel
theorem dX1_reckon_60 : decode cX1_reckon 60 = .ok (.getfield 18, 3) := by decide +kernel
theorem dX1_reckon_63 : decode cX1_reckon 63 = .ok (.invokevirtual 42, 3) := by decide +kernel
theorem dX1_reckon_66 : decode cX1_reckon 66 = .ok (.aload_n 0, 1) := by decide +kernel
theorem dX1_reckon_67 : decode cX1_reckon 67 = .ok (.getfield 12, 3) := by decide +kernel
theorem dX1_reckon_70 : decode cX1_reckon 70 = .ok (.getfield 45, 3) := by decide +kernel
theorem dX1_reckon_73 : decode cX1_reckon 73 = .ok (.getfield 49, 3) := by decide +kernel
theorem dX1_reckon_76 : decode cX1_reckon 76 = .ok (.istore_n 1, 1) := by decide +kernel
theorem dX1_reckon_77 : decode cX1_reckon 77 = .ok (.iload_n 1, 1) := by decide +kernel
theorem dX1_reckon_78 : decode cX1_reckon 78 = .ok (.aload_n 0, 1) := by decide +kernel
theorem dX1_reckon_79 : decode cX1_reckon 79 = .ok (.getfield 12, 3) := by decide +kernel
theorem dX1_reckon_82 : decode cX1_reckon 82 = .ok (.getfield 45, 3) := by decide +kernel
theorem dX1_reckon_85 : decode cX1_reckon 85 = .ok (.getfield 54, 3) := by decide +kernel
theorem dX1_reckon_88 : decode cX1_reckon 88 = .ok (.if_icmp .gt 28, 3) := by decide +kernel
theorem dX1_reckon_91 : decode cX1_reckon 91 = .ok (.aload_n 0, 1) := by decide +kernel
theorem dX1_reckon_92 : decode cX1_reckon 92 = .ok (.getfield 12, 3) := by decide +kernel
theorem dX1_reckon_95 : decode cX1_reckon 95 = .ok (.getfield 45, 3) := by decide +kernel
theorem dX1_reckon_98 : decode cX1_reckon 98 = .ok (.iload_n 1, 1) := by decide +kernel
theorem dX1_reckon_99 : decode cX1_reckon 99 = .ok (.invokevirtual 57, 3) := by decide +kernel
theorem dX1_reckon_102 : decode cX1_reckon 102 = .ok (.ifCond .eq 8, 3) := by decide +kernel
theorem dX1_reckon_105 : decode cX1_reckon 105 = .ok (.aload_n 0, 1) := by decide +kernel
theorem dX1_reckon_106 : decode cX1_reckon 106 = .ok (.iload_n 1, 1) := by decide +kernel
theorem dX1_reckon_107 : decode cX1_reckon 107 = .ok (.invokevirtual 61, 3) := by decide +kernel
theorem dX1_reckon_110 : decode cX1_reckon 110 = .ok (.iinc 1 1, 3) := by decide +kernel
theorem dX1_reckon_113 : decode cX1_reckon 113 = .ok (.goto (-36), 3) := by decide +kernel
theorem dX1_reckon_116 : decode cX1_reckon 116 = .ok (.aload_n 0, 1) := by decide +kernel
theorem dX1_reckon_117 : decode cX1_reckon 117 = .ok (.getfield 12, 3) := by decide +kernel
theorem dX1_reckon_120 : decode cX1_reckon 120 = .ok (.invokevirtual 65, 3) := by decide +kernel
theorem dX1_reckon_123 : decode cX1_reckon 123 = .ok (.aload_n 0, 1) := by decide +kernel
theorem dX1_reckon_124 : decode cX1_reckon 124 = .ok (.getfield 18, 3) := by decide +kernel
theorem dX1_reckon_127 : decode cX1_reckon 127 = .ok (.invokevirtual 65, 3) := by decide +kernel
theorem dX1_reckon_130 : decode cX1_reckon 130 = .ok (.return_, 1) := by decide +kernel
theorem dX1_lowestShare_0 : decode cX1_lowestShare 0 = .ok (.bipush 100, 2) := by decide +kernel
theorem dX1_lowestShare_2 : decode cX1_lowestShare 2 = .ok (.istore_n 2, 1) := by decide +kernel
theorem dX1_lowestShare_3 : decode cX1_lowestShare 3 = .ok (.iload_n 2, 1) := by decide +kernel
theorem dX1_lowestShare_4 : decode cX1_lowestShare 4 = .ok (.iconst 1, 1) := by decide +kernel
theorem dX1_lowestShare_5 : decode cX1_lowestShare 5 = .ok (.if_icmp .le 25, 3) := by decide +kernel
theorem dX1_lowestShare_8 : decode cX1_lowestShare 8 = .ok (.iload_n 0, 1) := by decide +kernel
theorem dX1_lowestShare_9 : decode cX1_lowestShare 9 = .ok (.iload_n 2, 1) := by decide +kernel
theorem dX1_lowestShare_10 : decode cX1_lowestShare 10 = .ok (.irem, 1) := by decide +kernel
theorem dX1_lowestShare_11 : decode cX1_lowestShare 11 = .ok (.ifCond .ne 13, 3) := by decide +kernel
theorem dX1_lowestShare_14 : decode cX1_lowestShare 14 = .ok (.iload_n 1, 1) := by decide +kernel
theorem dX1_lowestShare_15 : decode cX1_lowestShare 15 = .ok (.iload_n 2, 1) := by decide +kernel
theorem dX1_lowestShare_16 : decode cX1_lowestShare 16 = .ok (.irem, 1) := by decide +kernel
theorem dX1_lowestShare_17 : decode cX1_lowestShare 17 = .ok (.ifCond .ne 7, 3) := by decide +kernel
theorem dX1_lowestShare_20 : decode cX1_lowestShare 20 = .ok (.iload_n 0, 1) := by decide +kernel
theorem dX1_lowestShare_21 : decode cX1_lowestShare 21 = .ok (.iload_n 2, 1) := by decide +kernel
theorem dX1_lowestShare_22 : decode cX1_lowestShare 22 = .ok (.idiv, 1) := by decide +kernel
theorem dX1_lowestShare_23 : decode cX1_lowestShare 23 = .ok (.ireturn, 1) := by decide +kernel
theorem dX1_lowestShare_24 : decode cX1_lowestShare 24 = .ok (.iinc 2 (-1), 3) := by decide +kernel
theorem dX1_lowestShare_27 : decode cX1_lowestShare 27 = .ok (.goto (-24), 3) := by decide +kernel
theorem dX1_lowestShare_30 : decode cX1_lowestShare 30 = .ok (.iload_n 0, 1) := by decide +kernel
theorem dX1_lowestShare_31 : decode cX1_lowestShare 31 = .ok (.ireturn, 1) := by decide +kernel
set_option maxRecDepth 20000 in
theorem ggX1_pushFrom_X3_isOpen : GoodIn wsX1_pushFrom wsX3_isOpen := goodIn_r _ [9, 10, 11, 12, 8, 13, 14, 64, 65, 66, 67, 68, 69] (by decide +kernel) (by decide +kernel)
set_option maxRecDepth 20000 in
theorem gX1_pushFrom_X3_isOpen : GoodIn wsX1_pushFrom (wsV RX1 57 RX3 yX3_isOpen wsX3_isOpen) := goodIn_app (goodIn_of _ (by decide +kernel)) ggX1_pushFrom_X3_isOpen
set_option maxRecDepth 20000 in
theorem ggX1_pushFrom_X1_meet : GoodIn wsX1_pushFrom wsX1_meet := goodIn_r _ [19, 20, 1, 21, 22, 4, 3, 23, 24, 25, 26, 27, 28, 29, 30, 2, 31, 32, 33, 34, 35, 36, 37, 38, 8, 39, 40, 41, 42, 43, 44, 45, 46, 47, 11, 12, 13, 14, 48, 49, 50, 51, 52, 53, 54, 55, 56, 57, 58, 59, 60, 61, 62, 63, 64, 65, 66, 67, 68, 69] (by decide +kernel) (by decide +kernel)
set_option maxRecDepth 20000 in
theorem gX1_pushFrom_X1_meet : GoodIn wsX1_pushFrom (wsV RX1 71 RX1 yX1_meet wsX1_meet) := goodIn_app (goodIn_of _ (by decide +kernel)) ggX1_pushFrom_X1_meet
theorem dX1_pushFrom_0 : decode cX1_pushFrom 0 = .ok (.iconst 1, 1) := by decide +kernel
theorem dX1_pushFrom_1 : decode cX1_pushFrom 1 = .ok (.istore_n 2, 1) := by decide +kernel
theorem dX1_pushFrom_2 : decode cX1_pushFrom 2 = .ok (.iload_n 2, 1) := by decide +kernel
theorem dX1_pushFrom_3 : decode cX1_pushFrom 3 = .ok (.bipush 101, 2) := by decide +kernel
theorem dX1_pushFrom_5 : decode cX1_pushFrom 5 = .ok (.if_icmp .gt 57, 3) := by decide +kernel
theorem dX1_pushFrom_8 : decode cX1_pushFrom 8 = .ok (.iload_n 1, 1) := by decide +kernel
theorem dX1_pushFrom_9 : decode cX1_pushFrom 9 = .ok (.iload_n 2, 1) := by decide +kernel
theorem dX1_pushFrom_10 : decode cX1_pushFrom 10 = .ok (.aload_n 0, 1) := by decide +kernel
theorem dX1_pushFrom_11 : decode cX1_pushFrom 11 = .ok (.getfield 29, 3) := by decide +kernel
theorem dX1_pushFrom_14 : decode cX1_pushFrom 14 = .ok (.imul, 1) := by decide +kernel
theorem dX1_pushFrom_15 : decode cX1_pushFrom 15 = .ok (.isub, 1) := by decide +kernel
theorem dX1_pushFrom_16 : decode cX1_pushFrom 16 = .ok (.aload_n 0, 1) := by decide +kernel
theorem dX1_pushFrom_17 : decode cX1_pushFrom 17 = .ok (.getfield 12, 3) := by decide +kernel
theorem dX1_pushFrom_20 : decode cX1_pushFrom 20 = .ok (.getfield 68, 3) := by decide +kernel
theorem dX1_pushFrom_23 : decode cX1_pushFrom 23 = .ok (.getfield 49, 3) := by decide +kernel
theorem dX1_pushFrom_26 : decode cX1_pushFrom 26 = .ok (.if_icmp .lt 36, 3) := by decide +kernel
theorem dX1_pushFrom_29 : decode cX1_pushFrom 29 = .ok (.aload_n 0, 1) := by decide +kernel
theorem dX1_pushFrom_30 : decode cX1_pushFrom 30 = .ok (.getfield 12, 3) := by decide +kernel
theorem dX1_pushFrom_33 : decode cX1_pushFrom 33 = .ok (.getfield 68, 3) := by decide +kernel
theorem dX1_pushFrom_36 : decode cX1_pushFrom 36 = .ok (.iload_n 1, 1) := by decide +kernel
theorem dX1_pushFrom_37 : decode cX1_pushFrom 37 = .ok (.iload_n 2, 1) := by decide +kernel
theorem dX1_pushFrom_38 : decode cX1_pushFrom 38 = .ok (.aload_n 0, 1) := by decide +kernel
theorem dX1_pushFrom_39 : decode cX1_pushFrom 39 = .ok (.getfield 29, 3) := by decide +kernel
theorem dX1_pushFrom_42 : decode cX1_pushFrom 42 = .ok (.imul, 1) := by decide +kernel
theorem dX1_pushFrom_43 : decode cX1_pushFrom 43 = .ok (.isub, 1) := by decide +kernel
theorem dX1_pushFrom_44 : decode cX1_pushFrom 44 = .ok (.invokevirtual 57, 3) := by decide +kernel
theorem dX1_pushFrom_47 : decode cX1_pushFrom 47 = .ok (.ifCond .eq 9, 3) := by decide +kernel
theorem dX1_pushFrom_50 : decode cX1_pushFrom 50 = .ok (.aload_n 0, 1) := by decide +kernel
theorem dX1_pushFrom_51 : decode cX1_pushFrom 51 = .ok (.iload_n 1, 1) := by decide +kernel
theorem dX1_pushFrom_52 : decode cX1_pushFrom 52 = .ok (.iload_n 2, 1) := by decide +kernel
theorem dX1_pushFrom_53 : decode cX1_pushFrom 53 = .ok (.invokevirtual 71, 3) := by decide +kernel
theorem dX1_pushFrom_56 : decode cX1_pushFrom 56 = .ok (.iinc 2 1, 3) := by decide +kernel
theorem dX1_pushFrom_59 : decode cX1_pushFrom 59 = .ok (.goto (-57), 3) := by decide +kernel
theorem dX1_pushFrom_62 : decode cX1_pushFrom 62 = .ok (.return_, 1) := by decide +kernel
set_option maxRecDepth 20000 in
theorem ggX1_meet_X5_cheaper : GoodIn wsX1_meet wsX5_cheaper := goodIn_r _ [20] (by decide +kernel) (by decide +kernel)
set_option maxRecDepth 20000 in
theorem gX1_meet_X5_cheaper_n90 : GoodIn wsX1_meet (wsX5_cheaper) := ggX1_meet_X5_cheaper
set_option maxRecDepth 20000 in
theorem ggX1_meet_X3_see : GoodIn wsX1_meet wsX3_see := goodIn_r _ [25, 26, 54, 55, 56, 57, 58, 59] (by decide +kernel) (by decide +kernel)
set_option maxRecDepth 20000 in
theorem gX1_meet_X3_see : GoodIn wsX1_meet (wsV RX1 97 RX3 yX3_see wsX3_see) := goodIn_app (goodIn_of _ (by decide +kernel)) ggX1_meet_X3_see
set_option maxRecDepth 20000 in
theorem ggX1_meet_X0_firstCount : GoodIn wsX1_meet wsX0_firstCount := goodIn_r _ [31, 32, 44, 45, 46, 47, 48, 49, 50, 51, 52, 53] (by decide +kernel) (by decide +kernel)
set_option maxRecDepth 20000 in
theorem gX1_meet_X0_firstCount : GoodIn wsX1_meet (wsV RX1 100 RX0 yX0_firstCount wsX0_firstCount) := goodIn_app (goodIn_of _ (by decide +kernel)) ggX1_meet_X0_firstCount
set_option maxRecDepth 20000 in
theorem ggX1_meet_X3_priceOf : GoodIn wsX1_meet wsX3_priceOf := goodIn_r _ [36, 37, 54, 55, 56, 57, 58, 59] (by decide +kernel) (by decide +kernel)
set_option maxRecDepth 20000 in
theorem gX1_meet_X3_priceOf : GoodIn wsX1_meet (wsV RX1 104 RX3 yX3_priceOf wsX3_priceOf) := goodIn_app (goodIn_of _ (by decide +kernel)) ggX1_meet_X3_priceOf
theorem dX1_meet_0 : decode cX1_meet 0 = .ok (.iload_n 2, 1) := by decide +kernel
theorem dX1_meet_1 : decode cX1_meet 1 = .ok (.aload_n 0, 1) := by decide +kernel
theorem dX1_meet_2 : decode cX1_meet 2 = .ok (.getfield 32, 3) := by decide +kernel
theorem dX1_meet_5 : decode cX1_meet 5 = .ok (.imul, 1) := by decide +kernel
theorem dX1_meet_6 : decode cX1_meet 6 = .ok (.istore_n 3, 1) := by decide +kernel
theorem dX1_meet_7 : decode cX1_meet 7 = .ok (.iload_n 2, 1) := by decide +kernel
theorem dX1_meet_8 : decode cX1_meet 8 = .ok (.aload_n 0, 1) := by decide +kernel
theorem dX1_meet_9 : decode cX1_meet 9 = .ok (.getfield 29, 3) := by decide +kernel
theorem dX1_meet_12 : decode cX1_meet 12 = .ok (.aload_n 0, 1) := by decide +kernel
theorem dX1_meet_13 : decode cX1_meet 13 = .ok (.getfield 32, 3) := by decide +kernel
theorem dX1_meet_16 : decode cX1_meet 16 = .ok (.iadd, 1) := by decide +kernel
theorem dX1_meet_17 : decode cX1_meet 17 = .ok (.imul, 1) := by decide +kernel
theorem dX1_meet_18 : decode cX1_meet 18 = .ok (.istore 4, 2) := by decide +kernel
theorem dX1_meet_20 : decode cX1_meet 20 = .ok (.iload_n 1, 1) := by decide +kernel
theorem dX1_meet_21 : decode cX1_meet 21 = .ok (.iload 4, 2) := by decide +kernel
theorem dX1_meet_23 : decode cX1_meet 23 = .ok (.isub, 1) := by decide +kernel
theorem dX1_meet_24 : decode cX1_meet 24 = .ok (.aload_n 0, 1) := by decide +kernel
theorem dX1_meet_25 : decode cX1_meet 25 = .ok (.getfield 18, 3) := by decide +kernel
theorem dX1_meet_28 : decode cX1_meet 28 = .ok (.getfield 45, 3) := by decide +kernel
theorem dX1_meet_31 : decode cX1_meet 31 = .ok (.getfield 49, 3) := by decide +kernel
theorem dX1_meet_34 : decode cX1_meet 34 = .ok (.aload_n 0, 1) := by decide +kernel
theorem dX1_meet_35 : decode cX1_meet 35 = .ok (.getfield 18, 3) := by decide +kernel
theorem dX1_meet_38 : decode cX1_meet 38 = .ok (.getfield 68, 3) := by decide +kernel
theorem dX1_meet_41 : decode cX1_meet 41 = .ok (.getfield 49, 3) := by decide +kernel
theorem dX1_meet_44 : decode cX1_meet 44 = .ok (.iload_n 3, 1) := by decide +kernel
theorem dX1_meet_45 : decode cX1_meet 45 = .ok (.isub, 1) := by decide +kernel
theorem dX1_meet_46 : decode cX1_meet 46 = .ok (.invokestatic 75, 3) := by decide +kernel
theorem dX1_meet_49 : decode cX1_meet 49 = .ok (.invokestatic 75, 3) := by decide +kernel
theorem dX1_meet_52 : decode cX1_meet 52 = .ok (.istore 5, 2) := by decide +kernel
theorem dX1_meet_54 : decode cX1_meet 54 = .ok (.iload_n 1, 1) := by decide +kernel
theorem dX1_meet_55 : decode cX1_meet 55 = .ok (.iload 4, 2) := by decide +kernel
theorem dX1_meet_57 : decode cX1_meet 57 = .ok (.iconst 1, 1) := by decide +kernel
theorem dX1_meet_58 : decode cX1_meet 58 = .ok (.iadd, 1) := by decide +kernel
theorem dX1_meet_59 : decode cX1_meet 59 = .ok (.iconst 2, 1) := by decide +kernel
theorem dX1_meet_60 : decode cX1_meet 60 = .ok (.idiv, 1) := by decide +kernel
theorem dX1_meet_61 : decode cX1_meet 61 = .ok (.isub, 1) := by decide +kernel
theorem dX1_meet_62 : decode cX1_meet 62 = .ok (.aload_n 0, 1) := by decide +kernel
theorem dX1_meet_63 : decode cX1_meet 63 = .ok (.getfield 18, 3) := by decide +kernel
theorem dX1_meet_66 : decode cX1_meet 66 = .ok (.getfield 45, 3) := by decide +kernel
theorem dX1_meet_69 : decode cX1_meet 69 = .ok (.getfield 54, 3) := by decide +kernel
theorem dX1_meet_72 : decode cX1_meet 72 = .ok (.aload_n 0, 1) := by decide +kernel
theorem dX1_meet_73 : decode cX1_meet 73 = .ok (.getfield 18, 3) := by decide +kernel
theorem dX1_meet_76 : decode cX1_meet 76 = .ok (.getfield 68, 3) := by decide +kernel
theorem dX1_meet_79 : decode cX1_meet 79 = .ok (.getfield 54, 3) := by decide +kernel
theorem dX1_meet_82 : decode cX1_meet 82 = .ok (.iload_n 3, 1) := by decide +kernel
theorem dX1_meet_83 : decode cX1_meet 83 = .ok (.isub, 1) := by decide +kernel
theorem dX1_meet_84 : decode cX1_meet 84 = .ok (.invokestatic 80, 3) := by decide +kernel
theorem dX1_meet_87 : decode cX1_meet 87 = .ok (.invokestatic 80, 3) := by decide +kernel
theorem dX1_meet_90 : decode cX1_meet 90 = .ok (.istore 6, 2) := by decide +kernel
theorem dX1_meet_92 : decode cX1_meet 92 = .ok (.lconst 0, 1) := by decide +kernel
theorem dX1_meet_93 : decode cX1_meet 93 = .ok (.lstore 7, 2) := by decide +kernel
theorem dX1_meet_95 : decode cX1_meet 95 = .ok (.iconst (-1), 1) := by decide +kernel
theorem dX1_meet_96 : decode cX1_meet 96 = .ok (.istore 9, 2) := by decide +kernel
theorem dX1_meet_98 : decode cX1_meet 98 = .ok (.iload 5, 2) := by decide +kernel
theorem dX1_meet_100 : decode cX1_meet 100 = .ok (.istore 10, 2) := by decide +kernel
theorem dX1_meet_102 : decode cX1_meet 102 = .ok (.iload 10, 2) := by decide +kernel
theorem dX1_meet_104 : decode cX1_meet 104 = .ok (.iload 6, 2) := by decide +kernel
theorem dX1_meet_106 : decode cX1_meet 106 = .ok (.if_icmp .gt 126, 3) := by decide +kernel
theorem dX1_meet_109 : decode cX1_meet 109 = .ok (.aload_n 0, 1) := by decide +kernel
theorem dX1_meet_110 : decode cX1_meet 110 = .ok (.getfield 18, 3) := by decide +kernel
theorem dX1_meet_113 : decode cX1_meet 113 = .ok (.getfield 45, 3) := by decide +kernel
theorem dX1_meet_116 : decode cX1_meet 116 = .ok (.getfield 83, 3) := by decide +kernel
theorem dX1_meet_119 : decode cX1_meet 119 = .ok (.iload 10, 2) := by decide +kernel
theorem dX1_meet_121 : decode cX1_meet 121 = .ok (.bipush (-50), 2) := by decide +kernel
theorem dX1_meet_123 : decode cX1_meet 123 = .ok (.isub, 1) := by decide +kernel
theorem dX1_meet_124 : decode cX1_meet 124 = .ok (.iaload, 1) := by decide +kernel
theorem dX1_meet_125 : decode cX1_meet 125 = .ok (.istore 11, 2) := by decide +kernel
theorem dX1_meet_127 : decode cX1_meet 127 = .ok (.aload_n 0, 1) := by decide +kernel
theorem dX1_meet_128 : decode cX1_meet 128 = .ok (.getfield 18, 3) := by decide +kernel
theorem dX1_meet_131 : decode cX1_meet 131 = .ok (.getfield 68, 3) := by decide +kernel
theorem dX1_meet_134 : decode cX1_meet 134 = .ok (.getfield 83, 3) := by decide +kernel
theorem dX1_meet_137 : decode cX1_meet 137 = .ok (.iload 10, 2) := by decide +kernel
theorem dX1_meet_139 : decode cX1_meet 139 = .ok (.iload_n 3, 1) := by decide +kernel
theorem dX1_meet_140 : decode cX1_meet 140 = .ok (.iadd, 1) := by decide +kernel
theorem dX1_meet_141 : decode cX1_meet 141 = .ok (.bipush (-50), 2) := by decide +kernel
theorem dX1_meet_143 : decode cX1_meet 143 = .ok (.isub, 1) := by decide +kernel
theorem dX1_meet_144 : decode cX1_meet 144 = .ok (.iaload, 1) := by decide +kernel
theorem dX1_meet_145 : decode cX1_meet 145 = .ok (.istore 12, 2) := by decide +kernel
theorem dX1_meet_147 : decode cX1_meet 147 = .ok (.iload 11, 2) := by decide +kernel
theorem dX1_meet_149 : decode cX1_meet 149 = .ok (.iconst (-1), 1) := by decide +kernel
theorem dX1_meet_150 : decode cX1_meet 150 = .ok (.if_icmp .eq 76, 3) := by decide +kernel
theorem dX1_meet_153 : decode cX1_meet 153 = .ok (.iload 12, 2) := by decide +kernel
theorem dX1_meet_155 : decode cX1_meet 155 = .ok (.iconst (-1), 1) := by decide +kernel
theorem dX1_meet_156 : decode cX1_meet 156 = .ok (.if_icmp .eq 70, 3) := by decide +kernel
theorem dX1_meet_159 : decode cX1_meet 159 = .ok (.lload 7, 2) := by decide +kernel
theorem dX1_meet_161 : decode cX1_meet 161 = .ok (.aload_n 0, 1) := by decide +kernel
theorem dX1_meet_162 : decode cX1_meet 162 = .ok (.getfield 18, 3) := by decide +kernel
theorem dX1_meet_165 : decode cX1_meet 165 = .ok (.getfield 87, 3) := by decide +kernel
theorem dX1_meet_168 : decode cX1_meet 168 = .ok (.iload 10, 2) := by decide +kernel
theorem dX1_meet_170 : decode cX1_meet 170 = .ok (.bipush (-50), 2) := by decide +kernel
theorem dX1_meet_172 : decode cX1_meet 172 = .ok (.isub, 1) := by decide +kernel
theorem dX1_meet_173 : decode cX1_meet 173 = .ok (.iaload, 1) := by decide +kernel
theorem dX1_meet_174 : decode cX1_meet 174 = .ok (.i2l, 1) := by decide +kernel
theorem dX1_meet_175 : decode cX1_meet 175 = .ok (.ladd, 1) := by decide +kernel
theorem dX1_meet_176 : decode cX1_meet 176 = .ok (.lstore 7, 2) := by decide +kernel
theorem dX1_meet_178 : decode cX1_meet 178 = .ok (.iload 9, 2) := by decide +kernel
theorem dX1_meet_180 : decode cX1_meet 180 = .ok (.iload 11, 2) := by decide +kernel
theorem dX1_meet_182 : decode cX1_meet 182 = .ok (.iload 12, 2) := by decide +kernel
theorem dX1_meet_184 : decode cX1_meet 184 = .ok (.iadd, 1) := by decide +kernel
theorem dX1_meet_185 : decode cX1_meet 185 = .ok (.invokestatic 90, 3) := by decide +kernel
theorem dX1_meet_188 : decode cX1_meet 188 = .ok (.istore 9, 2) := by decide +kernel
theorem dX1_meet_190 : decode cX1_meet 190 = .ok (.aload_n 0, 1) := by decide +kernel
theorem dX1_meet_191 : decode cX1_meet 191 = .ok (.getfield 18, 3) := by decide +kernel
theorem dX1_meet_194 : decode cX1_meet 194 = .ok (.getfield 45, 3) := by decide +kernel
theorem dX1_meet_197 : decode cX1_meet 197 = .ok (.getfield 93, 3) := by decide +kernel
theorem dX1_meet_200 : decode cX1_meet 200 = .ok (.iload 10, 2) := by decide +kernel
theorem dX1_meet_202 : decode cX1_meet 202 = .ok (.bipush (-50), 2) := by decide +kernel
theorem dX1_meet_204 : decode cX1_meet 204 = .ok (.isub, 1) := by decide +kernel
theorem dX1_meet_205 : decode cX1_meet 205 = .ok (.iconst 1, 1) := by decide +kernel
theorem dX1_meet_206 : decode cX1_meet 206 = .ok (.bastore, 1) := by decide +kernel
theorem dX1_meet_207 : decode cX1_meet 207 = .ok (.aload_n 0, 1) := by decide +kernel
theorem dX1_meet_208 : decode cX1_meet 208 = .ok (.getfield 18, 3) := by decide +kernel
theorem dX1_meet_211 : decode cX1_meet 211 = .ok (.getfield 68, 3) := by decide +kernel
theorem dX1_meet_214 : decode cX1_meet 214 = .ok (.getfield 93, 3) := by decide +kernel
theorem dX1_meet_217 : decode cX1_meet 217 = .ok (.iload 10, 2) := by decide +kernel
theorem dX1_meet_219 : decode cX1_meet 219 = .ok (.iload_n 3, 1) := by decide +kernel
theorem dX1_meet_220 : decode cX1_meet 220 = .ok (.iadd, 1) := by decide +kernel
theorem dX1_meet_221 : decode cX1_meet 221 = .ok (.bipush (-50), 2) := by decide +kernel
theorem dX1_meet_223 : decode cX1_meet 223 = .ok (.isub, 1) := by decide +kernel
theorem dX1_meet_224 : decode cX1_meet 224 = .ok (.iconst 1, 1) := by decide +kernel
theorem dX1_meet_225 : decode cX1_meet 225 = .ok (.bastore, 1) := by decide +kernel
theorem dX1_meet_226 : decode cX1_meet 226 = .ok (.iinc 10 1, 3) := by decide +kernel
theorem dX1_meet_229 : decode cX1_meet 229 = .ok (.goto (-127), 3) := by decide +kernel
theorem dX1_meet_232 : decode cX1_meet 232 = .ok (.lload 7, 2) := by decide +kernel
theorem dX1_meet_234 : decode cX1_meet 234 = .ok (.lconst 0, 1) := by decide +kernel
theorem dX1_meet_235 : decode cX1_meet 235 = .ok (.lcmp, 1) := by decide +kernel
theorem dX1_meet_236 : decode cX1_meet 236 = .ok (.ifCond .le 95, 3) := by decide +kernel
theorem dX1_meet_239 : decode cX1_meet 239 = .ok (.iload_n 1, 1) := by decide +kernel
theorem dX1_meet_240 : decode cX1_meet 240 = .ok (.iload_n 2, 1) := by decide +kernel
theorem dX1_meet_241 : decode cX1_meet 241 = .ok (.aload_n 0, 1) := by decide +kernel
theorem dX1_meet_242 : decode cX1_meet 242 = .ok (.getfield 29, 3) := by decide +kernel
theorem dX1_meet_245 : decode cX1_meet 245 = .ok (.imul, 1) := by decide +kernel
theorem dX1_meet_246 : decode cX1_meet 246 = .ok (.isub, 1) := by decide +kernel
theorem dX1_meet_247 : decode cX1_meet 247 = .ok (.istore 10, 2) := by decide +kernel
theorem dX1_meet_249 : decode cX1_meet 249 = .ok (.aload_n 0, 1) := by decide +kernel
theorem dX1_meet_250 : decode cX1_meet 250 = .ok (.getfield 12, 3) := by decide +kernel
theorem dX1_meet_253 : decode cX1_meet 253 = .ok (.getfield 45, 3) := by decide +kernel
theorem dX1_meet_256 : decode cX1_meet 256 = .ok (.iload_n 1, 1) := by decide +kernel
theorem dX1_meet_257 : decode cX1_meet 257 = .ok (.invokevirtual 97, 3) := by decide +kernel
theorem dX1_meet_260 : decode cX1_meet 260 = .ok (.aload_n 0, 1) := by decide +kernel
theorem dX1_meet_261 : decode cX1_meet 261 = .ok (.getfield 12, 3) := by decide +kernel
theorem dX1_meet_264 : decode cX1_meet 264 = .ok (.getfield 68, 3) := by decide +kernel
theorem dX1_meet_267 : decode cX1_meet 267 = .ok (.iload 10, 2) := by decide +kernel
theorem dX1_meet_269 : decode cX1_meet 269 = .ok (.invokevirtual 97, 3) := by decide +kernel
theorem dX1_meet_272 : decode cX1_meet 272 = .ok (.aload_n 0, 1) := by decide +kernel
theorem dX1_meet_273 : decode cX1_meet 273 = .ok (.dup, 1) := by decide +kernel
theorem dX1_meet_274 : decode cX1_meet 274 = .ok (.getfield 21, 3) := by decide +kernel
theorem dX1_meet_277 : decode cX1_meet 277 = .ok (.lload 7, 2) := by decide +kernel
theorem dX1_meet_279 : decode cX1_meet 279 = .ok (.aload_n 0, 1) := by decide +kernel
theorem dX1_meet_280 : decode cX1_meet 280 = .ok (.getfield 12, 3) := by decide +kernel
theorem dX1_meet_283 : decode cX1_meet 283 = .ok (.iload_n 1, 1) := by decide +kernel
theorem dX1_meet_284 : decode cX1_meet 284 = .ok (.invokevirtual 100, 3) := by decide +kernel
theorem dX1_meet_287 : decode cX1_meet 287 = .ok (.i2l, 1) := by decide +kernel
theorem dX1_meet_288 : decode cX1_meet 288 = .ok (.lmul, 1) := by decide +kernel
theorem dX1_meet_289 : decode cX1_meet 289 = .ok (.ladd, 1) := by decide +kernel
theorem dX1_meet_290 : decode cX1_meet 290 = .ok (.putfield 21, 3) := by decide +kernel
theorem dX1_meet_293 : decode cX1_meet 293 = .ok (.aload_n 0, 1) := by decide +kernel
theorem dX1_meet_294 : decode cX1_meet 294 = .ok (.aload_n 0, 1) := by decide +kernel
theorem dX1_meet_295 : decode cX1_meet 295 = .ok (.getfield 25, 3) := by decide +kernel
theorem dX1_meet_298 : decode cX1_meet 298 = .ok (.iload 9, 2) := by decide +kernel
theorem dX1_meet_300 : decode cX1_meet 300 = .ok (.aload_n 0, 1) := by decide +kernel
theorem dX1_meet_301 : decode cX1_meet 301 = .ok (.getfield 12, 3) := by decide +kernel
theorem dX1_meet_304 : decode cX1_meet 304 = .ok (.getfield 45, 3) := by decide +kernel
theorem dX1_meet_307 : decode cX1_meet 307 = .ok (.iload_n 1, 1) := by decide +kernel
theorem dX1_meet_308 : decode cX1_meet 308 = .ok (.invokevirtual 104, 3) := by decide +kernel
theorem dX1_meet_311 : decode cX1_meet 311 = .ok (.iadd, 1) := by decide +kernel
theorem dX1_meet_312 : decode cX1_meet 312 = .ok (.aload_n 0, 1) := by decide +kernel
theorem dX1_meet_313 : decode cX1_meet 313 = .ok (.getfield 12, 3) := by decide +kernel
theorem dX1_meet_316 : decode cX1_meet 316 = .ok (.getfield 68, 3) := by decide +kernel
theorem dX1_meet_319 : decode cX1_meet 319 = .ok (.iload 10, 2) := by decide +kernel
theorem dX1_meet_321 : decode cX1_meet 321 = .ok (.invokevirtual 104, 3) := by decide +kernel
theorem dX1_meet_324 : decode cX1_meet 324 = .ok (.iadd, 1) := by decide +kernel
theorem dX1_meet_325 : decode cX1_meet 325 = .ok (.invokestatic 90, 3) := by decide +kernel
theorem dX1_meet_328 : decode cX1_meet 328 = .ok (.putfield 25, 3) := by decide +kernel
theorem dX1_meet_331 : decode cX1_meet 331 = .ok (.return_, 1) := by decide +kernel
end
section
def f_X1_pick (a1 : Int32) (S : QS) : Option Nat :=
if a1 = 0 then (some 26)
else (some 37)
theorem k_X1_pick {a : Int32} {S : QS} {c : Nat} (h : f_X1_pick a S = some c) : qk c = 0 := by
  unfold f_X1_pick at h
  split at h <;> obtain rfl := Option.some.inj h <;> rfl
def rm_X1_pick : Room := { frames := 0, cells := 0, slots := 0, locals := 0 }
set_option maxRecDepth 100000 in
set_option maxHeartbeats 4000000 in
theorem m_X1_pick (l : Launch) (D : va_G) (ca : Nat → ClassId) (ad : Nat → Nat) (hj : Inj ad) (a1 : Int32) (S : QS) (o : Nat) (hf : f_X1_pick a1 S = some o) : Cr l D ca ad yX1_pick wsX1_pick rm_X1_pick [.ref (ad 25), .int a1] S o S := by
  intro sz
  refine Met.ofW (cc := cX1_pick) (maxL := 2) (ret := (some (.object "CrashDesk$Car"))) (by decide) rfl ?_
  intro p e s m args below meth c s₁ B hml hv
  obtain ⟨hav, hsz, hP, hKK⟩ := hv
  have hx := B.exec
  have hb := B.bytes
  have hr := B.returns
  have hts := atoms_spec (ws := wsX1_pick) B.pre
  have hown : s.vm.findClass RX1 = some m.cls := findClass_of_methodNamed B.named
  have hlocks := B.notSynchronized
  subst hsz
  have hX1 : ∀ w ∈ wsX10, w.before _ s = true := fun w h => hts w (List.mem_cons_of_mem _ (List.mem_append_right _ h))
  have K12 := hts (Cond.fieldLink RX1 12 "CrashDesk$Meeting" "zero" "LCrashDesk$Car;") (List.mem_cons_of_mem _ (List.mem_append_left _ (List.mem_of_getElem? (i := 0) rfl)))
  have K18 := hts (Cond.fieldLink RX1 18 "CrashDesk$Meeting" "one" "LCrashDesk$Car;") (List.mem_cons_of_mem _ (List.mem_append_left _ (List.mem_of_getElem? (i := 1) rfl)))
  have hl := lv_entry [.ref (ad 25), .int a1] (n := 2) (Nat.le_of_ble_eq_true rfl)
  rw [show entryFrame m args 2 = entryFrame m ([.ref (ad 25), .int a1] : List Value).toArray 2 by rw [hav], lg_entry_eq]
  generalize (lg_sl [.ref (ad 25), .int a1] ++ List.replicate (2 - (lg_sl [.ref (ad 25), .int a1]).length) Slot.unset).toArray = ls at hl ⊢
  have hl : lv_has ls 2 [(0, .ref (ad 25)), (1, .int a1)] := hl
  have main : ∀ (H : Heap) (locs : List Loc) (ls : Array Slot), va_P D vwCl (wd ca ad S) H → va_S (Aq ad s.heap.size) s.heap H locs → lv_has ls 2 [(0, .ref (ad 25)), (1, .int a1)] → W p l e rm_X1_pick s m args below meth c H locs 0 0 (Zr below D ca ad args s o S) (F0 m 0 ls []) := by
    intro H locs ls hP hS hl
    unfold f_X1_pick at hf
    refine lv_iload_n hx hb dX1_pick_0 rfl (lv_at hl 1 rfl) ?_
    refine lv_if_ne (tgt := 11) hx hb dX1_pick_1 (by decide) (fun w => ?_) (fun w => ?_)
    · have hf := if_f w hf
      refine lv_aload_n hx hb dX1_pick_11 rfl (lv_at hl 0 rfl) ?_
      refine g_X1_one hx hb hX1 hown hKK hP (show qk 25 = 1 from rfl) K18 dX1_pick_12 ?_
      obtain rfl := Option.some.inj hf
      exact r_aret hx hb hr hP hS dX1_pick_15 hlocks
    · have hf := if_t w hf
      refine lv_aload_n hx hb dX1_pick_4 rfl (lv_at hl 0 rfl) ?_
      refine g_X1_zero hx hb hX1 hown hKK hP (show qk 25 = 1 from rfl) K12 dX1_pick_5 ?_
      refine lv_goto (tgt := 15) hx hb dX1_pick_8 (by decide) ?_
      obtain rfl := Option.some.inj hf
      exact r_aret hx hb hr hP hS dX1_pick_15 hlocks
  exact main s.heap [] ls hP va_S.rf hl
def lp_X1_lowestShare_3 (a1 : Int32) (a2 : Int32) : Nat → Int32 → Option Int32
  | 0, _ => none
  | fuel + 1, v1 => (if v1 ≤ 1 then (some a1)
else ((rmI a1 v1).bind fun v2 =>
if v2 = 0 then ((rmI a2 v1).bind fun v3 =>
if v3 = 0 then ((dvI a1 v1).bind fun v4 =>
some v4)
else (lp_X1_lowestShare_3 a1 a2 fuel (v1 + (-1))))
else (lp_X1_lowestShare_3 a1 a2 fuel (v1 + (-1)))))
def f_X1_lowestShare (a1 : Int32) (a2 : Int32) : Option Int32 :=
lp_X1_lowestShare_3 a1 a2 FU 100
def rm_X1_lowestShare : Room := { frames := 0, cells := 0, slots := 0, locals := 0 }
set_option maxRecDepth 100000 in
set_option maxHeartbeats 4000000 in
theorem m_X1_lowestShare (l : Launch) (D : va_G) (ca : Nat → ClassId) (ad : Nat → Nat) (hj : Inj ad) (a1 : Int32) (a2 : Int32) (S : QS) (o : Int32) (hf : f_X1_lowestShare a1 a2 = some o) : Ci l D ca ad yX1_lowestShare wsX1_lowestShare rm_X1_lowestShare [.int a1, .int a2] S o S := by
  intro sz
  refine Met.ofW (cc := cX1_lowestShare) (maxL := 3) (ret := (some .int)) (by decide) rfl ?_
  intro p e s m args below meth c s₁ B hml hv
  obtain ⟨hav, hsz, hP, hKK⟩ := hv
  have hx := B.exec
  have hb := B.bytes
  have hr := B.returns
  have hts := atoms_spec (ws := wsX1_lowestShare) B.pre
  have hown : s.vm.findClass RX1 = some m.cls := findClass_of_methodNamed B.named
  have hlocks := B.notSynchronized
  subst hsz
  have hl := lv_entry [.int a1, .int a2] (n := 3) (Nat.le_of_ble_eq_true rfl)
  rw [show entryFrame m args 3 = entryFrame m ([.int a1, .int a2] : List Value).toArray 3 by rw [hav], lg_entry_eq]
  generalize (lg_sl [.int a1, .int a2] ++ List.replicate (3 - (lg_sl [.int a1, .int a2]).length) Slot.unset).toArray = ls at hl ⊢
  have hl : lv_has ls 3 [(0, .int a1), (1, .int a2)] := hl
  have main : ∀ (H : Heap) (locs : List Loc) (ls : Array Slot), va_P D vwCl (wd ca ad S) H → va_S (Aq ad s.heap.size) s.heap H locs → lv_has ls 3 [(0, .int a1), (1, .int a2)] → W p l e rm_X1_lowestShare s m args below meth c H locs 0 0 (Zi below D ca ad args s o S) (F0 m 0 ls []) := by
    intro H locs ls hP hS hl
    unfold f_X1_lowestShare at hf
    refine lv_bipush (v := 100) hx hb dX1_lowestShare_0 (by decide) ?_
    refine lv_istore_n (lv' := [(2, .int 100), (0, .int a1), (1, .int a2)]) hx hb dX1_lowestShare_2 rfl hl (by decide) rfl (fun ls hl => ?_)
    have L1 : ∀ (fuel : Nat) (v1 : Int32), lp_X1_lowestShare_3 a1 a2 fuel v1 = some o → ∀ (H : Heap) (locs : List Loc) (ls : Array Slot), va_P D vwCl (wd ca ad S) H → va_S (Aq ad s.heap.size) s.heap H locs → lv_has ls 3 [(0, .int a1), (1, .int a2), (2, .int v1)] → W p l e rm_X1_lowestShare s m args below meth c H locs 0 0 (Zi below D ca ad args s o S) (F0 m 3 ls []) := by
      intro fuel
      induction fuel with
      | zero =>
        intro v1 hf
        simp [lp_X1_lowestShare_3] at hf
      | succ fuel ih =>
        intro v1 hf H locs ls hP hS hl
        rw [lp_X1_lowestShare_3] at hf
        refine lv_iload_n hx hb dX1_lowestShare_3 rfl (lv_at hl 2 rfl) ?_
        refine lv_iconst (v := 1) hx hb dX1_lowestShare_4 (by decide) ?_
        refine lv_icmp_le (tgt := 30) hx hb dX1_lowestShare_5 (by decide) (fun w => ?_) (fun w => ?_)
        · have hf := if_t w hf
          refine lv_iload_n hx hb dX1_lowestShare_30 rfl (lv_at hl 0 rfl) ?_
          obtain rfl := Option.some.inj hf
          exact r_iret hx hb hr hP hS dX1_lowestShare_31 hlocks
        · have hf := if_f w hf
          refine lv_iload_n hx hb dX1_lowestShare_8 rfl (lv_at hl 0 rfl) ?_
          refine lv_iload_n hx hb dX1_lowestShare_9 rfl (lv_at hl 2 rfl) ?_
          obtain ⟨v2, h7, hf⟩ := bd_e hf
          obtain ⟨h7z, h7e⟩ := q_rm h7
          refine lv_irem hx hb dX1_lowestShare_10 h7z ?_
          rw [← h7e]
          refine lv_if_ne (tgt := 24) hx hb dX1_lowestShare_11 (by decide) (fun w => ?_) (fun w => ?_)
          · have hf := if_f w hf
            refine lv_iinc (v := (v1 + (-1))) (lv' := [(2, .int (v1 + (-1))), (0, .int a1), (1, .int a2)]) hx hb dX1_lowestShare_24 hl (k := 2) rfl rfl (by decide) rfl (fun ls hl => ?_)
            refine lv_goto (tgt := 3) hx hb dX1_lowestShare_27 (by decide) ?_
            exact ih _ hf _ _ _ hP hS (lv_sub hl [1, 2, 0] rfl)
          · have hf := if_t w hf
            refine lv_iload_n hx hb dX1_lowestShare_14 rfl (lv_at hl 1 rfl) ?_
            refine lv_iload_n hx hb dX1_lowestShare_15 rfl (lv_at hl 2 rfl) ?_
            obtain ⟨v3, h6, hf⟩ := bd_e hf
            obtain ⟨h6z, h6e⟩ := q_rm h6
            refine lv_irem hx hb dX1_lowestShare_16 h6z ?_
            rw [← h6e]
            refine lv_if_ne (tgt := 24) hx hb dX1_lowestShare_17 (by decide) (fun w => ?_) (fun w => ?_)
            · have hf := if_f w hf
              refine lv_iinc (v := (v1 + (-1))) (lv' := [(2, .int (v1 + (-1))), (0, .int a1), (1, .int a2)]) hx hb dX1_lowestShare_24 hl (k := 2) rfl rfl (by decide) rfl (fun ls hl => ?_)
              refine lv_goto (tgt := 3) hx hb dX1_lowestShare_27 (by decide) ?_
              exact ih _ hf _ _ _ hP hS (lv_sub hl [1, 2, 0] rfl)
            · have hf := if_t w hf
              refine lv_iload_n hx hb dX1_lowestShare_20 rfl (lv_at hl 0 rfl) ?_
              refine lv_iload_n hx hb dX1_lowestShare_21 rfl (lv_at hl 2 rfl) ?_
              obtain ⟨v4, h5, hf⟩ := bd_e hf
              obtain ⟨h5z, h5e⟩ := q_dv h5
              refine lv_idiv hx hb dX1_lowestShare_22 h5z ?_
              rw [← h5e]
              obtain rfl := Option.some.inj hf
              exact r_iret hx hb hr hP hS dX1_lowestShare_23 hlocks
    exact L1 _ _ hf _ _ _ hP hS (lv_sub hl [1, 2, 0] rfl)
  exact main s.heap [] ls hP va_S.rf hl
def lp_X1_meet_102 (a1 : Int32) (a2 : Int32) (S : QS) (v1 : Int32) : Nat → Int64 → Int32 → Int32 → QS → Option (Int64 × Int32 × QS)
  | 0, _, _, _, _ => none
  | fuel + 1, w2, v3, v4, S5 => (if (if (if ((S.1 44 3) - (a2 * (S.1 25 5))) < (S.1 41 3) then ((S.1 44 3) - (a2 * (S.1 25 5))) else (S.1 41 3)) < (a1 - v1) then (if ((S.1 44 3) - (a2 * (S.1 25 5))) < (S.1 41 3) then ((S.1 44 3) - (a2 * (S.1 25 5))) else (S.1 41 3)) else (a1 - v1)) < v4 then (some (w2, v3, S5))
else ((rdA 42 101 (v4 - (-50)) S5).bind fun v7 =>
(rdA 45 101 ((v4 + (a2 * (S.1 25 5))) - (-50)) S5).bind fun v9 =>
if v7 = (-1) then (lp_X1_meet_102 a1 a2 S v1 fuel w2 v3 (v4 + 1) S5)
else (if v9 = (-1) then (lp_X1_meet_102 a1 a2 S v1 fuel w2 v3 (v4 + 1) S5)
else ((rdA 47 101 (v4 - (-50)) S5).bind fun v11 =>
(f_X5_cheaper v3 (v7 + v9)).bind fun v14 =>
(wrZ 43 101 (v4 - (-50)) 1 S5).bind fun S15 =>
(wrZ 46 101 ((v4 + (a2 * (S.1 25 5))) - (-50)) 1 S15).bind fun S17 =>
lp_X1_meet_102 a1 a2 S v1 fuel (w2 + v11.toInt64) v14 (v4 + 1) S17))))
def f_X1_meet (a1 : Int32) (a2 : Int32) (S : QS) : Option QS :=
(dvI ((a2 * ((S.1 25 4) + (S.1 25 5))) + 1) 2).bind fun v1 =>
(lp_X1_meet_102 a1 a2 S v1 FU 0 (-1) (if (a1 - (a2 * ((S.1 25 4) + (S.1 25 5)))) < (if (S.1 41 2) < ((S.1 44 2) - (a2 * (S.1 25 5))) then ((S.1 44 2) - (a2 * (S.1 25 5))) else (S.1 41 2)) then (if (S.1 41 2) < ((S.1 44 2) - (a2 * (S.1 25 5))) then ((S.1 44 2) - (a2 * (S.1 25 5))) else (S.1 41 2)) else (a1 - (a2 * ((S.1 25 4) + (S.1 25 5))))) S).bind fun q6 =>
if (lg_cmp q6.1 0) ≤ 0 then (some q6.2.2)
else ((f_X3_see 30 a1 q6.2.2).bind fun S20 =>
(f_X3_see 33 (a1 - (a2 * (q6.2.2.1 25 4))) S20).bind fun S22 =>
(f_X0_firstCount 26 a1 S22).bind fun v24 =>
(stL 25 ((S22.2 25) + (q6.1 * v24.toInt64)) S22).bind fun S25 =>
(f_X3_priceOf 30 a1 S25).bind fun v28 =>
(f_X3_priceOf 33 (a1 - (a2 * (q6.2.2.1 25 4))) S25).bind fun v30 =>
(f_X5_cheaper (S25.1 25 3) ((q6.2.1 + v28) + v30)).bind fun v32 =>
(stF 25 3 v32 S25).bind fun S33 =>
some S33)
def rm_X1_meet : Room := { frames := 1, cells := 0, slots := 0, locals := 21 }
set_option maxRecDepth 100000 in
set_option maxHeartbeats 4000000 in
theorem m_X1_meet (l : Launch) (D : va_G) (ca : Nat → ClassId) (ad : Nat → Nat) (hj : Inj ad) (a1 : Int32) (a2 : Int32) (S : QS) (o : QS) (hf : f_X1_meet a1 a2 S = some o) : Cv l D ca ad yX1_meet wsX1_meet rm_X1_meet [.ref (ad 25), .int a1, .int a2] S o := by
  intro sz
  refine Met.ofW (cc := cX1_meet) (maxL := 13) (ret := none) (by decide) rfl ?_
  intro p e s m args below meth c s₁ B hml hv
  obtain ⟨hav, hsz, hP, hKK⟩ := hv
  have hx := B.exec
  have hb := B.bytes
  have hr := B.returns
  have hts := atoms_spec (ws := wsX1_meet) B.pre
  have hown : s.vm.findClass RX1 = some m.cls := findClass_of_methodNamed B.named
  have hlocks := B.notSynchronized
  subst hsz
  have hX0 : ∀ w ∈ wsX00, w.before _ s = true := fun w h => hts w (List.mem_cons_of_mem _ (List.mem_append_left _ (List.mem_append_right _ h)))
  have hX1 : ∀ w ∈ wsX10, w.before _ s = true := fun w h => hts w (List.mem_cons_of_mem _ (List.mem_append_left _ (List.mem_append_left _ (List.mem_append_right _ h))))
  have hX3 : ∀ w ∈ wsX30, w.before _ s = true := fun w h => hts w (List.mem_cons_of_mem _ (List.mem_append_right _ h))
  have K12 := hts (Cond.fieldLink RX1 12 "CrashDesk$Meeting" "zero" "LCrashDesk$Car;") (List.mem_cons_of_mem _ (List.mem_append_left _ (List.mem_append_left _ (List.mem_append_left _ (List.mem_append_left _ (List.mem_of_getElem? (i := 14) rfl))))))
  have K18 := hts (Cond.fieldLink RX1 18 "CrashDesk$Meeting" "one" "LCrashDesk$Car;") (List.mem_cons_of_mem _ (List.mem_append_left _ (List.mem_append_left _ (List.mem_append_left _ (List.mem_append_left _ (List.mem_of_getElem? (i := 2) rfl))))))
  have K21 := hts (Cond.fieldLink RX1 21 "CrashDesk$Meeting" "wayCount" "J") (List.mem_cons_of_mem _ (List.mem_append_left _ (List.mem_append_left _ (List.mem_append_left _ (List.mem_append_left _ (List.mem_of_getElem? (i := 15) rfl))))))
  have K25 := hts (Cond.fieldLink RX1 25 "CrashDesk$Meeting" "cheapest" "I") (List.mem_cons_of_mem _ (List.mem_append_left _ (List.mem_append_left _ (List.mem_append_left _ (List.mem_append_left _ (List.mem_of_getElem? (i := 16) rfl))))))
  have K29 := hts (Cond.fieldLink RX1 29 "CrashDesk$Meeting" "loss" "I") (List.mem_cons_of_mem _ (List.mem_append_left _ (List.mem_append_left _ (List.mem_append_left _ (List.mem_append_left _ (List.mem_of_getElem? (i := 1) rfl))))))
  have K32 := hts (Cond.fieldLink RX1 32 "CrashDesk$Meeting" "gain" "I") (List.mem_cons_of_mem _ (List.mem_append_left _ (List.mem_append_left _ (List.mem_append_left _ (List.mem_append_left _ (List.mem_of_getElem? (i := 0) rfl))))))
  have K45 := hts (Cond.fieldLink RX1 45 "CrashDesk$Car" "at" "LCrashDesk$Speed;") (List.mem_cons_of_mem _ (List.mem_append_left _ (List.mem_append_left _ (List.mem_append_left _ (List.mem_append_left _ (List.mem_of_getElem? (i := 3) rfl))))))
  have K49 := hts (Cond.fieldLink RX1 49 "CrashDesk$Speed" "bottom" "I") (List.mem_cons_of_mem _ (List.mem_append_left _ (List.mem_append_left _ (List.mem_append_left _ (List.mem_append_left _ (List.mem_of_getElem? (i := 4) rfl))))))
  have K54 := hts (Cond.fieldLink RX1 54 "CrashDesk$Speed" "top" "I") (List.mem_cons_of_mem _ (List.mem_append_left _ (List.mem_append_left _ (List.mem_append_left _ (List.mem_append_left _ (List.mem_of_getElem? (i := 10) rfl))))))
  have K68 := hts (Cond.fieldLink RX1 68 "CrashDesk$Car" "after" "LCrashDesk$Speed;") (List.mem_cons_of_mem _ (List.mem_append_left _ (List.mem_append_left _ (List.mem_append_left _ (List.mem_append_left _ (List.mem_of_getElem? (i := 5) rfl))))))
  have K75 := hts (Cond.methodLink RX1 75 Lib.Math.max.name) (List.mem_cons_of_mem _ (List.mem_append_left _ (List.mem_append_left _ (List.mem_append_left _ (List.mem_append_left _ (List.mem_of_getElem? (i := 6) rfl))))))
  have K80 := hts (Cond.methodLink RX1 80 Lib.Math.min.name) (List.mem_cons_of_mem _ (List.mem_append_left _ (List.mem_append_left _ (List.mem_append_left _ (List.mem_append_left _ (List.mem_of_getElem? (i := 11) rfl))))))
  have hl := lv_entry [.ref (ad 25), .int a1, .int a2] (n := 13) (Nat.le_of_ble_eq_true rfl)
  rw [show entryFrame m args 13 = entryFrame m ([.ref (ad 25), .int a1, .int a2] : List Value).toArray 13 by rw [hav], lg_entry_eq]
  generalize (lg_sl [.ref (ad 25), .int a1, .int a2] ++ List.replicate (13 - (lg_sl [.ref (ad 25), .int a1, .int a2]).length) Slot.unset).toArray = ls at hl ⊢
  have hl : lv_has ls 13 [(0, .ref (ad 25)), (1, .int a1), (2, .int a2)] := hl
  have main : ∀ (H : Heap) (locs : List Loc) (ls : Array Slot), va_P D vwCl (wd ca ad S) H → va_S (Aq ad s.heap.size) s.heap H locs → lv_has ls 13 [(0, .ref (ad 25)), (1, .int a1), (2, .int a2)] → W p l e rm_X1_meet s m args below meth c H locs 0 0 (Zv below D ca ad args s o) (F0 m 0 ls []) := by
    intro H locs ls hP hS hl
    unfold f_X1_meet at hf
    refine lv_iload_n hx hb dX1_meet_0 rfl (lv_at hl 2 rfl) ?_
    refine lv_aload_n hx hb dX1_meet_1 rfl (lv_at hl 0 rfl) ?_
    refine g_X1_gain hx hb hX1 hown hKK hP (show qk 25 = 1 from rfl) K32 dX1_meet_2 ?_
    refine lv_imul hx hb dX1_meet_5 ?_
    refine lv_istore_n (lv' := [(3, .int (a2 * (S.1 25 5))), (0, .ref (ad 25)), (1, .int a1), (2, .int a2)]) hx hb dX1_meet_6 rfl hl (by decide) rfl (fun ls hl => ?_)
    refine lv_iload_n hx hb dX1_meet_7 rfl (lv_at hl 3 rfl) ?_
    refine lv_aload_n hx hb dX1_meet_8 rfl (lv_at hl 1 rfl) ?_
    refine g_X1_loss hx hb hX1 hown hKK hP (show qk 25 = 1 from rfl) K29 dX1_meet_9 ?_
    refine lv_aload_n hx hb dX1_meet_12 rfl (lv_at hl 1 rfl) ?_
    refine g_X1_gain hx hb hX1 hown hKK hP (show qk 25 = 1 from rfl) K32 dX1_meet_13 ?_
    refine lv_iadd hx hb dX1_meet_16 ?_
    refine lv_imul hx hb dX1_meet_17 ?_
    refine lv_istore (lv' := [(4, .int (a2 * ((S.1 25 4) + (S.1 25 5)))), (3, .int (a2 * (S.1 25 5))), (0, .ref (ad 25)), (1, .int a1), (2, .int a2)]) hx hb dX1_meet_18 hl (by decide) rfl (fun ls hl => ?_)
    refine lv_iload_n hx hb dX1_meet_20 rfl (lv_at hl 3 rfl) ?_
    refine lv_iload hx hb dX1_meet_21 (lv_at hl 0 rfl) ?_
    refine lv_isub hx hb dX1_meet_23 ?_
    refine lv_aload_n hx hb dX1_meet_24 rfl (lv_at hl 2 rfl) ?_
    refine g_X1_one hx hb hX1 hown hKK hP (show qk 25 = 1 from rfl) K18 dX1_meet_25 ?_
    refine g_X0_at hx hb hX0 hown hKK hP (show qk 37 = 0 from rfl) K45 dX1_meet_28 ?_
    refine g_X3_bottom hx hb hX3 hown hKK hP (show qk 41 = 3 from rfl) K49 dX1_meet_31 ?_
    refine lv_aload_n hx hb dX1_meet_34 rfl (lv_at hl 2 rfl) ?_
    refine g_X1_one hx hb hX1 hown hKK hP (show qk 25 = 1 from rfl) K18 dX1_meet_35 ?_
    refine g_X0_after hx hb hX0 hown hKK hP (show qk 37 = 0 from rfl) K68 dX1_meet_38 ?_
    refine g_X3_bottom hx hb hX3 hown hKK hP (show qk 44 = 3 from rfl) K49 dX1_meet_41 ?_
    refine lv_iload_n hx hb dX1_meet_44 rfl (lv_at hl 1 rfl) ?_
    refine lv_isub hx hb dX1_meet_45 ?_
    refine va_mmax hx hb (hml.trans hl.1.symm) hown K75 (hts _ (List.mem_cons_of_mem _ (List.mem_append_left _ (List.mem_append_left _ (List.mem_append_left _ (List.mem_append_left _ (List.mem_of_getElem? (i := 7) rfl))))))) (hts _ (List.mem_cons_of_mem _ (List.mem_append_left _ (List.mem_append_left _ (List.mem_append_left _ (List.mem_append_left _ (List.mem_of_getElem? (i := 8) rfl))))))) (hts _ (List.mem_cons_of_mem _ (List.mem_append_left _ (List.mem_append_left _ (List.mem_append_left _ (List.mem_append_left _ (List.mem_of_getElem? (i := 9) rfl))))))) (Nat.le_of_ble_eq_true rfl) (Nat.le_of_ble_eq_true rfl) (Nat.le_of_ble_eq_true rfl) (Nat.le_of_ble_eq_true rfl) dX1_meet_46 ?_
    refine va_mmax hx hb (hml.trans hl.1.symm) hown K75 (hts _ (List.mem_cons_of_mem _ (List.mem_append_left _ (List.mem_append_left _ (List.mem_append_left _ (List.mem_append_left _ (List.mem_of_getElem? (i := 7) rfl))))))) (hts _ (List.mem_cons_of_mem _ (List.mem_append_left _ (List.mem_append_left _ (List.mem_append_left _ (List.mem_append_left _ (List.mem_of_getElem? (i := 8) rfl))))))) (hts _ (List.mem_cons_of_mem _ (List.mem_append_left _ (List.mem_append_left _ (List.mem_append_left _ (List.mem_append_left _ (List.mem_of_getElem? (i := 9) rfl))))))) (Nat.le_of_ble_eq_true rfl) (Nat.le_of_ble_eq_true rfl) (Nat.le_of_ble_eq_true rfl) (Nat.le_of_ble_eq_true rfl) dX1_meet_49 ?_
    refine lv_istore (lv' := [(5, .int (if (a1 - (a2 * ((S.1 25 4) + (S.1 25 5)))) < (if (S.1 41 2) < ((S.1 44 2) - (a2 * (S.1 25 5))) then ((S.1 44 2) - (a2 * (S.1 25 5))) else (S.1 41 2)) then (if (S.1 41 2) < ((S.1 44 2) - (a2 * (S.1 25 5))) then ((S.1 44 2) - (a2 * (S.1 25 5))) else (S.1 41 2)) else (a1 - (a2 * ((S.1 25 4) + (S.1 25 5)))))), (4, .int (a2 * ((S.1 25 4) + (S.1 25 5)))), (3, .int (a2 * (S.1 25 5))), (0, .ref (ad 25)), (1, .int a1), (2, .int a2)]) hx hb dX1_meet_52 hl (by decide) rfl (fun ls hl => ?_)
    refine lv_iload_n hx hb dX1_meet_54 rfl (lv_at hl 4 rfl) ?_
    refine lv_iload hx hb dX1_meet_55 (lv_at hl 1 rfl) ?_
    refine lv_iconst (v := 1) hx hb dX1_meet_57 (by decide) ?_
    refine lv_iadd hx hb dX1_meet_58 ?_
    refine lv_iconst (v := 2) hx hb dX1_meet_59 (by decide) ?_
    obtain ⟨v1, h35, hf⟩ := bd_e hf
    obtain ⟨h35z, h35e⟩ := q_dv h35
    refine lv_idiv hx hb dX1_meet_60 h35z ?_
    rw [← h35e]
    refine lv_isub hx hb dX1_meet_61 ?_
    refine lv_aload_n hx hb dX1_meet_62 rfl (lv_at hl 3 rfl) ?_
    refine g_X1_one hx hb hX1 hown hKK hP (show qk 25 = 1 from rfl) K18 dX1_meet_63 ?_
    refine g_X0_at hx hb hX0 hown hKK hP (show qk 37 = 0 from rfl) K45 dX1_meet_66 ?_
    refine g_X3_top hx hb hX3 hown hKK hP (show qk 41 = 3 from rfl) K54 dX1_meet_69 ?_
    refine lv_aload_n hx hb dX1_meet_72 rfl (lv_at hl 3 rfl) ?_
    refine g_X1_one hx hb hX1 hown hKK hP (show qk 25 = 1 from rfl) K18 dX1_meet_73 ?_
    refine g_X0_after hx hb hX0 hown hKK hP (show qk 37 = 0 from rfl) K68 dX1_meet_76 ?_
    refine g_X3_top hx hb hX3 hown hKK hP (show qk 44 = 3 from rfl) K54 dX1_meet_79 ?_
    refine lv_iload_n hx hb dX1_meet_82 rfl (lv_at hl 2 rfl) ?_
    refine lv_isub hx hb dX1_meet_83 ?_
    refine va_mmin hx hb (hml.trans hl.1.symm) hown K80 (hts _ (List.mem_cons_of_mem _ (List.mem_append_left _ (List.mem_append_left _ (List.mem_append_left _ (List.mem_append_left _ (List.mem_of_getElem? (i := 12) rfl))))))) (hts _ (List.mem_cons_of_mem _ (List.mem_append_left _ (List.mem_append_left _ (List.mem_append_left _ (List.mem_append_left _ (List.mem_of_getElem? (i := 8) rfl))))))) (hts _ (List.mem_cons_of_mem _ (List.mem_append_left _ (List.mem_append_left _ (List.mem_append_left _ (List.mem_append_left _ (List.mem_of_getElem? (i := 13) rfl))))))) (Nat.le_of_ble_eq_true rfl) (Nat.le_of_ble_eq_true rfl) (Nat.le_of_ble_eq_true rfl) (Nat.le_of_ble_eq_true rfl) dX1_meet_84 ?_
    refine va_mmin hx hb (hml.trans hl.1.symm) hown K80 (hts _ (List.mem_cons_of_mem _ (List.mem_append_left _ (List.mem_append_left _ (List.mem_append_left _ (List.mem_append_left _ (List.mem_of_getElem? (i := 12) rfl))))))) (hts _ (List.mem_cons_of_mem _ (List.mem_append_left _ (List.mem_append_left _ (List.mem_append_left _ (List.mem_append_left _ (List.mem_of_getElem? (i := 8) rfl))))))) (hts _ (List.mem_cons_of_mem _ (List.mem_append_left _ (List.mem_append_left _ (List.mem_append_left _ (List.mem_append_left _ (List.mem_of_getElem? (i := 13) rfl))))))) (Nat.le_of_ble_eq_true rfl) (Nat.le_of_ble_eq_true rfl) (Nat.le_of_ble_eq_true rfl) (Nat.le_of_ble_eq_true rfl) dX1_meet_87 ?_
    refine lv_istore (lv' := [(6, .int (if (if ((S.1 44 3) - (a2 * (S.1 25 5))) < (S.1 41 3) then ((S.1 44 3) - (a2 * (S.1 25 5))) else (S.1 41 3)) < (a1 - v1) then (if ((S.1 44 3) - (a2 * (S.1 25 5))) < (S.1 41 3) then ((S.1 44 3) - (a2 * (S.1 25 5))) else (S.1 41 3)) else (a1 - v1))), (5, .int (if (a1 - (a2 * ((S.1 25 4) + (S.1 25 5)))) < (if (S.1 41 2) < ((S.1 44 2) - (a2 * (S.1 25 5))) then ((S.1 44 2) - (a2 * (S.1 25 5))) else (S.1 41 2)) then (if (S.1 41 2) < ((S.1 44 2) - (a2 * (S.1 25 5))) then ((S.1 44 2) - (a2 * (S.1 25 5))) else (S.1 41 2)) else (a1 - (a2 * ((S.1 25 4) + (S.1 25 5)))))), (4, .int (a2 * ((S.1 25 4) + (S.1 25 5)))), (3, .int (a2 * (S.1 25 5))), (0, .ref (ad 25)), (1, .int a1), (2, .int a2)]) hx hb dX1_meet_90 hl (by decide) rfl (fun ls hl => ?_)
    refine lv_lconst (v := 0) hx hb dX1_meet_92 rfl ?_
    refine lv_lstore (lv' := [(7, .long 0), (6, .int (if (if ((S.1 44 3) - (a2 * (S.1 25 5))) < (S.1 41 3) then ((S.1 44 3) - (a2 * (S.1 25 5))) else (S.1 41 3)) < (a1 - v1) then (if ((S.1 44 3) - (a2 * (S.1 25 5))) < (S.1 41 3) then ((S.1 44 3) - (a2 * (S.1 25 5))) else (S.1 41 3)) else (a1 - v1))), (5, .int (if (a1 - (a2 * ((S.1 25 4) + (S.1 25 5)))) < (if (S.1 41 2) < ((S.1 44 2) - (a2 * (S.1 25 5))) then ((S.1 44 2) - (a2 * (S.1 25 5))) else (S.1 41 2)) then (if (S.1 41 2) < ((S.1 44 2) - (a2 * (S.1 25 5))) then ((S.1 44 2) - (a2 * (S.1 25 5))) else (S.1 41 2)) else (a1 - (a2 * ((S.1 25 4) + (S.1 25 5)))))), (4, .int (a2 * ((S.1 25 4) + (S.1 25 5)))), (3, .int (a2 * (S.1 25 5))), (0, .ref (ad 25)), (1, .int a1), (2, .int a2)]) hx hb dX1_meet_93 hl (by decide) rfl (fun ls hl => ?_)
    refine lv_iconst (v := (-1)) hx hb dX1_meet_95 (by decide) ?_
    refine lv_istore (lv' := [(9, .int (-1)), (7, .long 0), (6, .int (if (if ((S.1 44 3) - (a2 * (S.1 25 5))) < (S.1 41 3) then ((S.1 44 3) - (a2 * (S.1 25 5))) else (S.1 41 3)) < (a1 - v1) then (if ((S.1 44 3) - (a2 * (S.1 25 5))) < (S.1 41 3) then ((S.1 44 3) - (a2 * (S.1 25 5))) else (S.1 41 3)) else (a1 - v1))), (5, .int (if (a1 - (a2 * ((S.1 25 4) + (S.1 25 5)))) < (if (S.1 41 2) < ((S.1 44 2) - (a2 * (S.1 25 5))) then ((S.1 44 2) - (a2 * (S.1 25 5))) else (S.1 41 2)) then (if (S.1 41 2) < ((S.1 44 2) - (a2 * (S.1 25 5))) then ((S.1 44 2) - (a2 * (S.1 25 5))) else (S.1 41 2)) else (a1 - (a2 * ((S.1 25 4) + (S.1 25 5)))))), (4, .int (a2 * ((S.1 25 4) + (S.1 25 5)))), (3, .int (a2 * (S.1 25 5))), (0, .ref (ad 25)), (1, .int a1), (2, .int a2)]) hx hb dX1_meet_96 hl (by decide) rfl (fun ls hl => ?_)
    refine lv_iload hx hb dX1_meet_98 (lv_at hl 3 rfl) ?_
    refine lv_istore (lv' := [(10, .int (if (a1 - (a2 * ((S.1 25 4) + (S.1 25 5)))) < (if (S.1 41 2) < ((S.1 44 2) - (a2 * (S.1 25 5))) then ((S.1 44 2) - (a2 * (S.1 25 5))) else (S.1 41 2)) then (if (S.1 41 2) < ((S.1 44 2) - (a2 * (S.1 25 5))) then ((S.1 44 2) - (a2 * (S.1 25 5))) else (S.1 41 2)) else (a1 - (a2 * ((S.1 25 4) + (S.1 25 5)))))), (9, .int (-1)), (7, .long 0), (6, .int (if (if ((S.1 44 3) - (a2 * (S.1 25 5))) < (S.1 41 3) then ((S.1 44 3) - (a2 * (S.1 25 5))) else (S.1 41 3)) < (a1 - v1) then (if ((S.1 44 3) - (a2 * (S.1 25 5))) < (S.1 41 3) then ((S.1 44 3) - (a2 * (S.1 25 5))) else (S.1 41 3)) else (a1 - v1))), (5, .int (if (a1 - (a2 * ((S.1 25 4) + (S.1 25 5)))) < (if (S.1 41 2) < ((S.1 44 2) - (a2 * (S.1 25 5))) then ((S.1 44 2) - (a2 * (S.1 25 5))) else (S.1 41 2)) then (if (S.1 41 2) < ((S.1 44 2) - (a2 * (S.1 25 5))) then ((S.1 44 2) - (a2 * (S.1 25 5))) else (S.1 41 2)) else (a1 - (a2 * ((S.1 25 4) + (S.1 25 5)))))), (4, .int (a2 * ((S.1 25 4) + (S.1 25 5)))), (3, .int (a2 * (S.1 25 5))), (0, .ref (ad 25)), (1, .int a1), (2, .int a2)]) hx hb dX1_meet_100 hl (by decide) rfl (fun ls hl => ?_)
    obtain ⟨q6, hq6, hf⟩ := bd_e hf
    have J1 : ∀ (H : Heap) (locs : List Loc) (ls : Array Slot), va_P D vwCl (wd ca ad q6.2.2) H → va_S (Aq ad s.heap.size) s.heap H locs → lv_has ls 13 [(0, .ref (ad 25)), (1, .int a1), (2, .int a2), (7, .long q6.1), (9, .int q6.2.1)] → W p l e rm_X1_meet s m args below meth c H locs 0 0 (Zv below D ca ad args s o) (F0 m 232 ls []) := by
      intro H locs ls hP hS hl
      refine lv_lload hx hb dX1_meet_232 (lv_at hl 3 rfl) ?_
      refine lv_lconst (v := 0) hx hb dX1_meet_234 rfl ?_
      refine W.lcmp hx hb dX1_meet_235 ?_
      refine lv_if_le (tgt := 331) hx hb dX1_meet_236 (by decide) (fun w => ?_) (fun w => ?_)
      · have hf := if_t w hf
        obtain rfl := Option.some.inj hf
        exact r_vret hx hb hr hP hS dX1_meet_331 hlocks
      · have hf := if_f w hf
        refine lv_iload_n hx hb dX1_meet_239 rfl (lv_at hl 1 rfl) ?_
        refine lv_iload_n hx hb dX1_meet_240 rfl (lv_at hl 2 rfl) ?_
        refine lv_aload_n hx hb dX1_meet_241 rfl (lv_at hl 0 rfl) ?_
        refine g_X1_loss hx hb hX1 hown hKK hP (show qk 25 = 1 from rfl) K29 dX1_meet_242 ?_
        refine lv_imul hx hb dX1_meet_245 ?_
        refine lv_isub hx hb dX1_meet_246 ?_
        refine lv_istore (lv' := [(10, .int (a1 - (a2 * (q6.2.2.1 25 4)))), (0, .ref (ad 25)), (1, .int a1), (2, .int a2), (7, .long q6.1), (9, .int q6.2.1)]) hx hb dX1_meet_247 hl (by decide) rfl (fun ls hl => ?_)
        refine lv_aload_n hx hb dX1_meet_249 rfl (lv_at hl 1 rfl) ?_
        refine g_X1_zero hx hb hX1 hown hKK hP (show qk 25 = 1 from rfl) K12 dX1_meet_250 ?_
        refine g_X0_at hx hb hX0 hown hKK hP (show qk 26 = 0 from rfl) K45 dX1_meet_253 ?_
        refine lv_iload_n hx hb dX1_meet_256 rfl (lv_at hl 2 rfl) ?_
        obtain ⟨S20, h19, hf⟩ := bd_e hf
        refine r_cv hS (va_runV (As := [.int a1]) (rest := []) ⟨hx, hb, hml, hown, hts⟩ (m_X3_see l D ca ad hj 30 (show qk 30 = 3 from rfl) a1 q6.2.2 _ h19 H.size) (cwV 1 hts gX1_meet_X3_see rfl rfl rfl (by decide +kernel) ⟨Nat.le_of_ble_eq_true rfl, Nat.le_of_ble_eq_true rfl⟩) (r_preV hKK hP (show qk 30 = 3 from rfl) rfl) rfl rfl hl.1 rfl (lv_room (Nat.le_of_ble_eq_true rfl)) dX1_meet_257 ⟨Nat.le_of_ble_eq_true rfl, Nat.le_of_ble_eq_true rfl⟩) (fun H locs hP hS => ?_)
        refine lv_aload_n hx hb dX1_meet_260 rfl (lv_at hl 1 rfl) ?_
        refine g_X1_zero hx hb hX1 hown hKK hP (show qk 25 = 1 from rfl) K12 dX1_meet_261 ?_
        refine g_X0_after hx hb hX0 hown hKK hP (show qk 26 = 0 from rfl) K68 dX1_meet_264 ?_
        refine lv_iload hx hb dX1_meet_267 (lv_at hl 0 rfl) ?_
        obtain ⟨S22, h21, hf⟩ := bd_e hf
        refine r_cv hS (va_runV (As := [.int (a1 - (a2 * (q6.2.2.1 25 4)))]) (rest := []) ⟨hx, hb, hml, hown, hts⟩ (m_X3_see l D ca ad hj 33 (show qk 33 = 3 from rfl) (a1 - (a2 * (q6.2.2.1 25 4))) S20 _ h21 H.size) (cwV 1 hts gX1_meet_X3_see rfl rfl rfl (by decide +kernel) ⟨Nat.le_of_ble_eq_true rfl, Nat.le_of_ble_eq_true rfl⟩) (r_preV hKK hP (show qk 33 = 3 from rfl) rfl) rfl rfl hl.1 rfl (lv_room (Nat.le_of_ble_eq_true rfl)) dX1_meet_269 ⟨Nat.le_of_ble_eq_true rfl, Nat.le_of_ble_eq_true rfl⟩) (fun H locs hP hS => ?_)
        refine lv_aload_n hx hb dX1_meet_272 rfl (lv_at hl 1 rfl) ?_
        refine lv_dup hx hb dX1_meet_273 rfl ?_
        refine g_X1_wayCount hx hb hX1 hown hKK hP (show qk 25 = 1 from rfl) K21 dX1_meet_274 ?_
        refine lv_lload hx hb dX1_meet_277 (lv_at hl 4 rfl) ?_
        refine lv_aload_n hx hb dX1_meet_279 rfl (lv_at hl 1 rfl) ?_
        refine g_X1_zero hx hb hX1 hown hKK hP (show qk 25 = 1 from rfl) K12 dX1_meet_280 ?_
        refine lv_iload_n hx hb dX1_meet_283 rfl (lv_at hl 2 rfl) ?_
        obtain ⟨v24, h23, hf⟩ := bd_e hf
        refine r_ci hS (va_runV (As := [.int a1]) (rest := [.long q6.1, .long (S22.2 25), .ref (ad 25)]) ⟨hx, hb, hml, hown, hts⟩ (m_X0_firstCount l D ca ad hj 26 (show qk 26 = 0 from rfl) a1 S22 _ h23 H.size) (cwV 1 hts gX1_meet_X0_firstCount rfl rfl rfl (by decide +kernel) ⟨Nat.le_of_ble_eq_true rfl, Nat.le_of_ble_eq_true rfl⟩) (r_preV hKK hP (show qk 26 = 0 from rfl) rfl) rfl rfl hl.1 rfl (lv_room (Nat.le_of_ble_eq_true rfl)) dX1_meet_284 ⟨Nat.le_of_ble_eq_true rfl, Nat.le_of_ble_eq_true rfl⟩) (fun H locs hP hS => ?_)
        refine lv_i2l (v := v24.toInt64) hx hb dX1_meet_287 rfl ?_
        refine lv_lmul hx hb dX1_meet_288 ?_
        refine lv_ladd hx hb dX1_meet_289 ?_
        obtain ⟨S25, h26, hf⟩ := bd_e hf
        refine p_X1_wayCount hx hb hX1 hown hj hKK hP hS (show qk 25 = 1 from rfl) h26 K21 dX1_meet_290 (fun H locs hP hS => ?_)
        refine lv_aload_n hx hb dX1_meet_293 rfl (lv_at hl 1 rfl) ?_
        refine lv_aload_n hx hb dX1_meet_294 rfl (lv_at hl 1 rfl) ?_
        refine g_X1_cheapest hx hb hX1 hown hKK hP (show qk 25 = 1 from rfl) K25 dX1_meet_295 ?_
        refine lv_iload hx hb dX1_meet_298 (lv_at hl 5 rfl) ?_
        refine lv_aload_n hx hb dX1_meet_300 rfl (lv_at hl 1 rfl) ?_
        refine g_X1_zero hx hb hX1 hown hKK hP (show qk 25 = 1 from rfl) K12 dX1_meet_301 ?_
        refine g_X0_at hx hb hX0 hown hKK hP (show qk 26 = 0 from rfl) K45 dX1_meet_304 ?_
        refine lv_iload_n hx hb dX1_meet_307 rfl (lv_at hl 2 rfl) ?_
        obtain ⟨v28, h27, hf⟩ := bd_e hf
        refine r_ci hS (va_runV (As := [.int a1]) (rest := [.int q6.2.1, .int (S25.1 25 3), .ref (ad 25)]) ⟨hx, hb, hml, hown, hts⟩ (m_X3_priceOf l D ca ad hj 30 (show qk 30 = 3 from rfl) a1 S25 _ h27 H.size) (cwV 1 hts gX1_meet_X3_priceOf rfl rfl rfl (by decide +kernel) ⟨Nat.le_of_ble_eq_true rfl, Nat.le_of_ble_eq_true rfl⟩) (r_preV hKK hP (show qk 30 = 3 from rfl) rfl) rfl rfl hl.1 rfl (lv_room (Nat.le_of_ble_eq_true rfl)) dX1_meet_308 ⟨Nat.le_of_ble_eq_true rfl, Nat.le_of_ble_eq_true rfl⟩) (fun H locs hP hS => ?_)
        refine lv_iadd hx hb dX1_meet_311 ?_
        refine lv_aload_n hx hb dX1_meet_312 rfl (lv_at hl 1 rfl) ?_
        refine g_X1_zero hx hb hX1 hown hKK hP (show qk 25 = 1 from rfl) K12 dX1_meet_313 ?_
        refine g_X0_after hx hb hX0 hown hKK hP (show qk 26 = 0 from rfl) K68 dX1_meet_316 ?_
        refine lv_iload hx hb dX1_meet_319 (lv_at hl 0 rfl) ?_
        obtain ⟨v30, h29, hf⟩ := bd_e hf
        refine r_ci hS (va_runV (As := [.int (a1 - (a2 * (q6.2.2.1 25 4)))]) (rest := [.int (q6.2.1 + v28), .int (S25.1 25 3), .ref (ad 25)]) ⟨hx, hb, hml, hown, hts⟩ (m_X3_priceOf l D ca ad hj 33 (show qk 33 = 3 from rfl) (a1 - (a2 * (q6.2.2.1 25 4))) S25 _ h29 H.size) (cwV 1 hts gX1_meet_X3_priceOf rfl rfl rfl (by decide +kernel) ⟨Nat.le_of_ble_eq_true rfl, Nat.le_of_ble_eq_true rfl⟩) (r_preV hKK hP (show qk 33 = 3 from rfl) rfl) rfl rfl hl.1 rfl (lv_room (Nat.le_of_ble_eq_true rfl)) dX1_meet_321 ⟨Nat.le_of_ble_eq_true rfl, Nat.le_of_ble_eq_true rfl⟩) (fun H locs hP hS => ?_)
        refine lv_iadd hx hb dX1_meet_324 ?_
        obtain ⟨v32, h31, hf⟩ := bd_e hf
        refine r_ci hS (va_runSN (As := [.int (S25.1 25 3), .int ((q6.2.1 + v28) + v30)]) (rest := [.ref (ad 25)]) ⟨hx, hb, hml, hown, hts⟩ (m_X5_cheaper l D ca ad hj (S25.1 25 3) ((q6.2.1 + v28) + v30) S25 _ h31 H.size) ⟨va_cnB 2 hts ggX1_meet_X5_cheaper rfl rfl rfl (hKK.2 _ (List.mem_of_getElem? (i := 4) rfl)) (hts _ (List.mem_cons_of_mem _ (List.mem_append_left _ (List.mem_append_left _ (List.mem_append_left _ (List.mem_append_left _ (List.mem_of_getElem? (i := 18) rfl))))))) (by decide +kernel) ⟨Nat.le_of_ble_eq_true rfl, Nat.le_of_ble_eq_true rfl⟩, hts _ (List.mem_cons_of_mem _ (List.mem_append_left _ (List.mem_append_left _ (List.mem_append_left _ (List.mem_append_left _ (List.mem_of_getElem? (i := 17) rfl)))))), trivial⟩ (r_pre hKK hP) rfl rfl hl.1 rfl (lv_room (Nat.le_of_ble_eq_true rfl)) dX1_meet_325 ⟨Nat.le_of_ble_eq_true rfl, Nat.le_of_ble_eq_true rfl⟩) (fun H locs hP hS => ?_)
        obtain ⟨S33, h34, hf⟩ := bd_e hf
        obtain rfl := Option.some.inj h34
        refine p_X1_cheapest hx hb hX1 hown hj hKK hP hS (show qk 25 = 1 from rfl) K25 dX1_meet_328 (fun H locs hP hS => ?_)
        obtain rfl := Option.some.inj hf
        exact r_vret hx hb hr hP hS dX1_meet_331 hlocks
    replace hf := hq6
    have L1 : ∀ (fuel : Nat) (w2 : Int64) (v3 : Int32) (v4 : Int32) (S5 : QS), lp_X1_meet_102 a1 a2 S v1 fuel w2 v3 v4 S5 = some q6 → ∀ (H : Heap) (locs : List Loc) (ls : Array Slot), va_P D vwCl (wd ca ad S5) H → va_S (Aq ad s.heap.size) s.heap H locs → lv_has ls 13 [(0, .ref (ad 25)), (1, .int a1), (2, .int a2), (3, .int (a2 * (S.1 25 5))), (6, .int (if (if ((S.1 44 3) - (a2 * (S.1 25 5))) < (S.1 41 3) then ((S.1 44 3) - (a2 * (S.1 25 5))) else (S.1 41 3)) < (a1 - v1) then (if ((S.1 44 3) - (a2 * (S.1 25 5))) < (S.1 41 3) then ((S.1 44 3) - (a2 * (S.1 25 5))) else (S.1 41 3)) else (a1 - v1))), (7, .long w2), (9, .int v3), (10, .int v4)] → W p l e rm_X1_meet s m args below meth c H locs 0 0 (Zv below D ca ad args s o) (F0 m 102 ls []) := by
      intro fuel
      induction fuel with
      | zero =>
        intro w2 v3 v4 S5 hf
        simp [lp_X1_meet_102] at hf
      | succ fuel ih =>
        intro w2 v3 v4 S5 hf H locs ls hP hS hl
        rw [lp_X1_meet_102] at hf
        refine lv_iload hx hb dX1_meet_102 (lv_at hl 7 rfl) ?_
        refine lv_iload hx hb dX1_meet_104 (lv_at hl 4 rfl) ?_
        refine lv_icmp_gt (tgt := 232) hx hb dX1_meet_106 (by decide) (fun w => ?_) (fun w => ?_)
        · have hf := if_t w hf
          obtain rfl := Option.some.inj hf
          exact J1 _ _ _ hP hS (lv_sub hl [0, 1, 2, 5, 6] rfl)
        · have hf := if_f w hf
          refine lv_aload_n hx hb dX1_meet_109 rfl (lv_at hl 0 rfl) ?_
          refine g_X1_one hx hb hX1 hown hKK hP (show qk 25 = 1 from rfl) K18 dX1_meet_110 ?_
          refine g_X0_at hx hb hX0 hown hKK hP (show qk 37 = 0 from rfl) K45 dX1_meet_113 ?_
          refine gN_X3_prices hx hb hX3 hown hKK hP (show qk 41 = 3 from rfl) (hKK.2 _ (List.mem_of_getElem? (i := 0) rfl)) dX1_meet_116 ?_
          refine lv_iload hx hb dX1_meet_119 (lv_at hl 7 rfl) ?_
          refine lv_bipush (v := (-50)) hx hb dX1_meet_121 (by decide) ?_
          refine lv_isub hx hb dX1_meet_123 ?_
          obtain ⟨v7, h8, hf⟩ := bd_e hf
          refine r_iald hx hb hKK hP (show qk 42 = 7 from rfl) (show qn 42 = 101 from rfl) h8 dX1_meet_124 ?_
          refine lv_istore (lv' := [(11, .int v7), (0, .ref (ad 25)), (1, .int a1), (2, .int a2), (3, .int (a2 * (S.1 25 5))), (6, .int (if (if ((S.1 44 3) - (a2 * (S.1 25 5))) < (S.1 41 3) then ((S.1 44 3) - (a2 * (S.1 25 5))) else (S.1 41 3)) < (a1 - v1) then (if ((S.1 44 3) - (a2 * (S.1 25 5))) < (S.1 41 3) then ((S.1 44 3) - (a2 * (S.1 25 5))) else (S.1 41 3)) else (a1 - v1))), (7, .long w2), (9, .int v3), (10, .int v4)]) hx hb dX1_meet_125 hl (by decide) rfl (fun ls hl => ?_)
          refine lv_aload_n hx hb dX1_meet_127 rfl (lv_at hl 1 rfl) ?_
          refine g_X1_one hx hb hX1 hown hKK hP (show qk 25 = 1 from rfl) K18 dX1_meet_128 ?_
          refine g_X0_after hx hb hX0 hown hKK hP (show qk 37 = 0 from rfl) K68 dX1_meet_131 ?_
          refine gN_X3_prices hx hb hX3 hown hKK hP (show qk 44 = 3 from rfl) (hKK.2 _ (List.mem_of_getElem? (i := 0) rfl)) dX1_meet_134 ?_
          refine lv_iload hx hb dX1_meet_137 (lv_at hl 8 rfl) ?_
          refine lv_iload_n hx hb dX1_meet_139 rfl (lv_at hl 4 rfl) ?_
          refine lv_iadd hx hb dX1_meet_140 ?_
          refine lv_bipush (v := (-50)) hx hb dX1_meet_141 (by decide) ?_
          refine lv_isub hx hb dX1_meet_143 ?_
          obtain ⟨v9, h10, hf⟩ := bd_e hf
          refine r_iald hx hb hKK hP (show qk 45 = 7 from rfl) (show qn 45 = 101 from rfl) h10 dX1_meet_144 ?_
          refine lv_istore (lv' := [(12, .int v9), (11, .int v7), (0, .ref (ad 25)), (1, .int a1), (2, .int a2), (3, .int (a2 * (S.1 25 5))), (6, .int (if (if ((S.1 44 3) - (a2 * (S.1 25 5))) < (S.1 41 3) then ((S.1 44 3) - (a2 * (S.1 25 5))) else (S.1 41 3)) < (a1 - v1) then (if ((S.1 44 3) - (a2 * (S.1 25 5))) < (S.1 41 3) then ((S.1 44 3) - (a2 * (S.1 25 5))) else (S.1 41 3)) else (a1 - v1))), (7, .long w2), (9, .int v3), (10, .int v4)]) hx hb dX1_meet_145 hl (by decide) rfl (fun ls hl => ?_)
          refine lv_iload hx hb dX1_meet_147 (lv_at hl 1 rfl) ?_
          refine lv_iconst (v := (-1)) hx hb dX1_meet_149 (by decide) ?_
          refine lv_icmp_eq (tgt := 226) hx hb dX1_meet_150 (by decide) (fun w => ?_) (fun w => ?_)
          · have hf := if_t w hf
            refine lv_iinc (v := (v4 + 1)) (lv' := [(10, .int (v4 + 1)), (12, .int v9), (11, .int v7), (0, .ref (ad 25)), (1, .int a1), (2, .int a2), (3, .int (a2 * (S.1 25 5))), (6, .int (if (if ((S.1 44 3) - (a2 * (S.1 25 5))) < (S.1 41 3) then ((S.1 44 3) - (a2 * (S.1 25 5))) else (S.1 41 3)) < (a1 - v1) then (if ((S.1 44 3) - (a2 * (S.1 25 5))) < (S.1 41 3) then ((S.1 44 3) - (a2 * (S.1 25 5))) else (S.1 41 3)) else (a1 - v1))), (7, .long w2), (9, .int v3)]) hx hb dX1_meet_226 hl (k := 9) rfl rfl (by decide) rfl (fun ls hl => ?_)
            refine lv_goto (tgt := 102) hx hb dX1_meet_229 (by decide) ?_
            exact ih _ _ _ _ hf _ _ _ hP hS (lv_sub hl [3, 4, 5, 6, 7, 8, 9, 0] rfl)
          · have hf := if_f w hf
            refine lv_iload hx hb dX1_meet_153 (lv_at hl 0 rfl) ?_
            refine lv_iconst (v := (-1)) hx hb dX1_meet_155 (by decide) ?_
            refine lv_icmp_eq (tgt := 226) hx hb dX1_meet_156 (by decide) (fun w => ?_) (fun w => ?_)
            · have hf := if_t w hf
              refine lv_iinc (v := (v4 + 1)) (lv' := [(10, .int (v4 + 1)), (12, .int v9), (11, .int v7), (0, .ref (ad 25)), (1, .int a1), (2, .int a2), (3, .int (a2 * (S.1 25 5))), (6, .int (if (if ((S.1 44 3) - (a2 * (S.1 25 5))) < (S.1 41 3) then ((S.1 44 3) - (a2 * (S.1 25 5))) else (S.1 41 3)) < (a1 - v1) then (if ((S.1 44 3) - (a2 * (S.1 25 5))) < (S.1 41 3) then ((S.1 44 3) - (a2 * (S.1 25 5))) else (S.1 41 3)) else (a1 - v1))), (7, .long w2), (9, .int v3)]) hx hb dX1_meet_226 hl (k := 9) rfl rfl (by decide) rfl (fun ls hl => ?_)
              refine lv_goto (tgt := 102) hx hb dX1_meet_229 (by decide) ?_
              exact ih _ _ _ _ hf _ _ _ hP hS (lv_sub hl [3, 4, 5, 6, 7, 8, 9, 0] rfl)
            · have hf := if_f w hf
              refine lv_lload hx hb dX1_meet_159 (lv_at hl 7 rfl) ?_
              refine lv_aload_n hx hb dX1_meet_161 rfl (lv_at hl 2 rfl) ?_
              refine g_X1_one hx hb hX1 hown hKK hP (show qk 25 = 1 from rfl) K18 dX1_meet_162 ?_
              refine gN_X0_firstCounts hx hb hX0 hown hKK hP (show qk 37 = 0 from rfl) (hKK.2 _ (List.mem_of_getElem? (i := 2) rfl)) dX1_meet_165 ?_
              refine lv_iload hx hb dX1_meet_168 (lv_at hl 9 rfl) ?_
              refine lv_bipush (v := (-50)) hx hb dX1_meet_170 (by decide) ?_
              refine lv_isub hx hb dX1_meet_172 ?_
              obtain ⟨v11, h12, hf⟩ := bd_e hf
              refine r_iald hx hb hKK hP (show qk 47 = 7 from rfl) (show qn 47 = 101 from rfl) h12 dX1_meet_173 ?_
              refine lv_i2l (v := v11.toInt64) hx hb dX1_meet_174 rfl ?_
              refine lv_ladd hx hb dX1_meet_175 ?_
              refine lv_lstore (lv' := [(7, .long (w2 + v11.toInt64)), (12, .int v9), (11, .int v7), (0, .ref (ad 25)), (1, .int a1), (2, .int a2), (3, .int (a2 * (S.1 25 5))), (6, .int (if (if ((S.1 44 3) - (a2 * (S.1 25 5))) < (S.1 41 3) then ((S.1 44 3) - (a2 * (S.1 25 5))) else (S.1 41 3)) < (a1 - v1) then (if ((S.1 44 3) - (a2 * (S.1 25 5))) < (S.1 41 3) then ((S.1 44 3) - (a2 * (S.1 25 5))) else (S.1 41 3)) else (a1 - v1))), (9, .int v3), (10, .int v4)]) hx hb dX1_meet_176 hl (by decide) rfl (fun ls hl => ?_)
              refine lv_iload hx hb dX1_meet_178 (lv_at hl 8 rfl) ?_
              refine lv_iload hx hb dX1_meet_180 (lv_at hl 2 rfl) ?_
              refine lv_iload hx hb dX1_meet_182 (lv_at hl 1 rfl) ?_
              refine lv_iadd hx hb dX1_meet_184 ?_
              obtain ⟨v14, h13, hf⟩ := bd_e hf
              refine r_ci hS (va_runSN (As := [.int v3, .int (v7 + v9)]) (rest := []) ⟨hx, hb, hml, hown, hts⟩ (m_X5_cheaper l D ca ad hj v3 (v7 + v9) S5 _ h13 H.size) ⟨va_cnB 2 hts ggX1_meet_X5_cheaper rfl rfl rfl (hKK.2 _ (List.mem_of_getElem? (i := 4) rfl)) (hts _ (List.mem_cons_of_mem _ (List.mem_append_left _ (List.mem_append_left _ (List.mem_append_left _ (List.mem_append_left _ (List.mem_of_getElem? (i := 18) rfl))))))) (by decide +kernel) ⟨Nat.le_of_ble_eq_true rfl, Nat.le_of_ble_eq_true rfl⟩, hts _ (List.mem_cons_of_mem _ (List.mem_append_left _ (List.mem_append_left _ (List.mem_append_left _ (List.mem_append_left _ (List.mem_of_getElem? (i := 17) rfl)))))), trivial⟩ (r_pre hKK hP) rfl rfl hl.1 rfl (lv_room (Nat.le_of_ble_eq_true rfl)) dX1_meet_185 ⟨Nat.le_of_ble_eq_true rfl, Nat.le_of_ble_eq_true rfl⟩) (fun H locs hP hS => ?_)
              refine lv_istore (lv' := [(9, .int v14), (7, .long (w2 + v11.toInt64)), (12, .int v9), (11, .int v7), (0, .ref (ad 25)), (1, .int a1), (2, .int a2), (3, .int (a2 * (S.1 25 5))), (6, .int (if (if ((S.1 44 3) - (a2 * (S.1 25 5))) < (S.1 41 3) then ((S.1 44 3) - (a2 * (S.1 25 5))) else (S.1 41 3)) < (a1 - v1) then (if ((S.1 44 3) - (a2 * (S.1 25 5))) < (S.1 41 3) then ((S.1 44 3) - (a2 * (S.1 25 5))) else (S.1 41 3)) else (a1 - v1))), (10, .int v4)]) hx hb dX1_meet_188 hl (by decide) rfl (fun ls hl => ?_)
              refine lv_aload_n hx hb dX1_meet_190 rfl (lv_at hl 4 rfl) ?_
              refine g_X1_one hx hb hX1 hown hKK hP (show qk 25 = 1 from rfl) K18 dX1_meet_191 ?_
              refine g_X0_at hx hb hX0 hown hKK hP (show qk 37 = 0 from rfl) K45 dX1_meet_194 ?_
              refine gN_X3_seen hx hb hX3 hown hKK hP (show qk 41 = 3 from rfl) (hKK.2 _ (List.mem_of_getElem? (i := 1) rfl)) dX1_meet_197 ?_
              refine lv_iload hx hb dX1_meet_200 (lv_at hl 9 rfl) ?_
              refine lv_bipush (v := (-50)) hx hb dX1_meet_202 (by decide) ?_
              refine lv_isub hx hb dX1_meet_204 ?_
              refine lv_iconst (v := 1) hx hb dX1_meet_205 (by decide) ?_
              obtain ⟨S15, h16, hf⟩ := bd_e hf
              refine r_zast hx hb hj hKK hP hS (show qk 43 = 8 from rfl) (show qn 43 = 101 from rfl) h16 dX1_meet_206 (fun H locs hP hS => ?_)
              refine lv_aload_n hx hb dX1_meet_207 rfl (lv_at hl 4 rfl) ?_
              refine g_X1_one hx hb hX1 hown hKK hP (show qk 25 = 1 from rfl) K18 dX1_meet_208 ?_
              refine g_X0_after hx hb hX0 hown hKK hP (show qk 37 = 0 from rfl) K68 dX1_meet_211 ?_
              refine gN_X3_seen hx hb hX3 hown hKK hP (show qk 44 = 3 from rfl) (hKK.2 _ (List.mem_of_getElem? (i := 1) rfl)) dX1_meet_214 ?_
              refine lv_iload hx hb dX1_meet_217 (lv_at hl 9 rfl) ?_
              refine lv_iload_n hx hb dX1_meet_219 rfl (lv_at hl 7 rfl) ?_
              refine lv_iadd hx hb dX1_meet_220 ?_
              refine lv_bipush (v := (-50)) hx hb dX1_meet_221 (by decide) ?_
              refine lv_isub hx hb dX1_meet_223 ?_
              refine lv_iconst (v := 1) hx hb dX1_meet_224 (by decide) ?_
              obtain ⟨S17, h18, hf⟩ := bd_e hf
              refine r_zast hx hb hj hKK hP hS (show qk 46 = 8 from rfl) (show qn 46 = 101 from rfl) h18 dX1_meet_225 (fun H locs hP hS => ?_)
              refine lv_iinc (v := (v4 + 1)) (lv' := [(10, .int (v4 + 1)), (9, .int v14), (7, .long (w2 + v11.toInt64)), (12, .int v9), (11, .int v7), (0, .ref (ad 25)), (1, .int a1), (2, .int a2), (3, .int (a2 * (S.1 25 5))), (6, .int (if (if ((S.1 44 3) - (a2 * (S.1 25 5))) < (S.1 41 3) then ((S.1 44 3) - (a2 * (S.1 25 5))) else (S.1 41 3)) < (a1 - v1) then (if ((S.1 44 3) - (a2 * (S.1 25 5))) < (S.1 41 3) then ((S.1 44 3) - (a2 * (S.1 25 5))) else (S.1 41 3)) else (a1 - v1)))]) hx hb dX1_meet_226 hl (k := 9) rfl rfl (by decide) rfl (fun ls hl => ?_)
              refine lv_goto (tgt := 102) hx hb dX1_meet_229 (by decide) ?_
              exact ih _ _ _ _ hf _ _ _ hP hS (lv_sub hl [5, 6, 7, 8, 9, 2, 1, 0] rfl)
    exact L1 _ _ _ _ _ hf _ _ _ hP hS (lv_sub hl [7, 8, 9, 6, 3, 2, 1, 0] rfl)
  exact main s.heap [] ls hP va_S.rf hl
def lp_X1_pushFrom_2 (a1 : Int32) : Nat → Int32 → QS → Option QS
  | 0, _, _ => none
  | fuel + 1, v1, S2 => (if 101 < v1 then (some S2)
else (if (a1 - (v1 * (S2.1 25 4))) < (S2.1 33 2) then (some S2)
else ((f_X3_isOpen 33 (a1 - (v1 * (S2.1 25 4))) S2).bind fun v4 =>
if v4 = 0 then (lp_X1_pushFrom_2 a1 fuel (v1 + 1) S2)
else ((f_X1_meet a1 v1 S2).bind fun S6 =>
lp_X1_pushFrom_2 a1 fuel (v1 + 1) S6))))
def f_X1_pushFrom (a1 : Int32) (S : QS) : Option QS :=
lp_X1_pushFrom_2 a1 FU 1 S
def rm_X1_pushFrom : Room := { frames := 2, cells := 0, slots := 0, locals := 53 }
set_option maxRecDepth 100000 in
set_option maxHeartbeats 4000000 in
theorem m_X1_pushFrom (l : Launch) (D : va_G) (ca : Nat → ClassId) (ad : Nat → Nat) (hj : Inj ad) (a1 : Int32) (S : QS) (o : QS) (hf : f_X1_pushFrom a1 S = some o) : Cv l D ca ad yX1_pushFrom wsX1_pushFrom rm_X1_pushFrom [.ref (ad 25), .int a1] S o := by
  intro sz
  refine Met.ofW (cc := cX1_pushFrom) (maxL := 3) (ret := none) (by decide) rfl ?_
  intro p e s m args below meth c s₁ B hml hv
  obtain ⟨hav, hsz, hP, hKK⟩ := hv
  have hx := B.exec
  have hb := B.bytes
  have hr := B.returns
  have hts := atoms_spec (ws := wsX1_pushFrom) B.pre
  have hown : s.vm.findClass RX1 = some m.cls := findClass_of_methodNamed B.named
  have hlocks := B.notSynchronized
  subst hsz
  have hX0 : ∀ w ∈ wsX00, w.before _ s = true := fun w h => hts w (List.mem_cons_of_mem _ (List.mem_append_left _ (List.mem_append_right _ h)))
  have hX1 : ∀ w ∈ wsX10, w.before _ s = true := fun w h => hts w (List.mem_cons_of_mem _ (List.mem_append_left _ (List.mem_append_left _ (List.mem_append_right _ h))))
  have hX3 : ∀ w ∈ wsX30, w.before _ s = true := fun w h => hts w (List.mem_cons_of_mem _ (List.mem_append_right _ h))
  have K12 := hts (Cond.fieldLink RX1 12 "CrashDesk$Meeting" "zero" "LCrashDesk$Car;") (List.mem_cons_of_mem _ (List.mem_append_left _ (List.mem_append_left _ (List.mem_append_left _ (List.mem_append_left _ (List.mem_of_getElem? (i := 1) rfl))))))
  have K29 := hts (Cond.fieldLink RX1 29 "CrashDesk$Meeting" "loss" "I") (List.mem_cons_of_mem _ (List.mem_append_left _ (List.mem_append_left _ (List.mem_append_left _ (List.mem_append_left _ (List.mem_of_getElem? (i := 0) rfl))))))
  have K49 := hts (Cond.fieldLink RX1 49 "CrashDesk$Speed" "bottom" "I") (List.mem_cons_of_mem _ (List.mem_append_left _ (List.mem_append_left _ (List.mem_append_left _ (List.mem_append_left _ (List.mem_of_getElem? (i := 3) rfl))))))
  have K68 := hts (Cond.fieldLink RX1 68 "CrashDesk$Car" "after" "LCrashDesk$Speed;") (List.mem_cons_of_mem _ (List.mem_append_left _ (List.mem_append_left _ (List.mem_append_left _ (List.mem_append_left _ (List.mem_of_getElem? (i := 2) rfl))))))
  have hl := lv_entry [.ref (ad 25), .int a1] (n := 3) (Nat.le_of_ble_eq_true rfl)
  rw [show entryFrame m args 3 = entryFrame m ([.ref (ad 25), .int a1] : List Value).toArray 3 by rw [hav], lg_entry_eq]
  generalize (lg_sl [.ref (ad 25), .int a1] ++ List.replicate (3 - (lg_sl [.ref (ad 25), .int a1]).length) Slot.unset).toArray = ls at hl ⊢
  have hl : lv_has ls 3 [(0, .ref (ad 25)), (1, .int a1)] := hl
  have main : ∀ (H : Heap) (locs : List Loc) (ls : Array Slot), va_P D vwCl (wd ca ad S) H → va_S (Aq ad s.heap.size) s.heap H locs → lv_has ls 3 [(0, .ref (ad 25)), (1, .int a1)] → W p l e rm_X1_pushFrom s m args below meth c H locs 0 0 (Zv below D ca ad args s o) (F0 m 0 ls []) := by
    intro H locs ls hP hS hl
    unfold f_X1_pushFrom at hf
    refine lv_iconst (v := 1) hx hb dX1_pushFrom_0 (by decide) ?_
    refine lv_istore_n (lv' := [(2, .int 1), (0, .ref (ad 25)), (1, .int a1)]) hx hb dX1_pushFrom_1 rfl hl (by decide) rfl (fun ls hl => ?_)
    have L1 : ∀ (fuel : Nat) (v1 : Int32) (S2 : QS), lp_X1_pushFrom_2 a1 fuel v1 S2 = some o → ∀ (H : Heap) (locs : List Loc) (ls : Array Slot), va_P D vwCl (wd ca ad S2) H → va_S (Aq ad s.heap.size) s.heap H locs → lv_has ls 3 [(0, .ref (ad 25)), (1, .int a1), (2, .int v1)] → W p l e rm_X1_pushFrom s m args below meth c H locs 0 0 (Zv below D ca ad args s o) (F0 m 2 ls []) := by
      intro fuel
      induction fuel with
      | zero =>
        intro v1 S2 hf
        simp [lp_X1_pushFrom_2] at hf
      | succ fuel ih =>
        intro v1 S2 hf H locs ls hP hS hl
        rw [lp_X1_pushFrom_2] at hf
        refine lv_iload_n hx hb dX1_pushFrom_2 rfl (lv_at hl 2 rfl) ?_
        refine lv_bipush (v := 101) hx hb dX1_pushFrom_3 (by decide) ?_
        refine lv_icmp_gt (tgt := 62) hx hb dX1_pushFrom_5 (by decide) (fun w => ?_) (fun w => ?_)
        · have hf := if_t w hf
          obtain rfl := Option.some.inj hf
          exact r_vret hx hb hr hP hS dX1_pushFrom_62 hlocks
        · have hf := if_f w hf
          refine lv_iload_n hx hb dX1_pushFrom_8 rfl (lv_at hl 1 rfl) ?_
          refine lv_iload_n hx hb dX1_pushFrom_9 rfl (lv_at hl 2 rfl) ?_
          refine lv_aload_n hx hb dX1_pushFrom_10 rfl (lv_at hl 0 rfl) ?_
          refine g_X1_loss hx hb hX1 hown hKK hP (show qk 25 = 1 from rfl) K29 dX1_pushFrom_11 ?_
          refine lv_imul hx hb dX1_pushFrom_14 ?_
          refine lv_isub hx hb dX1_pushFrom_15 ?_
          refine lv_aload_n hx hb dX1_pushFrom_16 rfl (lv_at hl 0 rfl) ?_
          refine g_X1_zero hx hb hX1 hown hKK hP (show qk 25 = 1 from rfl) K12 dX1_pushFrom_17 ?_
          refine g_X0_after hx hb hX0 hown hKK hP (show qk 26 = 0 from rfl) K68 dX1_pushFrom_20 ?_
          refine g_X3_bottom hx hb hX3 hown hKK hP (show qk 33 = 3 from rfl) K49 dX1_pushFrom_23 ?_
          refine lv_icmp_lt (tgt := 62) hx hb dX1_pushFrom_26 (by decide) (fun w => ?_) (fun w => ?_)
          · have hf := if_t w hf
            obtain rfl := Option.some.inj hf
            exact r_vret hx hb hr hP hS dX1_pushFrom_62 hlocks
          · have hf := if_f w hf
            refine lv_aload_n hx hb dX1_pushFrom_29 rfl (lv_at hl 0 rfl) ?_
            refine g_X1_zero hx hb hX1 hown hKK hP (show qk 25 = 1 from rfl) K12 dX1_pushFrom_30 ?_
            refine g_X0_after hx hb hX0 hown hKK hP (show qk 26 = 0 from rfl) K68 dX1_pushFrom_33 ?_
            refine lv_iload_n hx hb dX1_pushFrom_36 rfl (lv_at hl 1 rfl) ?_
            refine lv_iload_n hx hb dX1_pushFrom_37 rfl (lv_at hl 2 rfl) ?_
            refine lv_aload_n hx hb dX1_pushFrom_38 rfl (lv_at hl 0 rfl) ?_
            refine g_X1_loss hx hb hX1 hown hKK hP (show qk 25 = 1 from rfl) K29 dX1_pushFrom_39 ?_
            refine lv_imul hx hb dX1_pushFrom_42 ?_
            refine lv_isub hx hb dX1_pushFrom_43 ?_
            obtain ⟨v4, h3, hf⟩ := bd_e hf
            refine r_ci hS (va_runV (As := [.int (a1 - (v1 * (S2.1 25 4)))]) (rest := []) ⟨hx, hb, hml, hown, hts⟩ (m_X3_isOpen l D ca ad hj 33 (show qk 33 = 3 from rfl) (a1 - (v1 * (S2.1 25 4))) S2 _ h3 H.size) (cwV 1 hts gX1_pushFrom_X3_isOpen rfl rfl rfl (by decide +kernel) ⟨Nat.le_of_ble_eq_true rfl, Nat.le_of_ble_eq_true rfl⟩) (r_preV hKK hP (show qk 33 = 3 from rfl) rfl) rfl rfl hl.1 rfl (lv_room (Nat.le_of_ble_eq_true rfl)) dX1_pushFrom_44 ⟨Nat.le_of_ble_eq_true rfl, Nat.le_of_ble_eq_true rfl⟩) (fun H locs hP hS => ?_)
            refine lv_if_eq (tgt := 56) hx hb dX1_pushFrom_47 (by decide) (fun w => ?_) (fun w => ?_)
            · have hf := if_t w hf
              refine lv_iinc (v := (v1 + 1)) (lv' := [(2, .int (v1 + 1)), (0, .ref (ad 25)), (1, .int a1)]) hx hb dX1_pushFrom_56 hl (k := 2) rfl rfl (by decide) rfl (fun ls hl => ?_)
              refine lv_goto (tgt := 2) hx hb dX1_pushFrom_59 (by decide) ?_
              exact ih _ _ hf _ _ _ hP hS (lv_sub hl [1, 2, 0] rfl)
            · have hf := if_f w hf
              refine lv_aload_n hx hb dX1_pushFrom_50 rfl (lv_at hl 0 rfl) ?_
              refine lv_iload_n hx hb dX1_pushFrom_51 rfl (lv_at hl 1 rfl) ?_
              refine lv_iload_n hx hb dX1_pushFrom_52 rfl (lv_at hl 2 rfl) ?_
              obtain ⟨S6, h5, hf⟩ := bd_e hf
              refine r_cv hS (va_runV (As := [.int a1, .int v1]) (rest := []) ⟨hx, hb, hml, hown, hts⟩ (m_X1_meet l D ca ad hj a1 v1 S2 _ h5 H.size) (cwV 2 hts gX1_pushFrom_X1_meet rfl rfl rfl (by decide +kernel) ⟨Nat.le_of_ble_eq_true rfl, Nat.le_of_ble_eq_true rfl⟩) (r_preV hKK hP (show qk 25 = 1 from rfl) rfl) rfl rfl hl.1 rfl (lv_room (Nat.le_of_ble_eq_true rfl)) dX1_pushFrom_53 ⟨Nat.le_of_ble_eq_true rfl, Nat.le_of_ble_eq_true rfl⟩) (fun H locs hP hS => ?_)
              refine lv_iinc (v := (v1 + 1)) (lv' := [(2, .int (v1 + 1)), (0, .ref (ad 25)), (1, .int a1)]) hx hb dX1_pushFrom_56 hl (k := 2) rfl rfl (by decide) rfl (fun ls hl => ?_)
              refine lv_goto (tgt := 2) hx hb dX1_pushFrom_59 (by decide) ?_
              exact ih _ _ hf _ _ _ hP hS (lv_sub hl [1, 2, 0] rfl)
    exact L1 _ _ _ hf _ _ _ hP hS (lv_sub hl [1, 2, 0] rfl)
  exact main s.heap [] ls hP va_S.rf hl
def lp_X1_reckon_77  : Nat → Int32 → QS → Option (QS)
  | 0, _, _ => none
  | fuel + 1, v17, S18 => (if (S18.1 30 3) < v17 then (some S18)
else ((f_X3_isOpen 30 v17 S18).bind fun v21 =>
if v21 = 0 then (lp_X1_reckon_77 fuel (v17 + 1) S18)
else ((f_X1_pushFrom v17 S18).bind fun S23 =>
lp_X1_reckon_77 fuel (v17 + 1) S23)))
def f_X1_reckon (S : QS) : Option QS :=
(stL 25 0 S).bind fun S1 =>
(stF 25 3 (-1) S1).bind fun S3 =>
(f_X1_lowestShare (S3.1 37 0) (S3.1 26 0)).bind fun v6 =>
(stF 25 4 v6 S3).bind fun S7 =>
(f_X1_lowestShare (S7.1 26 0) (S7.1 37 0)).bind fun v10 =>
(stF 25 5 v10 S7).bind fun S11 =>
(f_X0_settle 26 S11).bind fun S14 =>
(f_X0_settle 37 S14).bind fun S16 =>
(lp_X1_reckon_77 FU (S16.1 30 2) S16).bind fun q19 =>
(f_X0_seeFirsts 26 q19).bind fun S25 =>
(f_X0_seeFirsts 37 S25).bind fun S27 =>
some S27
def rm_X1_reckon : Room := { frames := 4, cells := 0, slots := 0, locals := 84 }
set_option maxRecDepth 100000 in
set_option maxHeartbeats 4000000 in
theorem m_X1_reckon (l : Launch) (D : va_G) (ca : Nat → ClassId) (ad : Nat → Nat) (hj : Inj ad)  (S : QS) (o : QS) (hf : f_X1_reckon S = some o) : Cv l D ca ad yX1_reckon wsX1_reckon rm_X1_reckon [.ref (ad 25)] S o := by
  intro sz
  refine Met.ofW (cc := cX1_reckon) (maxL := 2) (ret := none) (by decide) rfl ?_
  intro p e s m args below meth c s₁ B hml hv
  obtain ⟨hav, hsz, hP, hKK⟩ := hv
  have hx := B.exec
  have hb := B.bytes
  have hr := B.returns
  have hts := atoms_spec (ws := wsX1_reckon) B.pre
  have hown : s.vm.findClass RX1 = some m.cls := findClass_of_methodNamed B.named
  have hlocks := B.notSynchronized
  subst hsz
  have hX0 : ∀ w ∈ wsX00, w.before _ s = true := fun w h => hts w (List.mem_cons_of_mem _ (List.mem_append_left _ (List.mem_append_right _ h)))
  have hX1 : ∀ w ∈ wsX10, w.before _ s = true := fun w h => hts w (List.mem_cons_of_mem _ (List.mem_append_left _ (List.mem_append_left _ (List.mem_append_right _ h))))
  have hX3 : ∀ w ∈ wsX30, w.before _ s = true := fun w h => hts w (List.mem_cons_of_mem _ (List.mem_append_right _ h))
  have K12 := hts (Cond.fieldLink RX1 12 "CrashDesk$Meeting" "zero" "LCrashDesk$Car;") (List.mem_cons_of_mem _ (List.mem_append_left _ (List.mem_append_left _ (List.mem_append_left _ (List.mem_append_left _ (List.mem_of_getElem? (i := 4) rfl))))))
  have K18 := hts (Cond.fieldLink RX1 18 "CrashDesk$Meeting" "one" "LCrashDesk$Car;") (List.mem_cons_of_mem _ (List.mem_append_left _ (List.mem_append_left _ (List.mem_append_left _ (List.mem_append_left _ (List.mem_of_getElem? (i := 2) rfl))))))
  have K21 := hts (Cond.fieldLink RX1 21 "CrashDesk$Meeting" "wayCount" "J") (List.mem_cons_of_mem _ (List.mem_append_left _ (List.mem_append_left _ (List.mem_append_left _ (List.mem_append_left _ (List.mem_of_getElem? (i := 0) rfl))))))
  have K25 := hts (Cond.fieldLink RX1 25 "CrashDesk$Meeting" "cheapest" "I") (List.mem_cons_of_mem _ (List.mem_append_left _ (List.mem_append_left _ (List.mem_append_left _ (List.mem_append_left _ (List.mem_of_getElem? (i := 1) rfl))))))
  have K29 := hts (Cond.fieldLink RX1 29 "CrashDesk$Meeting" "loss" "I") (List.mem_cons_of_mem _ (List.mem_append_left _ (List.mem_append_left _ (List.mem_append_left _ (List.mem_append_left _ (List.mem_of_getElem? (i := 5) rfl))))))
  have K32 := hts (Cond.fieldLink RX1 32 "CrashDesk$Meeting" "gain" "I") (List.mem_cons_of_mem _ (List.mem_append_left _ (List.mem_append_left _ (List.mem_append_left _ (List.mem_append_left _ (List.mem_of_getElem? (i := 6) rfl))))))
  have K35 := hts (Cond.fieldLink RX1 35 "CrashDesk$Car" "mass" "I") (List.mem_cons_of_mem _ (List.mem_append_left _ (List.mem_append_left _ (List.mem_append_left _ (List.mem_append_left _ (List.mem_of_getElem? (i := 3) rfl))))))
  have K45 := hts (Cond.fieldLink RX1 45 "CrashDesk$Car" "at" "LCrashDesk$Speed;") (List.mem_cons_of_mem _ (List.mem_append_left _ (List.mem_append_left _ (List.mem_append_left _ (List.mem_append_left _ (List.mem_of_getElem? (i := 7) rfl))))))
  have K49 := hts (Cond.fieldLink RX1 49 "CrashDesk$Speed" "bottom" "I") (List.mem_cons_of_mem _ (List.mem_append_left _ (List.mem_append_left _ (List.mem_append_left _ (List.mem_append_left _ (List.mem_of_getElem? (i := 8) rfl))))))
  have K54 := hts (Cond.fieldLink RX1 54 "CrashDesk$Speed" "top" "I") (List.mem_cons_of_mem _ (List.mem_append_left _ (List.mem_append_left _ (List.mem_append_left _ (List.mem_append_left _ (List.mem_of_getElem? (i := 9) rfl))))))
  have hl := lv_entry [.ref (ad 25)] (n := 2) (Nat.le_of_ble_eq_true rfl)
  rw [show entryFrame m args 2 = entryFrame m ([.ref (ad 25)] : List Value).toArray 2 by rw [hav], lg_entry_eq]
  generalize (lg_sl [.ref (ad 25)] ++ List.replicate (2 - (lg_sl [.ref (ad 25)]).length) Slot.unset).toArray = ls at hl ⊢
  have hl : lv_has ls 2 [(0, .ref (ad 25))] := hl
  have main : ∀ (H : Heap) (locs : List Loc) (ls : Array Slot), va_P D vwCl (wd ca ad S) H → va_S (Aq ad s.heap.size) s.heap H locs → lv_has ls 2 [(0, .ref (ad 25))] → W p l e rm_X1_reckon s m args below meth c H locs 0 0 (Zv below D ca ad args s o) (F0 m 0 ls []) := by
    intro H locs ls hP hS hl
    unfold f_X1_reckon at hf
    refine lv_aload_n hx hb dX1_reckon_0 rfl (lv_at hl 0 rfl) ?_
    refine lv_lconst (v := 0) hx hb dX1_reckon_1 rfl ?_
    obtain ⟨S1, h2, hf⟩ := bd_e hf
    refine p_X1_wayCount hx hb hX1 hown hj hKK hP hS (show qk 25 = 1 from rfl) h2 K21 dX1_reckon_2 (fun H locs hP hS => ?_)
    refine lv_aload_n hx hb dX1_reckon_5 rfl (lv_at hl 0 rfl) ?_
    refine lv_iconst (v := (-1)) hx hb dX1_reckon_6 (by decide) ?_
    obtain ⟨S3, h4, hf⟩ := bd_e hf
    obtain rfl := Option.some.inj h4
    refine p_X1_cheapest hx hb hX1 hown hj hKK hP hS (show qk 25 = 1 from rfl) K25 dX1_reckon_7 (fun H locs hP hS => ?_)
    refine lv_aload_n hx hb dX1_reckon_10 rfl (lv_at hl 0 rfl) ?_
    refine lv_aload_n hx hb dX1_reckon_11 rfl (lv_at hl 0 rfl) ?_
    refine g_X1_one hx hb hX1 hown hKK hP (show qk 25 = 1 from rfl) K18 dX1_reckon_12 ?_
    refine g_X0_mass hx hb hX0 hown hKK hP (show qk 37 = 0 from rfl) K35 dX1_reckon_15 ?_
    refine lv_aload_n hx hb dX1_reckon_18 rfl (lv_at hl 0 rfl) ?_
    refine g_X1_zero hx hb hX1 hown hKK hP (show qk 25 = 1 from rfl) K12 dX1_reckon_19 ?_
    refine g_X0_mass hx hb hX0 hown hKK hP (show qk 26 = 0 from rfl) K35 dX1_reckon_22 ?_
    obtain ⟨v6, h5, hf⟩ := bd_e hf
    refine r_ci hS (va_runS (As := [.int ((setF 25 3 (-1) S1).1 37 0), .int ((setF 25 3 (-1) S1).1 26 0)]) (rest := [.ref (ad 25)]) ⟨hx, hb, hml, hown, hts⟩ (m_X1_lowestShare l D ca ad hj ((setF 25 3 (-1) S1).1 37 0) ((setF 25 3 (-1) S1).1 26 0) (setF 25 3 (-1) S1) _ h5 H.size) (cwS 2 hts gX1_reckon_X1_lowestShare rfl rfl rfl (by decide +kernel) ⟨Nat.le_of_ble_eq_true rfl, Nat.le_of_ble_eq_true rfl⟩) (r_pre hKK hP) rfl rfl hl.1 rfl (lv_room (Nat.le_of_ble_eq_true rfl)) dX1_reckon_25 ⟨Nat.le_of_ble_eq_true rfl, Nat.le_of_ble_eq_true rfl⟩) (fun H locs hP hS => ?_)
    obtain ⟨S7, h8, hf⟩ := bd_e hf
    obtain rfl := Option.some.inj h8
    refine p_X1_loss hx hb hX1 hown hj hKK hP hS (show qk 25 = 1 from rfl) K29 dX1_reckon_28 (fun H locs hP hS => ?_)
    refine lv_aload_n hx hb dX1_reckon_31 rfl (lv_at hl 0 rfl) ?_
    refine lv_aload_n hx hb dX1_reckon_32 rfl (lv_at hl 0 rfl) ?_
    refine g_X1_zero hx hb hX1 hown hKK hP (show qk 25 = 1 from rfl) K12 dX1_reckon_33 ?_
    refine g_X0_mass hx hb hX0 hown hKK hP (show qk 26 = 0 from rfl) K35 dX1_reckon_36 ?_
    refine lv_aload_n hx hb dX1_reckon_39 rfl (lv_at hl 0 rfl) ?_
    refine g_X1_one hx hb hX1 hown hKK hP (show qk 25 = 1 from rfl) K18 dX1_reckon_40 ?_
    refine g_X0_mass hx hb hX0 hown hKK hP (show qk 37 = 0 from rfl) K35 dX1_reckon_43 ?_
    obtain ⟨v10, h9, hf⟩ := bd_e hf
    refine r_ci hS (va_runS (As := [.int ((setF 25 4 v6 (setF 25 3 (-1) S1)).1 26 0), .int ((setF 25 4 v6 (setF 25 3 (-1) S1)).1 37 0)]) (rest := [.ref (ad 25)]) ⟨hx, hb, hml, hown, hts⟩ (m_X1_lowestShare l D ca ad hj ((setF 25 4 v6 (setF 25 3 (-1) S1)).1 26 0) ((setF 25 4 v6 (setF 25 3 (-1) S1)).1 37 0) (setF 25 4 v6 (setF 25 3 (-1) S1)) _ h9 H.size) (cwS 2 hts gX1_reckon_X1_lowestShare rfl rfl rfl (by decide +kernel) ⟨Nat.le_of_ble_eq_true rfl, Nat.le_of_ble_eq_true rfl⟩) (r_pre hKK hP) rfl rfl hl.1 rfl (lv_room (Nat.le_of_ble_eq_true rfl)) dX1_reckon_46 ⟨Nat.le_of_ble_eq_true rfl, Nat.le_of_ble_eq_true rfl⟩) (fun H locs hP hS => ?_)
    obtain ⟨S11, h12, hf⟩ := bd_e hf
    obtain rfl := Option.some.inj h12
    refine p_X1_gain hx hb hX1 hown hj hKK hP hS (show qk 25 = 1 from rfl) K32 dX1_reckon_49 (fun H locs hP hS => ?_)
    refine lv_aload_n hx hb dX1_reckon_52 rfl (lv_at hl 0 rfl) ?_
    refine g_X1_zero hx hb hX1 hown hKK hP (show qk 25 = 1 from rfl) K12 dX1_reckon_53 ?_
    obtain ⟨S14, h13, hf⟩ := bd_e hf
    refine r_cv hS (va_runV (As := []) (rest := []) ⟨hx, hb, hml, hown, hts⟩ (m_X0_settle l D ca ad hj 26 (show qk 26 = 0 from rfl) (setF 25 5 v10 (setF 25 4 v6 (setF 25 3 (-1) S1))) _ h13 H.size) (cwV 0 hts gX1_reckon_X0_settle rfl rfl rfl (by decide +kernel) ⟨Nat.le_of_ble_eq_true rfl, Nat.le_of_ble_eq_true rfl⟩) (r_preV hKK hP (show qk 26 = 0 from rfl) rfl) rfl rfl hl.1 rfl (lv_room (Nat.le_of_ble_eq_true rfl)) dX1_reckon_56 ⟨Nat.le_of_ble_eq_true rfl, Nat.le_of_ble_eq_true rfl⟩) (fun H locs hP hS => ?_)
    refine lv_aload_n hx hb dX1_reckon_59 rfl (lv_at hl 0 rfl) ?_
    refine g_X1_one hx hb hX1 hown hKK hP (show qk 25 = 1 from rfl) K18 dX1_reckon_60 ?_
    obtain ⟨S16, h15, hf⟩ := bd_e hf
    refine r_cv hS (va_runV (As := []) (rest := []) ⟨hx, hb, hml, hown, hts⟩ (m_X0_settle l D ca ad hj 37 (show qk 37 = 0 from rfl) S14 _ h15 H.size) (cwV 0 hts gX1_reckon_X0_settle rfl rfl rfl (by decide +kernel) ⟨Nat.le_of_ble_eq_true rfl, Nat.le_of_ble_eq_true rfl⟩) (r_preV hKK hP (show qk 37 = 0 from rfl) rfl) rfl rfl hl.1 rfl (lv_room (Nat.le_of_ble_eq_true rfl)) dX1_reckon_63 ⟨Nat.le_of_ble_eq_true rfl, Nat.le_of_ble_eq_true rfl⟩) (fun H locs hP hS => ?_)
    refine lv_aload_n hx hb dX1_reckon_66 rfl (lv_at hl 0 rfl) ?_
    refine g_X1_zero hx hb hX1 hown hKK hP (show qk 25 = 1 from rfl) K12 dX1_reckon_67 ?_
    refine g_X0_at hx hb hX0 hown hKK hP (show qk 26 = 0 from rfl) K45 dX1_reckon_70 ?_
    refine g_X3_bottom hx hb hX3 hown hKK hP (show qk 30 = 3 from rfl) K49 dX1_reckon_73 ?_
    refine lv_istore_n (lv' := [(1, .int (S16.1 30 2)), (0, .ref (ad 25))]) hx hb dX1_reckon_76 rfl hl (by decide) rfl (fun ls hl => ?_)
    obtain ⟨q19, hq19, hf⟩ := bd_e hf
    have J1 : ∀ (H : Heap) (locs : List Loc) (ls : Array Slot), va_P D vwCl (wd ca ad q19) H → va_S (Aq ad s.heap.size) s.heap H locs → lv_has ls 2 [(0, .ref (ad 25))] → W p l e rm_X1_reckon s m args below meth c H locs 0 0 (Zv below D ca ad args s o) (F0 m 116 ls []) := by
      intro H locs ls hP hS hl
      refine lv_aload_n hx hb dX1_reckon_116 rfl (lv_at hl 0 rfl) ?_
      refine g_X1_zero hx hb hX1 hown hKK hP (show qk 25 = 1 from rfl) K12 dX1_reckon_117 ?_
      obtain ⟨S25, h24, hf⟩ := bd_e hf
      refine r_cv hS (va_runV (As := []) (rest := []) ⟨hx, hb, hml, hown, hts⟩ (m_X0_seeFirsts l D ca ad hj 26 (show qk 26 = 0 from rfl) q19 _ h24 H.size) (cwV 0 hts gX1_reckon_X0_seeFirsts rfl rfl rfl (by decide +kernel) ⟨Nat.le_of_ble_eq_true rfl, Nat.le_of_ble_eq_true rfl⟩) (r_preV hKK hP (show qk 26 = 0 from rfl) rfl) rfl rfl hl.1 rfl (lv_room (Nat.le_of_ble_eq_true rfl)) dX1_reckon_120 ⟨Nat.le_of_ble_eq_true rfl, Nat.le_of_ble_eq_true rfl⟩) (fun H locs hP hS => ?_)
      refine lv_aload_n hx hb dX1_reckon_123 rfl (lv_at hl 0 rfl) ?_
      refine g_X1_one hx hb hX1 hown hKK hP (show qk 25 = 1 from rfl) K18 dX1_reckon_124 ?_
      obtain ⟨S27, h26, hf⟩ := bd_e hf
      refine r_cv hS (va_runV (As := []) (rest := []) ⟨hx, hb, hml, hown, hts⟩ (m_X0_seeFirsts l D ca ad hj 37 (show qk 37 = 0 from rfl) S25 _ h26 H.size) (cwV 0 hts gX1_reckon_X0_seeFirsts rfl rfl rfl (by decide +kernel) ⟨Nat.le_of_ble_eq_true rfl, Nat.le_of_ble_eq_true rfl⟩) (r_preV hKK hP (show qk 37 = 0 from rfl) rfl) rfl rfl hl.1 rfl (lv_room (Nat.le_of_ble_eq_true rfl)) dX1_reckon_127 ⟨Nat.le_of_ble_eq_true rfl, Nat.le_of_ble_eq_true rfl⟩) (fun H locs hP hS => ?_)
      obtain rfl := Option.some.inj hf
      exact r_vret hx hb hr hP hS dX1_reckon_130 hlocks
    replace hf := hq19
    have L1 : ∀ (fuel : Nat) (v17 : Int32) (S18 : QS), lp_X1_reckon_77 fuel v17 S18 = some q19 → ∀ (H : Heap) (locs : List Loc) (ls : Array Slot), va_P D vwCl (wd ca ad S18) H → va_S (Aq ad s.heap.size) s.heap H locs → lv_has ls 2 [(0, .ref (ad 25)), (1, .int v17)] → W p l e rm_X1_reckon s m args below meth c H locs 0 0 (Zv below D ca ad args s o) (F0 m 77 ls []) := by
      intro fuel
      induction fuel with
      | zero =>
        intro v17 S18 hf
        simp [lp_X1_reckon_77] at hf
      | succ fuel ih =>
        intro v17 S18 hf H locs ls hP hS hl
        rw [lp_X1_reckon_77] at hf
        refine lv_iload_n hx hb dX1_reckon_77 rfl (lv_at hl 1 rfl) ?_
        refine lv_aload_n hx hb dX1_reckon_78 rfl (lv_at hl 0 rfl) ?_
        refine g_X1_zero hx hb hX1 hown hKK hP (show qk 25 = 1 from rfl) K12 dX1_reckon_79 ?_
        refine g_X0_at hx hb hX0 hown hKK hP (show qk 26 = 0 from rfl) K45 dX1_reckon_82 ?_
        refine g_X3_top hx hb hX3 hown hKK hP (show qk 30 = 3 from rfl) K54 dX1_reckon_85 ?_
        refine lv_icmp_gt (tgt := 116) hx hb dX1_reckon_88 (by decide) (fun w => ?_) (fun w => ?_)
        · have hf := if_t w hf
          obtain rfl := Option.some.inj hf
          exact J1 _ _ _ hP hS (lv_sub hl [0] rfl)
        · have hf := if_f w hf
          refine lv_aload_n hx hb dX1_reckon_91 rfl (lv_at hl 0 rfl) ?_
          refine g_X1_zero hx hb hX1 hown hKK hP (show qk 25 = 1 from rfl) K12 dX1_reckon_92 ?_
          refine g_X0_at hx hb hX0 hown hKK hP (show qk 26 = 0 from rfl) K45 dX1_reckon_95 ?_
          refine lv_iload_n hx hb dX1_reckon_98 rfl (lv_at hl 1 rfl) ?_
          obtain ⟨v21, h20, hf⟩ := bd_e hf
          refine r_ci hS (va_runV (As := [.int v17]) (rest := []) ⟨hx, hb, hml, hown, hts⟩ (m_X3_isOpen l D ca ad hj 30 (show qk 30 = 3 from rfl) v17 S18 _ h20 H.size) (cwV 1 hts gX1_reckon_X3_isOpen rfl rfl rfl (by decide +kernel) ⟨Nat.le_of_ble_eq_true rfl, Nat.le_of_ble_eq_true rfl⟩) (r_preV hKK hP (show qk 30 = 3 from rfl) rfl) rfl rfl hl.1 rfl (lv_room (Nat.le_of_ble_eq_true rfl)) dX1_reckon_99 ⟨Nat.le_of_ble_eq_true rfl, Nat.le_of_ble_eq_true rfl⟩) (fun H locs hP hS => ?_)
          refine lv_if_eq (tgt := 110) hx hb dX1_reckon_102 (by decide) (fun w => ?_) (fun w => ?_)
          · have hf := if_t w hf
            refine lv_iinc (v := (v17 + 1)) (lv' := [(1, .int (v17 + 1)), (0, .ref (ad 25))]) hx hb dX1_reckon_110 hl (k := 1) rfl rfl (by decide) rfl (fun ls hl => ?_)
            refine lv_goto (tgt := 77) hx hb dX1_reckon_113 (by decide) ?_
            exact ih _ _ hf _ _ _ hP hS (lv_sub hl [1, 0] rfl)
          · have hf := if_f w hf
            refine lv_aload_n hx hb dX1_reckon_105 rfl (lv_at hl 0 rfl) ?_
            refine lv_iload_n hx hb dX1_reckon_106 rfl (lv_at hl 1 rfl) ?_
            obtain ⟨S23, h22, hf⟩ := bd_e hf
            refine r_cv hS (va_runV (As := [.int v17]) (rest := []) ⟨hx, hb, hml, hown, hts⟩ (m_X1_pushFrom l D ca ad hj v17 S18 _ h22 H.size) (cwV 1 hts gX1_reckon_X1_pushFrom rfl rfl rfl (by decide +kernel) ⟨Nat.le_of_ble_eq_true rfl, Nat.le_of_ble_eq_true rfl⟩) (r_preV hKK hP (show qk 25 = 1 from rfl) rfl) rfl rfl hl.1 rfl (lv_room (Nat.le_of_ble_eq_true rfl)) dX1_reckon_107 ⟨Nat.le_of_ble_eq_true rfl, Nat.le_of_ble_eq_true rfl⟩) (fun H locs hP hS => ?_)
            refine lv_iinc (v := (v17 + 1)) (lv' := [(1, .int (v17 + 1)), (0, .ref (ad 25))]) hx hb dX1_reckon_110 hl (k := 1) rfl rfl (by decide) rfl (fun ls hl => ?_)
            refine lv_goto (tgt := 77) hx hb dX1_reckon_113 (by decide) ?_
            exact ih _ _ hf _ _ _ hP hS (lv_sub hl [1, 0] rfl)
    exact L1 _ _ _ hf _ _ _ hP hS (lv_sub hl [1, 0] rfl)
  exact main s.heap [] ls hP va_S.rf hl
end
section
theorem dX6_thrown_0 : decode cX6_thrown 0 = .ok (.aload_n 0, 1) := by decide +kernel
theorem dX6_thrown_1 : decode cX6_thrown 1 = .ok (.getfield 66, 3) := by decide +kernel
theorem dX6_thrown_4 : decode cX6_thrown 4 = .ok (.ireturn, 1) := by decide +kernel
theorem dX6_throwsIf_0 : decode cX6_throwsIf 0 = .ok (.iload_n 1, 1) := by decide +kernel
theorem dX6_throwsIf_1 : decode cX6_throwsIf 1 = .ok (.ifCond .eq 8, 3) := by decide +kernel
theorem dX6_throwsIf_4 : decode cX6_throwsIf 4 = .ok (.aload_n 0, 1) := by decide +kernel
theorem dX6_throwsIf_5 : decode cX6_throwsIf 5 = .ok (.iload_n 2, 1) := by decide +kernel
theorem dX6_throwsIf_6 : decode cX6_throwsIf 6 = .ok (.putfield 66, 3) := by decide +kernel
theorem dX6_throwsIf_9 : decode cX6_throwsIf 9 = .ok (.iload_n 1, 1) := by decide +kernel
theorem dX6_throwsIf_10 : decode cX6_throwsIf 10 = .ok (.ireturn, 1) := by decide +kernel
theorem dX6_in_0 : decode cX6_in 0 = .ok (.iload_n 0, 1) := by decide +kernel
theorem dX6_in_1 : decode cX6_in 1 = .ok (.iload_n 1, 1) := by decide +kernel
theorem dX6_in_2 : decode cX6_in 2 = .ok (.if_icmp .lt 12, 3) := by decide +kernel
theorem dX6_in_5 : decode cX6_in 5 = .ok (.iload_n 0, 1) := by decide +kernel
theorem dX6_in_6 : decode cX6_in 6 = .ok (.iload_n 2, 1) := by decide +kernel
theorem dX6_in_7 : decode cX6_in 7 = .ok (.if_icmp .gt 7, 3) := by decide +kernel
theorem dX6_in_10 : decode cX6_in 10 = .ok (.iconst 1, 1) := by decide +kernel
theorem dX6_in_11 : decode cX6_in 11 = .ok (.goto 4, 3) := by decide +kernel
theorem dX6_in_14 : decode cX6_in 14 = .ok (.iconst 0, 1) := by decide +kernel
theorem dX6_in_15 : decode cX6_in 15 = .ok (.ireturn, 1) := by decide +kernel
set_option maxRecDepth 20000 in
theorem ggX6_noCar_X6_in : GoodIn wsX6_noCar wsX6_in := goodIn_r _ [4] (by decide +kernel) (by decide +kernel)
set_option maxRecDepth 20000 in
theorem gX6_noCar_X6_in : GoodIn wsX6_noCar (va_wsS RX6 70 yX6_in wsX6_in) := goodIn_app (goodIn_of _ (by decide +kernel)) ggX6_noCar_X6_in
theorem dX6_noCar_0 : decode cX6_noCar 0 = .ok (.iload_n 0, 1) := by decide +kernel
theorem dX6_noCar_1 : decode cX6_noCar 1 = .ok (.iconst 0, 1) := by decide +kernel
theorem dX6_noCar_2 : decode cX6_noCar 2 = .ok (.iconst 1, 1) := by decide +kernel
theorem dX6_noCar_3 : decode cX6_noCar 3 = .ok (.invokestatic 70, 3) := by decide +kernel
theorem dX6_noCar_6 : decode cX6_noCar 6 = .ok (.ifCond .ne 7, 3) := by decide +kernel
theorem dX6_noCar_9 : decode cX6_noCar 9 = .ok (.iconst 1, 1) := by decide +kernel
theorem dX6_noCar_10 : decode cX6_noCar 10 = .ok (.goto 4, 3) := by decide +kernel
theorem dX6_noCar_13 : decode cX6_noCar 13 = .ok (.iconst 0, 1) := by decide +kernel
theorem dX6_noCar_14 : decode cX6_noCar 14 = .ok (.ireturn, 1) := by decide +kernel
set_option maxRecDepth 20000 in
theorem ggX6_noSpeed_X6_noCar : GoodIn wsX6_noSpeed wsX6_noCar := goodIn_r _ [4, 5, 6, 3, 7] (by decide +kernel) (by decide +kernel)
set_option maxRecDepth 20000 in
theorem gX6_noSpeed_X6_noCar : GoodIn wsX6_noSpeed (va_wsS RX6 74 yX6_noCar wsX6_noCar) := goodIn_app (goodIn_of _ (by decide +kernel)) ggX6_noSpeed_X6_noCar
set_option maxRecDepth 20000 in
theorem ggX6_noSpeed_X6_in : GoodIn wsX6_noSpeed wsX6_in := goodIn_r _ [7] (by decide +kernel) (by decide +kernel)
set_option maxRecDepth 20000 in
theorem gX6_noSpeed_X6_in : GoodIn wsX6_noSpeed (va_wsS RX6 70 yX6_in wsX6_in) := goodIn_app (goodIn_of _ (by decide +kernel)) ggX6_noSpeed_X6_in
theorem dX6_noSpeed_0 : decode cX6_noSpeed 0 = .ok (.iload_n 0, 1) := by decide +kernel
theorem dX6_noSpeed_1 : decode cX6_noSpeed 1 = .ok (.invokestatic 74, 3) := by decide +kernel
theorem dX6_noSpeed_4 : decode cX6_noSpeed 4 = .ok (.ifCond .ne 12, 3) := by decide +kernel
theorem dX6_noSpeed_7 : decode cX6_noSpeed 7 = .ok (.iload_n 1, 1) := by decide +kernel
theorem dX6_noSpeed_8 : decode cX6_noSpeed 8 = .ok (.iconst 0, 1) := by decide +kernel
theorem dX6_noSpeed_9 : decode cX6_noSpeed 9 = .ok (.iconst 2, 1) := by decide +kernel
theorem dX6_noSpeed_10 : decode cX6_noSpeed 10 = .ok (.invokestatic 70, 3) := by decide +kernel
theorem dX6_noSpeed_13 : decode cX6_noSpeed 13 = .ok (.ifCond .ne 7, 3) := by decide +kernel
theorem dX6_noSpeed_16 : decode cX6_noSpeed 16 = .ok (.iconst 1, 1) := by decide +kernel
theorem dX6_noSpeed_17 : decode cX6_noSpeed 17 = .ok (.goto 4, 3) := by decide +kernel
theorem dX6_noSpeed_20 : decode cX6_noSpeed 20 = .ok (.iconst 0, 1) := by decide +kernel
theorem dX6_noSpeed_21 : decode cX6_noSpeed 21 = .ok (.ireturn, 1) := by decide +kernel
theorem dX6_noSpan_0 : decode cX6_noSpan 0 = .ok (.iload_n 0, 1) := by decide +kernel
theorem dX6_noSpan_1 : decode cX6_noSpan 1 = .ok (.bipush (-50), 2) := by decide +kernel
theorem dX6_noSpan_3 : decode cX6_noSpan 3 = .ok (.if_icmp .lt 14, 3) := by decide +kernel
theorem dX6_noSpan_6 : decode cX6_noSpan 6 = .ok (.iload_n 1, 1) := by decide +kernel
theorem dX6_noSpan_7 : decode cX6_noSpan 7 = .ok (.iload_n 0, 1) := by decide +kernel
theorem dX6_noSpan_8 : decode cX6_noSpan 8 = .ok (.if_icmp .lt 9, 3) := by decide +kernel
theorem dX6_noSpan_11 : decode cX6_noSpan 11 = .ok (.iload_n 1, 1) := by decide +kernel
theorem dX6_noSpan_12 : decode cX6_noSpan 12 = .ok (.bipush 50, 2) := by decide +kernel
theorem dX6_noSpan_14 : decode cX6_noSpan 14 = .ok (.if_icmp .le 7, 3) := by decide +kernel
theorem dX6_noSpan_17 : decode cX6_noSpan 17 = .ok (.iconst 1, 1) := by decide +kernel
theorem dX6_noSpan_18 : decode cX6_noSpan 18 = .ok (.goto 4, 3) := by decide +kernel
theorem dX6_noSpan_21 : decode cX6_noSpan 21 = .ok (.iconst 0, 1) := by decide +kernel
theorem dX6_noSpan_22 : decode cX6_noSpan 22 = .ok (.ireturn, 1) := by decide +kernel
set_option maxRecDepth 20000 in
theorem ggX6_mass_X6_noCar : GoodIn wsX6_mass wsX6_noCar := goodIn_r _ [6, 7, 8, 5, 9] (by decide +kernel) (by decide +kernel)
set_option maxRecDepth 20000 in
theorem gX6_mass_X6_noCar : GoodIn wsX6_mass (va_wsS RX6 74 yX6_noCar wsX6_noCar) := goodIn_app (goodIn_of _ (by decide +kernel)) ggX6_mass_X6_noCar
set_option maxRecDepth 20000 in
theorem ggX6_mass_X6_throwsIf : GoodIn wsX6_mass wsX6_throwsIf := goodIn_r _ [13, 1, 14, 15, 16, 17, 18, 19, 20, 21, 22, 23, 24, 25, 26, 27, 28, 29, 30, 31, 32, 33, 34, 35, 36] (by decide +kernel) (by decide +kernel)
set_option maxRecDepth 20000 in
theorem gX6_mass_X6_throwsIf : GoodIn wsX6_mass (wsV RX6 78 RX6 yX6_throwsIf wsX6_throwsIf) := goodIn_app (goodIn_of _ (by decide +kernel)) ggX6_mass_X6_throwsIf
set_option maxRecDepth 20000 in
theorem ggX6_mass_X6_in : GoodIn wsX6_mass wsX6_in := goodIn_r _ [9] (by decide +kernel) (by decide +kernel)
set_option maxRecDepth 20000 in
theorem gX6_mass_X6_in : GoodIn wsX6_mass (va_wsS RX6 70 yX6_in wsX6_in) := goodIn_app (goodIn_of _ (by decide +kernel)) ggX6_mass_X6_in
theorem dX6_mass_0 : decode cX6_mass 0 = .ok (.aload_n 0, 1) := by decide +kernel
theorem dX6_mass_1 : decode cX6_mass 1 = .ok (.iconst 0, 1) := by decide +kernel
theorem dX6_mass_2 : decode cX6_mass 2 = .ok (.putfield 66, 3) := by decide +kernel
theorem dX6_mass_5 : decode cX6_mass 5 = .ok (.aload_n 0, 1) := by decide +kernel
theorem dX6_mass_6 : decode cX6_mass 6 = .ok (.iload_n 1, 1) := by decide +kernel
theorem dX6_mass_7 : decode cX6_mass 7 = .ok (.invokestatic 74, 3) := by decide +kernel
theorem dX6_mass_10 : decode cX6_mass 10 = .ok (.iconst 1, 1) := by decide +kernel
theorem dX6_mass_11 : decode cX6_mass 11 = .ok (.invokevirtual 78, 3) := by decide +kernel
theorem dX6_mass_14 : decode cX6_mass 14 = .ok (.ifCond .ne 26, 3) := by decide +kernel
theorem dX6_mass_17 : decode cX6_mass 17 = .ok (.aload_n 0, 1) := by decide +kernel
theorem dX6_mass_18 : decode cX6_mass 18 = .ok (.iload_n 2, 1) := by decide +kernel
theorem dX6_mass_19 : decode cX6_mass 19 = .ok (.iconst 1, 1) := by decide +kernel
theorem dX6_mass_20 : decode cX6_mass 20 = .ok (.bipush 100, 2) := by decide +kernel
theorem dX6_mass_22 : decode cX6_mass 22 = .ok (.invokestatic 70, 3) := by decide +kernel
theorem dX6_mass_25 : decode cX6_mass 25 = .ok (.ifCond .ne 7, 3) := by decide +kernel
theorem dX6_mass_28 : decode cX6_mass 28 = .ok (.iconst 1, 1) := by decide +kernel
theorem dX6_mass_29 : decode cX6_mass 29 = .ok (.goto 4, 3) := by decide +kernel
theorem dX6_mass_32 : decode cX6_mass 32 = .ok (.iconst 0, 1) := by decide +kernel
theorem dX6_mass_33 : decode cX6_mass 33 = .ok (.iconst 2, 1) := by decide +kernel
theorem dX6_mass_34 : decode cX6_mass 34 = .ok (.invokevirtual 78, 3) := by decide +kernel
theorem dX6_mass_37 : decode cX6_mass 37 = .ok (.ifCond .eq 4, 3) := by decide +kernel
theorem dX6_mass_40 : decode cX6_mass 40 = .ok (.return_, 1) := by decide +kernel
theorem dX6_mass_41 : decode cX6_mass 41 = .ok (.aload_n 0, 1) := by decide +kernel
theorem dX6_mass_42 : decode cX6_mass 42 = .ok (.getfield 7, 3) := by decide +kernel
theorem dX6_mass_45 : decode cX6_mass 45 = .ok (.iload_n 1, 1) := by decide +kernel
theorem dX6_mass_46 : decode cX6_mass 46 = .ok (.iload_n 2, 1) := by decide +kernel
theorem dX6_mass_47 : decode cX6_mass 47 = .ok (.iastore, 1) := by decide +kernel
theorem dX6_mass_48 : decode cX6_mass 48 = .ok (.return_, 1) := by decide +kernel
set_option maxRecDepth 20000 in
theorem ggX6_skid_X6_noCar : GoodIn wsX6_skid wsX6_noCar := goodIn_r _ [10, 11, 12, 9, 13] (by decide +kernel) (by decide +kernel)
set_option maxRecDepth 20000 in
theorem gX6_skid_X6_noCar : GoodIn wsX6_skid (va_wsS RX6 74 yX6_noCar wsX6_noCar) := goodIn_app (goodIn_of _ (by decide +kernel)) ggX6_skid_X6_noCar
set_option maxRecDepth 20000 in
theorem ggX6_skid_X6_throwsIf : GoodIn wsX6_skid wsX6_throwsIf := goodIn_r _ [17, 1, 18, 19, 20, 21, 22, 23, 24, 25, 26, 27, 28, 29, 30, 31, 32, 33, 34, 35, 36, 37, 38, 39, 40] (by decide +kernel) (by decide +kernel)
set_option maxRecDepth 20000 in
theorem gX6_skid_X6_throwsIf : GoodIn wsX6_skid (wsV RX6 78 RX6 yX6_throwsIf wsX6_throwsIf) := goodIn_app (goodIn_of _ (by decide +kernel)) ggX6_skid_X6_throwsIf
theorem dX6_skid_0 : decode cX6_skid 0 = .ok (.aload_n 0, 1) := by decide +kernel
theorem dX6_skid_1 : decode cX6_skid 1 = .ok (.iconst 0, 1) := by decide +kernel
theorem dX6_skid_2 : decode cX6_skid 2 = .ok (.putfield 66, 3) := by decide +kernel
theorem dX6_skid_5 : decode cX6_skid 5 = .ok (.aload_n 0, 1) := by decide +kernel
theorem dX6_skid_6 : decode cX6_skid 6 = .ok (.iload_n 1, 1) := by decide +kernel
theorem dX6_skid_7 : decode cX6_skid 7 = .ok (.invokestatic 74, 3) := by decide +kernel
theorem dX6_skid_10 : decode cX6_skid 10 = .ok (.iconst 1, 1) := by decide +kernel
theorem dX6_skid_11 : decode cX6_skid 11 = .ok (.invokevirtual 78, 3) := by decide +kernel
theorem dX6_skid_14 : decode cX6_skid 14 = .ok (.ifCond .ne 76, 3) := by decide +kernel
theorem dX6_skid_17 : decode cX6_skid 17 = .ok (.aload_n 0, 1) := by decide +kernel
theorem dX6_skid_18 : decode cX6_skid 18 = .ok (.iload_n 3, 1) := by decide +kernel
theorem dX6_skid_19 : decode cX6_skid 19 = .ok (.ifCond .lt 37, 3) := by decide +kernel
theorem dX6_skid_22 : decode cX6_skid 22 = .ok (.iload 4, 2) := by decide +kernel
theorem dX6_skid_24 : decode cX6_skid 24 = .ok (.iload_n 3, 1) := by decide +kernel
theorem dX6_skid_25 : decode cX6_skid 25 = .ok (.if_icmp .lt 31, 3) := by decide +kernel
theorem dX6_skid_28 : decode cX6_skid 28 = .ok (.iload 4, 2) := by decide +kernel
theorem dX6_skid_30 : decode cX6_skid 30 = .ok (.sipush 2000, 3) := by decide +kernel
theorem dX6_skid_33 : decode cX6_skid 33 = .ok (.if_icmp .gt 23, 3) := by decide +kernel
theorem dX6_skid_36 : decode cX6_skid 36 = .ok (.iload 5, 2) := by decide +kernel
theorem dX6_skid_38 : decode cX6_skid 38 = .ok (.ifCond .lt 18, 3) := by decide +kernel
theorem dX6_skid_41 : decode cX6_skid 41 = .ok (.iload 6, 2) := by decide +kernel
theorem dX6_skid_43 : decode cX6_skid 43 = .ok (.iload 5, 2) := by decide +kernel
theorem dX6_skid_45 : decode cX6_skid 45 = .ok (.if_icmp .lt 11, 3) := by decide +kernel
theorem dX6_skid_48 : decode cX6_skid 48 = .ok (.iload 6, 2) := by decide +kernel
theorem dX6_skid_50 : decode cX6_skid 50 = .ok (.sipush 150, 3) := by decide +kernel
theorem dX6_skid_53 : decode cX6_skid 53 = .ok (.if_icmp .le 7, 3) := by decide +kernel
theorem dX6_skid_56 : decode cX6_skid 56 = .ok (.iconst 1, 1) := by decide +kernel
theorem dX6_skid_57 : decode cX6_skid 57 = .ok (.goto 4, 3) := by decide +kernel
theorem dX6_skid_60 : decode cX6_skid 60 = .ok (.iconst 0, 1) := by decide +kernel
theorem dX6_skid_61 : decode cX6_skid 61 = .ok (.iconst 2, 1) := by decide +kernel
theorem dX6_skid_62 : decode cX6_skid 62 = .ok (.invokevirtual 78, 3) := by decide +kernel
theorem dX6_skid_65 : decode cX6_skid 65 = .ok (.ifCond .ne 25, 3) := by decide +kernel
theorem dX6_skid_68 : decode cX6_skid 68 = .ok (.aload_n 0, 1) := by decide +kernel
theorem dX6_skid_69 : decode cX6_skid 69 = .ok (.aload_n 0, 1) := by decide +kernel
theorem dX6_skid_70 : decode cX6_skid 70 = .ok (.getfield 82, 3) := by decide +kernel
theorem dX6_skid_73 : decode cX6_skid 73 = .ok (.bipush 12, 2) := by decide +kernel
theorem dX6_skid_75 : decode cX6_skid 75 = .ok (.if_icmp .ne 7, 3) := by decide +kernel
theorem dX6_skid_78 : decode cX6_skid 78 = .ok (.iconst 1, 1) := by decide +kernel
theorem dX6_skid_79 : decode cX6_skid 79 = .ok (.goto 4, 3) := by decide +kernel
theorem dX6_skid_82 : decode cX6_skid 82 = .ok (.iconst 0, 1) := by decide +kernel
theorem dX6_skid_83 : decode cX6_skid 83 = .ok (.iconst 3, 1) := by decide +kernel
theorem dX6_skid_84 : decode cX6_skid 84 = .ok (.invokevirtual 78, 3) := by decide +kernel
theorem dX6_skid_87 : decode cX6_skid 87 = .ok (.ifCond .eq 5, 3) := by decide +kernel
theorem dX6_skid_90 : decode cX6_skid 90 = .ok (.iconst 0, 1) := by decide +kernel
theorem dX6_skid_91 : decode cX6_skid 91 = .ok (.ireturn, 1) := by decide +kernel
theorem dX6_skid_92 : decode cX6_skid 92 = .ok (.aload_n 0, 1) := by decide +kernel
theorem dX6_skid_93 : decode cX6_skid 93 = .ok (.getfield 13, 3) := by decide +kernel
theorem dX6_skid_96 : decode cX6_skid 96 = .ok (.aload_n 0, 1) := by decide +kernel
theorem dX6_skid_97 : decode cX6_skid 97 = .ok (.getfield 82, 3) := by decide +kernel
theorem dX6_skid_100 : decode cX6_skid 100 = .ok (.iload_n 1, 1) := by decide +kernel
theorem dX6_skid_101 : decode cX6_skid 101 = .ok (.iastore, 1) := by decide +kernel
theorem dX6_skid_102 : decode cX6_skid 102 = .ok (.aload_n 0, 1) := by decide +kernel
theorem dX6_skid_103 : decode cX6_skid 103 = .ok (.getfield 16, 3) := by decide +kernel
theorem dX6_skid_106 : decode cX6_skid 106 = .ok (.aload_n 0, 1) := by decide +kernel
theorem dX6_skid_107 : decode cX6_skid 107 = .ok (.getfield 82, 3) := by decide +kernel
theorem dX6_skid_110 : decode cX6_skid 110 = .ok (.iload_n 2, 1) := by decide +kernel
theorem dX6_skid_111 : decode cX6_skid 111 = .ok (.bastore, 1) := by decide +kernel
theorem dX6_skid_112 : decode cX6_skid 112 = .ok (.aload_n 0, 1) := by decide +kernel
theorem dX6_skid_113 : decode cX6_skid 113 = .ok (.getfield 20, 3) := by decide +kernel
theorem dX6_skid_116 : decode cX6_skid 116 = .ok (.aload_n 0, 1) := by decide +kernel
theorem dX6_skid_117 : decode cX6_skid 117 = .ok (.getfield 82, 3) := by decide +kernel
theorem dX6_skid_120 : decode cX6_skid 120 = .ok (.iload_n 3, 1) := by decide +kernel
theorem dX6_skid_121 : decode cX6_skid 121 = .ok (.iload 5, 2) := by decide +kernel
theorem dX6_skid_123 : decode cX6_skid 123 = .ok (.imul, 1) := by decide +kernel
theorem dX6_skid_124 : decode cX6_skid 124 = .ok (.iastore, 1) := by decide +kernel
theorem dX6_skid_125 : decode cX6_skid 125 = .ok (.aload_n 0, 1) := by decide +kernel
theorem dX6_skid_126 : decode cX6_skid 126 = .ok (.getfield 23, 3) := by decide +kernel
theorem dX6_skid_129 : decode cX6_skid 129 = .ok (.aload_n 0, 1) := by decide +kernel
theorem dX6_skid_130 : decode cX6_skid 130 = .ok (.getfield 82, 3) := by decide +kernel
theorem dX6_skid_133 : decode cX6_skid 133 = .ok (.iload 4, 2) := by decide +kernel
theorem dX6_skid_135 : decode cX6_skid 135 = .ok (.iload 6, 2) := by decide +kernel
theorem dX6_skid_137 : decode cX6_skid 137 = .ok (.imul, 1) := by decide +kernel
theorem dX6_skid_138 : decode cX6_skid 138 = .ok (.iastore, 1) := by decide +kernel
theorem dX6_skid_139 : decode cX6_skid 139 = .ok (.aload_n 0, 1) := by decide +kernel
theorem dX6_skid_140 : decode cX6_skid 140 = .ok (.dup, 1) := by decide +kernel
theorem dX6_skid_141 : decode cX6_skid 141 = .ok (.getfield 82, 3) := by decide +kernel
theorem dX6_skid_144 : decode cX6_skid 144 = .ok (.iconst 1, 1) := by decide +kernel
theorem dX6_skid_145 : decode cX6_skid 145 = .ok (.iadd, 1) := by decide +kernel
theorem dX6_skid_146 : decode cX6_skid 146 = .ok (.putfield 82, 3) := by decide +kernel
theorem dX6_skid_149 : decode cX6_skid 149 = .ok (.aload_n 0, 1) := by decide +kernel
theorem dX6_skid_150 : decode cX6_skid 150 = .ok (.getfield 82, 3) := by decide +kernel
theorem dX6_skid_153 : decode cX6_skid 153 = .ok (.iconst 1, 1) := by decide +kernel
theorem dX6_skid_154 : decode cX6_skid 154 = .ok (.isub, 1) := by decide +kernel
theorem dX6_skid_155 : decode cX6_skid 155 = .ok (.ireturn, 1) := by decide +kernel
set_option maxRecDepth 20000 in
theorem ggX6_drop_X6_in : GoodIn wsX6_drop wsX6_in := goodIn_r _ [7] (by decide +kernel) (by decide +kernel)
set_option maxRecDepth 20000 in
theorem gX6_drop_X6_in : GoodIn wsX6_drop (va_wsS RX6 70 yX6_in wsX6_in) := goodIn_app (goodIn_of _ (by decide +kernel)) ggX6_drop_X6_in
set_option maxRecDepth 20000 in
theorem ggX6_drop_X6_throwsIf : GoodIn wsX6_drop wsX6_throwsIf := goodIn_r _ [11, 1, 12, 13, 14, 15, 16, 17, 18, 19, 20, 21, 22, 23, 24, 25, 26, 27, 28, 29, 30, 31, 32, 33, 34] (by decide +kernel) (by decide +kernel)
set_option maxRecDepth 20000 in
theorem gX6_drop_X6_throwsIf : GoodIn wsX6_drop (wsV RX6 78 RX6 yX6_throwsIf wsX6_throwsIf) := goodIn_app (goodIn_of _ (by decide +kernel)) ggX6_drop_X6_throwsIf
theorem dX6_drop_0 : decode cX6_drop 0 = .ok (.aload_n 0, 1) := by decide +kernel
theorem dX6_drop_1 : decode cX6_drop 1 = .ok (.iconst 0, 1) := by decide +kernel
theorem dX6_drop_2 : decode cX6_drop 2 = .ok (.putfield 66, 3) := by decide +kernel
theorem dX6_drop_5 : decode cX6_drop 5 = .ok (.aload_n 0, 1) := by decide +kernel
theorem dX6_drop_6 : decode cX6_drop 6 = .ok (.iload_n 1, 1) := by decide +kernel
theorem dX6_drop_7 : decode cX6_drop 7 = .ok (.iconst 0, 1) := by decide +kernel
theorem dX6_drop_8 : decode cX6_drop 8 = .ok (.aload_n 0, 1) := by decide +kernel
theorem dX6_drop_9 : decode cX6_drop 9 = .ok (.getfield 82, 3) := by decide +kernel
theorem dX6_drop_12 : decode cX6_drop 12 = .ok (.iconst 1, 1) := by decide +kernel
theorem dX6_drop_13 : decode cX6_drop 13 = .ok (.isub, 1) := by decide +kernel
theorem dX6_drop_14 : decode cX6_drop 14 = .ok (.invokestatic 70, 3) := by decide +kernel
theorem dX6_drop_17 : decode cX6_drop 17 = .ok (.ifCond .ne 7, 3) := by decide +kernel
theorem dX6_drop_20 : decode cX6_drop 20 = .ok (.iconst 1, 1) := by decide +kernel
theorem dX6_drop_21 : decode cX6_drop 21 = .ok (.goto 4, 3) := by decide +kernel
theorem dX6_drop_24 : decode cX6_drop 24 = .ok (.iconst 0, 1) := by decide +kernel
theorem dX6_drop_25 : decode cX6_drop 25 = .ok (.iconst 1, 1) := by decide +kernel
theorem dX6_drop_26 : decode cX6_drop 26 = .ok (.invokevirtual 78, 3) := by decide +kernel
theorem dX6_drop_29 : decode cX6_drop 29 = .ok (.ifCond .eq 5, 3) := by decide +kernel
theorem dX6_drop_32 : decode cX6_drop 32 = .ok (.iconst 0, 1) := by decide +kernel
theorem dX6_drop_33 : decode cX6_drop 33 = .ok (.ireturn, 1) := by decide +kernel
theorem dX6_drop_34 : decode cX6_drop 34 = .ok (.aload_n 0, 1) := by decide +kernel
theorem dX6_drop_35 : decode cX6_drop 35 = .ok (.getfield 26, 3) := by decide +kernel
theorem dX6_drop_38 : decode cX6_drop 38 = .ok (.iload_n 1, 1) := by decide +kernel
theorem dX6_drop_39 : decode cX6_drop 39 = .ok (.baload, 1) := by decide +kernel
theorem dX6_drop_40 : decode cX6_drop 40 = .ok (.istore_n 3, 1) := by decide +kernel
theorem dX6_drop_41 : decode cX6_drop 41 = .ok (.aload_n 0, 1) := by decide +kernel
theorem dX6_drop_42 : decode cX6_drop 42 = .ok (.getfield 26, 3) := by decide +kernel
theorem dX6_drop_45 : decode cX6_drop 45 = .ok (.iload_n 1, 1) := by decide +kernel
theorem dX6_drop_46 : decode cX6_drop 46 = .ok (.iload_n 2, 1) := by decide +kernel
theorem dX6_drop_47 : decode cX6_drop 47 = .ok (.bastore, 1) := by decide +kernel
theorem dX6_drop_48 : decode cX6_drop 48 = .ok (.iload_n 3, 1) := by decide +kernel
theorem dX6_drop_49 : decode cX6_drop 49 = .ok (.iload_n 2, 1) := by decide +kernel
theorem dX6_drop_50 : decode cX6_drop 50 = .ok (.if_icmp .eq 7, 3) := by decide +kernel
theorem dX6_drop_53 : decode cX6_drop 53 = .ok (.iconst 1, 1) := by decide +kernel
theorem dX6_drop_54 : decode cX6_drop 54 = .ok (.goto 4, 3) := by decide +kernel
theorem dX6_drop_57 : decode cX6_drop 57 = .ok (.iconst 0, 1) := by decide +kernel
theorem dX6_drop_58 : decode cX6_drop 58 = .ok (.ireturn, 1) := by decide +kernel
set_option maxRecDepth 20000 in
theorem ggX6_sure_X6_noSpeed : GoodIn wsX6_sure wsX6_noSpeed := goodIn_r _ [7, 8, 9, 6, 10, 11, 12, 13] (by decide +kernel) (by decide +kernel)
set_option maxRecDepth 20000 in
theorem gX6_sure_X6_noSpeed : GoodIn wsX6_sure (va_wsS RX6 85 yX6_noSpeed wsX6_noSpeed) := goodIn_app (goodIn_of _ (by decide +kernel)) ggX6_sure_X6_noSpeed
set_option maxRecDepth 20000 in
theorem ggX6_sure_X6_throwsIf : GoodIn wsX6_sure wsX6_throwsIf := goodIn_r _ [17, 1, 21, 22, 23, 24, 25, 26, 27, 28, 29, 30, 31, 32, 33, 34, 35, 36, 37, 38, 39, 40, 41, 42, 43] (by decide +kernel) (by decide +kernel)
set_option maxRecDepth 20000 in
theorem gX6_sure_X6_throwsIf : GoodIn wsX6_sure (wsV RX6 78 RX6 yX6_throwsIf wsX6_throwsIf) := goodIn_app (goodIn_of _ (by decide +kernel)) ggX6_sure_X6_throwsIf
set_option maxRecDepth 20000 in
theorem ggX6_sure_X6_noSpan : GoodIn wsX6_sure wsX6_noSpan := goodIn_r _ [20] (by decide +kernel) (by decide +kernel)
set_option maxRecDepth 20000 in
theorem gX6_sure_X6_noSpan : GoodIn wsX6_sure (va_wsS RX6 89 yX6_noSpan wsX6_noSpan) := goodIn_app (goodIn_of _ (by decide +kernel)) ggX6_sure_X6_noSpan
theorem dX6_sure_0 : decode cX6_sure 0 = .ok (.aload_n 0, 1) := by decide +kernel
theorem dX6_sure_1 : decode cX6_sure 1 = .ok (.iconst 0, 1) := by decide +kernel
theorem dX6_sure_2 : decode cX6_sure 2 = .ok (.putfield 66, 3) := by decide +kernel
theorem dX6_sure_5 : decode cX6_sure 5 = .ok (.aload_n 0, 1) := by decide +kernel
theorem dX6_sure_6 : decode cX6_sure 6 = .ok (.iload_n 1, 1) := by decide +kernel
theorem dX6_sure_7 : decode cX6_sure 7 = .ok (.iload_n 2, 1) := by decide +kernel
theorem dX6_sure_8 : decode cX6_sure 8 = .ok (.invokestatic 85, 3) := by decide +kernel
theorem dX6_sure_11 : decode cX6_sure 11 = .ok (.iconst 1, 1) := by decide +kernel
theorem dX6_sure_12 : decode cX6_sure 12 = .ok (.invokevirtual 78, 3) := by decide +kernel
theorem dX6_sure_15 : decode cX6_sure 15 = .ok (.ifCond .ne 17, 3) := by decide +kernel
theorem dX6_sure_18 : decode cX6_sure 18 = .ok (.aload_n 0, 1) := by decide +kernel
theorem dX6_sure_19 : decode cX6_sure 19 = .ok (.iload_n 3, 1) := by decide +kernel
theorem dX6_sure_20 : decode cX6_sure 20 = .ok (.iload 4, 2) := by decide +kernel
theorem dX6_sure_22 : decode cX6_sure 22 = .ok (.invokestatic 89, 3) := by decide +kernel
theorem dX6_sure_25 : decode cX6_sure 25 = .ok (.iconst 2, 1) := by decide +kernel
theorem dX6_sure_26 : decode cX6_sure 26 = .ok (.invokevirtual 78, 3) := by decide +kernel
theorem dX6_sure_29 : decode cX6_sure 29 = .ok (.ifCond .eq 4, 3) := by decide +kernel
theorem dX6_sure_32 : decode cX6_sure 32 = .ok (.return_, 1) := by decide +kernel
theorem dX6_sure_33 : decode cX6_sure 33 = .ok (.aload_n 0, 1) := by decide +kernel
theorem dX6_sure_34 : decode cX6_sure 34 = .ok (.getfield 29, 3) := by decide +kernel
theorem dX6_sure_37 : decode cX6_sure 37 = .ok (.iconst 3, 1) := by decide +kernel
theorem dX6_sure_38 : decode cX6_sure 38 = .ok (.iload_n 1, 1) := by decide +kernel
theorem dX6_sure_39 : decode cX6_sure 39 = .ok (.imul, 1) := by decide +kernel
theorem dX6_sure_40 : decode cX6_sure 40 = .ok (.iload_n 2, 1) := by decide +kernel
theorem dX6_sure_41 : decode cX6_sure 41 = .ok (.iadd, 1) := by decide +kernel
theorem dX6_sure_42 : decode cX6_sure 42 = .ok (.iload_n 3, 1) := by decide +kernel
theorem dX6_sure_43 : decode cX6_sure 43 = .ok (.iastore, 1) := by decide +kernel
theorem dX6_sure_44 : decode cX6_sure 44 = .ok (.aload_n 0, 1) := by decide +kernel
theorem dX6_sure_45 : decode cX6_sure 45 = .ok (.getfield 32, 3) := by decide +kernel
theorem dX6_sure_48 : decode cX6_sure 48 = .ok (.iconst 3, 1) := by decide +kernel
theorem dX6_sure_49 : decode cX6_sure 49 = .ok (.iload_n 1, 1) := by decide +kernel
theorem dX6_sure_50 : decode cX6_sure 50 = .ok (.imul, 1) := by decide +kernel
theorem dX6_sure_51 : decode cX6_sure 51 = .ok (.iload_n 2, 1) := by decide +kernel
theorem dX6_sure_52 : decode cX6_sure 52 = .ok (.iadd, 1) := by decide +kernel
theorem dX6_sure_53 : decode cX6_sure 53 = .ok (.iload 4, 2) := by decide +kernel
theorem dX6_sure_55 : decode cX6_sure 55 = .ok (.iastore, 1) := by decide +kernel
theorem dX6_sure_56 : decode cX6_sure 56 = .ok (.return_, 1) := by decide +kernel
set_option maxRecDepth 20000 in
theorem ggX6_tale_X6_noSpeed : GoodIn wsX6_tale wsX6_noSpeed := goodIn_r _ [9, 10, 11, 8, 12, 13, 14, 15] (by decide +kernel) (by decide +kernel)
set_option maxRecDepth 20000 in
theorem gX6_tale_X6_noSpeed : GoodIn wsX6_tale (va_wsS RX6 85 yX6_noSpeed wsX6_noSpeed) := goodIn_app (goodIn_of _ (by decide +kernel)) ggX6_tale_X6_noSpeed
set_option maxRecDepth 20000 in
theorem ggX6_tale_X6_throwsIf : GoodIn wsX6_tale wsX6_throwsIf := goodIn_r _ [19, 1, 23, 24, 25, 26, 27, 28, 29, 30, 31, 32, 33, 34, 35, 36, 37, 38, 39, 40, 41, 42, 43, 44, 45] (by decide +kernel) (by decide +kernel)
set_option maxRecDepth 20000 in
theorem gX6_tale_X6_throwsIf : GoodIn wsX6_tale (wsV RX6 78 RX6 yX6_throwsIf wsX6_throwsIf) := goodIn_app (goodIn_of _ (by decide +kernel)) ggX6_tale_X6_throwsIf
set_option maxRecDepth 20000 in
theorem ggX6_tale_X6_noSpan : GoodIn wsX6_tale wsX6_noSpan := goodIn_r _ [22] (by decide +kernel) (by decide +kernel)
set_option maxRecDepth 20000 in
theorem gX6_tale_X6_noSpan : GoodIn wsX6_tale (va_wsS RX6 89 yX6_noSpan wsX6_noSpan) := goodIn_app (goodIn_of _ (by decide +kernel)) ggX6_tale_X6_noSpan
theorem dX6_tale_0 : decode cX6_tale 0 = .ok (.aload_n 0, 1) := by decide +kernel
theorem dX6_tale_1 : decode cX6_tale 1 = .ok (.iconst 0, 1) := by decide +kernel
theorem dX6_tale_2 : decode cX6_tale 2 = .ok (.putfield 66, 3) := by decide +kernel
theorem dX6_tale_5 : decode cX6_tale 5 = .ok (.aload_n 0, 1) := by decide +kernel
theorem dX6_tale_6 : decode cX6_tale 6 = .ok (.iload_n 1, 1) := by decide +kernel
theorem dX6_tale_7 : decode cX6_tale 7 = .ok (.iload_n 2, 1) := by decide +kernel
theorem dX6_tale_8 : decode cX6_tale 8 = .ok (.invokestatic 85, 3) := by decide +kernel
theorem dX6_tale_11 : decode cX6_tale 11 = .ok (.iconst 1, 1) := by decide +kernel
theorem dX6_tale_12 : decode cX6_tale 12 = .ok (.invokevirtual 78, 3) := by decide +kernel
theorem dX6_tale_15 : decode cX6_tale 15 = .ok (.ifCond .ne 39, 3) := by decide +kernel
theorem dX6_tale_18 : decode cX6_tale 18 = .ok (.aload_n 0, 1) := by decide +kernel
theorem dX6_tale_19 : decode cX6_tale 19 = .ok (.iload_n 3, 1) := by decide +kernel
theorem dX6_tale_20 : decode cX6_tale 20 = .ok (.iload 4, 2) := by decide +kernel
theorem dX6_tale_22 : decode cX6_tale 22 = .ok (.invokestatic 89, 3) := by decide +kernel
theorem dX6_tale_25 : decode cX6_tale 25 = .ok (.iconst 2, 1) := by decide +kernel
theorem dX6_tale_26 : decode cX6_tale 26 = .ok (.invokevirtual 78, 3) := by decide +kernel
theorem dX6_tale_29 : decode cX6_tale 29 = .ok (.ifCond .ne 25, 3) := by decide +kernel
theorem dX6_tale_32 : decode cX6_tale 32 = .ok (.aload_n 0, 1) := by decide +kernel
theorem dX6_tale_33 : decode cX6_tale 33 = .ok (.aload_n 0, 1) := by decide +kernel
theorem dX6_tale_34 : decode cX6_tale 34 = .ok (.getfield 92, 3) := by decide +kernel
theorem dX6_tale_37 : decode cX6_tale 37 = .ok (.bipush 10, 2) := by decide +kernel
theorem dX6_tale_39 : decode cX6_tale 39 = .ok (.if_icmp .ne 7, 3) := by decide +kernel
theorem dX6_tale_42 : decode cX6_tale 42 = .ok (.iconst 1, 1) := by decide +kernel
theorem dX6_tale_43 : decode cX6_tale 43 = .ok (.goto 4, 3) := by decide +kernel
theorem dX6_tale_46 : decode cX6_tale 46 = .ok (.iconst 0, 1) := by decide +kernel
theorem dX6_tale_47 : decode cX6_tale 47 = .ok (.iconst 3, 1) := by decide +kernel
theorem dX6_tale_48 : decode cX6_tale 48 = .ok (.invokevirtual 78, 3) := by decide +kernel
theorem dX6_tale_51 : decode cX6_tale 51 = .ok (.ifCond .eq 5, 3) := by decide +kernel
theorem dX6_tale_54 : decode cX6_tale 54 = .ok (.iconst 0, 1) := by decide +kernel
theorem dX6_tale_55 : decode cX6_tale 55 = .ok (.ireturn, 1) := by decide +kernel
theorem dX6_tale_56 : decode cX6_tale 56 = .ok (.aload_n 0, 1) := by decide +kernel
theorem dX6_tale_57 : decode cX6_tale 57 = .ok (.getfield 35, 3) := by decide +kernel
theorem dX6_tale_60 : decode cX6_tale 60 = .ok (.aload_n 0, 1) := by decide +kernel
theorem dX6_tale_61 : decode cX6_tale 61 = .ok (.getfield 92, 3) := by decide +kernel
theorem dX6_tale_64 : decode cX6_tale 64 = .ok (.iconst 3, 1) := by decide +kernel
theorem dX6_tale_65 : decode cX6_tale 65 = .ok (.iload_n 1, 1) := by decide +kernel
theorem dX6_tale_66 : decode cX6_tale 66 = .ok (.imul, 1) := by decide +kernel
theorem dX6_tale_67 : decode cX6_tale 67 = .ok (.iload_n 2, 1) := by decide +kernel
theorem dX6_tale_68 : decode cX6_tale 68 = .ok (.iadd, 1) := by decide +kernel
theorem dX6_tale_69 : decode cX6_tale 69 = .ok (.iastore, 1) := by decide +kernel
theorem dX6_tale_70 : decode cX6_tale 70 = .ok (.aload_n 0, 1) := by decide +kernel
theorem dX6_tale_71 : decode cX6_tale 71 = .ok (.getfield 38, 3) := by decide +kernel
theorem dX6_tale_74 : decode cX6_tale 74 = .ok (.aload_n 0, 1) := by decide +kernel
theorem dX6_tale_75 : decode cX6_tale 75 = .ok (.getfield 92, 3) := by decide +kernel
theorem dX6_tale_78 : decode cX6_tale 78 = .ok (.iload_n 3, 1) := by decide +kernel
theorem dX6_tale_79 : decode cX6_tale 79 = .ok (.iastore, 1) := by decide +kernel
theorem dX6_tale_80 : decode cX6_tale 80 = .ok (.aload_n 0, 1) := by decide +kernel
theorem dX6_tale_81 : decode cX6_tale 81 = .ok (.getfield 41, 3) := by decide +kernel
theorem dX6_tale_84 : decode cX6_tale 84 = .ok (.aload_n 0, 1) := by decide +kernel
theorem dX6_tale_85 : decode cX6_tale 85 = .ok (.getfield 92, 3) := by decide +kernel
theorem dX6_tale_88 : decode cX6_tale 88 = .ok (.iload 4, 2) := by decide +kernel
theorem dX6_tale_90 : decode cX6_tale 90 = .ok (.iastore, 1) := by decide +kernel
theorem dX6_tale_91 : decode cX6_tale 91 = .ok (.aload_n 0, 1) := by decide +kernel
theorem dX6_tale_92 : decode cX6_tale 92 = .ok (.dup, 1) := by decide +kernel
theorem dX6_tale_93 : decode cX6_tale 93 = .ok (.getfield 92, 3) := by decide +kernel
theorem dX6_tale_96 : decode cX6_tale 96 = .ok (.iconst 1, 1) := by decide +kernel
theorem dX6_tale_97 : decode cX6_tale 97 = .ok (.iadd, 1) := by decide +kernel
theorem dX6_tale_98 : decode cX6_tale 98 = .ok (.putfield 92, 3) := by decide +kernel
theorem dX6_tale_101 : decode cX6_tale 101 = .ok (.aload_n 0, 1) := by decide +kernel
theorem dX6_tale_102 : decode cX6_tale 102 = .ok (.getfield 92, 3) := by decide +kernel
theorem dX6_tale_105 : decode cX6_tale 105 = .ok (.iconst 1, 1) := by decide +kernel
theorem dX6_tale_106 : decode cX6_tale 106 = .ok (.isub, 1) := by decide +kernel
theorem dX6_tale_107 : decode cX6_tale 107 = .ok (.ireturn, 1) := by decide +kernel
theorem dX6_hush_0 : decode cX6_hush 0 = .ok (.aload_n 0, 1) := by decide +kernel
theorem dX6_hush_1 : decode cX6_hush 1 = .ok (.iconst 0, 1) := by decide +kernel
theorem dX6_hush_2 : decode cX6_hush 2 = .ok (.putfield 66, 3) := by decide +kernel
theorem dX6_hush_5 : decode cX6_hush 5 = .ok (.aload_n 0, 1) := by decide +kernel
theorem dX6_hush_6 : decode cX6_hush 6 = .ok (.getfield 92, 3) := by decide +kernel
theorem dX6_hush_9 : decode cX6_hush 9 = .ok (.istore_n 1, 1) := by decide +kernel
theorem dX6_hush_10 : decode cX6_hush 10 = .ok (.aload_n 0, 1) := by decide +kernel
theorem dX6_hush_11 : decode cX6_hush 11 = .ok (.iconst 0, 1) := by decide +kernel
theorem dX6_hush_12 : decode cX6_hush 12 = .ok (.putfield 92, 3) := by decide +kernel
theorem dX6_hush_15 : decode cX6_hush 15 = .ok (.iload_n 1, 1) := by decide +kernel
theorem dX6_hush_16 : decode cX6_hush 16 = .ok (.ireturn, 1) := by decide +kernel
theorem dX6_cell_0 : decode cX6_cell 0 = .ok (.bipush 101, 2) := by decide +kernel
theorem dX6_cell_2 : decode cX6_cell 2 = .ok (.iload_n 0, 1) := by decide +kernel
theorem dX6_cell_3 : decode cX6_cell 3 = .ok (.imul, 1) := by decide +kernel
theorem dX6_cell_4 : decode cX6_cell 4 = .ok (.iload_n 1, 1) := by decide +kernel
theorem dX6_cell_5 : decode cX6_cell 5 = .ok (.iadd, 1) := by decide +kernel
theorem dX6_cell_6 : decode cX6_cell 6 = .ok (.bipush 50, 2) := by decide +kernel
theorem dX6_cell_8 : decode cX6_cell 8 = .ok (.iadd, 1) := by decide +kernel
theorem dX6_cell_9 : decode cX6_cell 9 = .ok (.ireturn, 1) := by decide +kernel
set_option maxRecDepth 20000 in
theorem ggX6_falses_X6_in : GoodIn wsX6_falses wsX6_in := goodIn_r _ [8] (by decide +kernel) (by decide +kernel)
set_option maxRecDepth 20000 in
theorem gX6_falses_X6_in : GoodIn wsX6_falses (va_wsS RX6 70 yX6_in wsX6_in) := goodIn_app (goodIn_of _ (by decide +kernel)) ggX6_falses_X6_in
theorem dX6_falses_0 : decode cX6_falses 0 = .ok (.iconst 0, 1) := by decide +kernel
theorem dX6_falses_1 : decode cX6_falses 1 = .ok (.istore_n 3, 1) := by decide +kernel
theorem dX6_falses_2 : decode cX6_falses 2 = .ok (.iconst 0, 1) := by decide +kernel
theorem dX6_falses_3 : decode cX6_falses 3 = .ok (.istore 4, 2) := by decide +kernel
theorem dX6_falses_5 : decode cX6_falses 5 = .ok (.iload 4, 2) := by decide +kernel
theorem dX6_falses_7 : decode cX6_falses 7 = .ok (.aload_n 0, 1) := by decide +kernel
theorem dX6_falses_8 : decode cX6_falses 8 = .ok (.getfield 92, 3) := by decide +kernel
theorem dX6_falses_11 : decode cX6_falses 11 = .ok (.if_icmp .ge 52, 3) := by decide +kernel
theorem dX6_falses_14 : decode cX6_falses 14 = .ok (.iload_n 3, 1) := by decide +kernel
theorem dX6_falses_15 : decode cX6_falses 15 = .ok (.aload_n 0, 1) := by decide +kernel
theorem dX6_falses_16 : decode cX6_falses 16 = .ok (.getfield 35, 3) := by decide +kernel
theorem dX6_falses_19 : decode cX6_falses 19 = .ok (.iload 4, 2) := by decide +kernel
theorem dX6_falses_21 : decode cX6_falses 21 = .ok (.iaload, 1) := by decide +kernel
theorem dX6_falses_22 : decode cX6_falses 22 = .ok (.iload_n 1, 1) := by decide +kernel
theorem dX6_falses_23 : decode cX6_falses 23 = .ok (.if_icmp .ne 31, 3) := by decide +kernel
theorem dX6_falses_26 : decode cX6_falses 26 = .ok (.iload_n 2, 1) := by decide +kernel
theorem dX6_falses_27 : decode cX6_falses 27 = .ok (.aload_n 0, 1) := by decide +kernel
theorem dX6_falses_28 : decode cX6_falses 28 = .ok (.getfield 38, 3) := by decide +kernel
theorem dX6_falses_31 : decode cX6_falses 31 = .ok (.iload 4, 2) := by decide +kernel
theorem dX6_falses_33 : decode cX6_falses 33 = .ok (.iaload, 1) := by decide +kernel
theorem dX6_falses_34 : decode cX6_falses 34 = .ok (.aload_n 0, 1) := by decide +kernel
theorem dX6_falses_35 : decode cX6_falses 35 = .ok (.getfield 41, 3) := by decide +kernel
theorem dX6_falses_38 : decode cX6_falses 38 = .ok (.iload 4, 2) := by decide +kernel
theorem dX6_falses_40 : decode cX6_falses 40 = .ok (.iaload, 1) := by decide +kernel
theorem dX6_falses_41 : decode cX6_falses 41 = .ok (.invokestatic 70, 3) := by decide +kernel
theorem dX6_falses_44 : decode cX6_falses 44 = .ok (.ifCond .ne 10, 3) := by decide +kernel
theorem dX6_falses_47 : decode cX6_falses 47 = .ok (.iconst 1, 1) := by decide +kernel
theorem dX6_falses_48 : decode cX6_falses 48 = .ok (.iload 4, 2) := by decide +kernel
theorem dX6_falses_50 : decode cX6_falses 50 = .ok (.ishl, 1) := by decide +kernel
theorem dX6_falses_51 : decode cX6_falses 51 = .ok (.goto 4, 3) := by decide +kernel
theorem dX6_falses_54 : decode cX6_falses 54 = .ok (.iconst 0, 1) := by decide +kernel
theorem dX6_falses_55 : decode cX6_falses 55 = .ok (.ior, 1) := by decide +kernel
theorem dX6_falses_56 : decode cX6_falses 56 = .ok (.istore_n 3, 1) := by decide +kernel
theorem dX6_falses_57 : decode cX6_falses 57 = .ok (.iinc 4 1, 3) := by decide +kernel
theorem dX6_falses_60 : decode cX6_falses 60 = .ok (.goto (-55), 3) := by decide +kernel
theorem dX6_falses_63 : decode cX6_falses 63 = .ok (.iload_n 3, 1) := by decide +kernel
theorem dX6_falses_64 : decode cX6_falses 64 = .ok (.ireturn, 1) := by decide +kernel
set_option maxRecDepth 20000 in
theorem ggX6_lets_X6_cell : GoodIn wsX6_lets wsX6_cell := goodIn_r _ [8] (by decide +kernel) (by decide +kernel)
set_option maxRecDepth 20000 in
theorem gX6_lets_X6_cell : GoodIn wsX6_lets (va_wsS RX6 95 yX6_cell wsX6_cell) := goodIn_app (goodIn_of _ (by decide +kernel)) ggX6_lets_X6_cell
set_option maxRecDepth 20000 in
theorem ggX6_lets_X6_in : GoodIn wsX6_lets wsX6_in := goodIn_r _ [11] (by decide +kernel) (by decide +kernel)
set_option maxRecDepth 20000 in
theorem gX6_lets_X6_in : GoodIn wsX6_lets (va_wsS RX6 70 yX6_in wsX6_in) := goodIn_app (goodIn_of _ (by decide +kernel)) ggX6_lets_X6_in
set_option maxRecDepth 20000 in
theorem ggX6_lets_X6_falses : GoodIn wsX6_lets wsX6_falses := goodIn_r _ [15, 16, 17, 18, 19, 9, 10, 7, 11, 20, 21, 22, 23, 24, 25, 26, 27, 28, 29, 30, 31, 32, 33, 34, 35, 36, 37, 38, 39, 40, 41, 42] (by decide +kernel) (by decide +kernel)
set_option maxRecDepth 20000 in
theorem gX6_lets_X6_falses : GoodIn wsX6_lets (wsV RX6 99 RX6 yX6_falses wsX6_falses) := goodIn_app (goodIn_of _ (by decide +kernel)) ggX6_lets_X6_falses
theorem dX6_lets_0 : decode cX6_lets 0 = .ok (.iconst 0, 1) := by decide +kernel
theorem dX6_lets_1 : decode cX6_lets 1 = .ok (.istore_n 2, 1) := by decide +kernel
theorem dX6_lets_2 : decode cX6_lets 2 = .ok (.iload_n 2, 1) := by decide +kernel
theorem dX6_lets_3 : decode cX6_lets 3 = .ok (.bipush 6, 2) := by decide +kernel
theorem dX6_lets_5 : decode cX6_lets 5 = .ok (.if_icmp .ge 80, 3) := by decide +kernel
theorem dX6_lets_8 : decode cX6_lets 8 = .ok (.bipush (-50), 2) := by decide +kernel
theorem dX6_lets_10 : decode cX6_lets 10 = .ok (.istore_n 3, 1) := by decide +kernel
theorem dX6_lets_11 : decode cX6_lets 11 = .ok (.iload_n 3, 1) := by decide +kernel
theorem dX6_lets_12 : decode cX6_lets 12 = .ok (.bipush 50, 2) := by decide +kernel
theorem dX6_lets_14 : decode cX6_lets 14 = .ok (.if_icmp .gt 65, 3) := by decide +kernel
theorem dX6_lets_17 : decode cX6_lets 17 = .ok (.aload_n 0, 1) := by decide +kernel
theorem dX6_lets_18 : decode cX6_lets 18 = .ok (.getfield 44, 3) := by decide +kernel
theorem dX6_lets_21 : decode cX6_lets 21 = .ok (.iload_n 2, 1) := by decide +kernel
theorem dX6_lets_22 : decode cX6_lets 22 = .ok (.iload_n 3, 1) := by decide +kernel
theorem dX6_lets_23 : decode cX6_lets 23 = .ok (.invokestatic 95, 3) := by decide +kernel
theorem dX6_lets_26 : decode cX6_lets 26 = .ok (.iload_n 3, 1) := by decide +kernel
theorem dX6_lets_27 : decode cX6_lets 27 = .ok (.aload_n 0, 1) := by decide +kernel
theorem dX6_lets_28 : decode cX6_lets 28 = .ok (.getfield 29, 3) := by decide +kernel
theorem dX6_lets_31 : decode cX6_lets 31 = .ok (.iload_n 2, 1) := by decide +kernel
theorem dX6_lets_32 : decode cX6_lets 32 = .ok (.iaload, 1) := by decide +kernel
theorem dX6_lets_33 : decode cX6_lets 33 = .ok (.aload_n 0, 1) := by decide +kernel
theorem dX6_lets_34 : decode cX6_lets 34 = .ok (.getfield 32, 3) := by decide +kernel
theorem dX6_lets_37 : decode cX6_lets 37 = .ok (.iload_n 2, 1) := by decide +kernel
theorem dX6_lets_38 : decode cX6_lets 38 = .ok (.iaload, 1) := by decide +kernel
theorem dX6_lets_39 : decode cX6_lets 39 = .ok (.invokestatic 70, 3) := by decide +kernel
theorem dX6_lets_42 : decode cX6_lets 42 = .ok (.ifCond .eq 18, 3) := by decide +kernel
theorem dX6_lets_45 : decode cX6_lets 45 = .ok (.aload_n 0, 1) := by decide +kernel
theorem dX6_lets_46 : decode cX6_lets 46 = .ok (.iload_n 2, 1) := by decide +kernel
theorem dX6_lets_47 : decode cX6_lets 47 = .ok (.iload_n 3, 1) := by decide +kernel
theorem dX6_lets_48 : decode cX6_lets 48 = .ok (.invokevirtual 99, 3) := by decide +kernel
theorem dX6_lets_51 : decode cX6_lets 51 = .ok (.iload_n 1, 1) := by decide +kernel
theorem dX6_lets_52 : decode cX6_lets 52 = .ok (.iand, 1) := by decide +kernel
theorem dX6_lets_53 : decode cX6_lets 53 = .ok (.ifCond .ne 7, 3) := by decide +kernel
theorem dX6_lets_56 : decode cX6_lets 56 = .ok (.iconst 1, 1) := by decide +kernel
theorem dX6_lets_57 : decode cX6_lets 57 = .ok (.goto 4, 3) := by decide +kernel
theorem dX6_lets_60 : decode cX6_lets 60 = .ok (.iconst 0, 1) := by decide +kernel
theorem dX6_lets_61 : decode cX6_lets 61 = .ok (.bastore, 1) := by decide +kernel
theorem dX6_lets_62 : decode cX6_lets 62 = .ok (.aload_n 0, 1) := by decide +kernel
theorem dX6_lets_63 : decode cX6_lets 63 = .ok (.getfield 47, 3) := by decide +kernel
theorem dX6_lets_66 : decode cX6_lets 66 = .ok (.iload_n 2, 1) := by decide +kernel
theorem dX6_lets_67 : decode cX6_lets 67 = .ok (.iload_n 3, 1) := by decide +kernel
theorem dX6_lets_68 : decode cX6_lets 68 = .ok (.invokestatic 95, 3) := by decide +kernel
theorem dX6_lets_71 : decode cX6_lets 71 = .ok (.iconst 0, 1) := by decide +kernel
theorem dX6_lets_72 : decode cX6_lets 72 = .ok (.bastore, 1) := by decide +kernel
theorem dX6_lets_73 : decode cX6_lets 73 = .ok (.iinc 3 1, 3) := by decide +kernel
theorem dX6_lets_76 : decode cX6_lets 76 = .ok (.goto (-65), 3) := by decide +kernel
theorem dX6_lets_79 : decode cX6_lets 79 = .ok (.iinc 2 1, 3) := by decide +kernel
theorem dX6_lets_82 : decode cX6_lets 82 = .ok (.goto (-80), 3) := by decide +kernel
theorem dX6_lets_85 : decode cX6_lets 85 = .ok (.return_, 1) := by decide +kernel
set_option maxRecDepth 20000 in
theorem ggX6_takes_X6_in : GoodIn wsX6_takes wsX6_in := goodIn_r _ [10] (by decide +kernel) (by decide +kernel)
set_option maxRecDepth 20000 in
theorem gX6_takes_X6_in : GoodIn wsX6_takes (va_wsS RX6 70 yX6_in wsX6_in) := goodIn_app (goodIn_of _ (by decide +kernel)) ggX6_takes_X6_in
theorem dX6_takes_0 : decode cX6_takes 0 = .ok (.iconst 0, 1) := by decide +kernel
theorem dX6_takes_1 : decode cX6_takes 1 = .ok (.istore 5, 2) := by decide +kernel
theorem dX6_takes_3 : decode cX6_takes 3 = .ok (.iconst 0, 1) := by decide +kernel
theorem dX6_takes_4 : decode cX6_takes 4 = .ok (.istore 6, 2) := by decide +kernel
theorem dX6_takes_6 : decode cX6_takes 6 = .ok (.iconst 0, 1) := by decide +kernel
theorem dX6_takes_7 : decode cX6_takes 7 = .ok (.istore 7, 2) := by decide +kernel
theorem dX6_takes_9 : decode cX6_takes 9 = .ok (.iconst 0, 1) := by decide +kernel
theorem dX6_takes_10 : decode cX6_takes 10 = .ok (.istore 8, 2) := by decide +kernel
theorem dX6_takes_12 : decode cX6_takes 12 = .ok (.iload 8, 2) := by decide +kernel
theorem dX6_takes_14 : decode cX6_takes 14 = .ok (.aload_n 0, 1) := by decide +kernel
theorem dX6_takes_15 : decode cX6_takes 15 = .ok (.getfield 82, 3) := by decide +kernel
theorem dX6_takes_18 : decode cX6_takes 18 = .ok (.if_icmp .ge 78, 3) := by decide +kernel
theorem dX6_takes_21 : decode cX6_takes 21 = .ok (.aload_n 0, 1) := by decide +kernel
theorem dX6_takes_22 : decode cX6_takes 22 = .ok (.getfield 13, 3) := by decide +kernel
theorem dX6_takes_25 : decode cX6_takes 25 = .ok (.iload 8, 2) := by decide +kernel
theorem dX6_takes_27 : decode cX6_takes 27 = .ok (.iaload, 1) := by decide +kernel
theorem dX6_takes_28 : decode cX6_takes 28 = .ok (.iload_n 1, 1) := by decide +kernel
theorem dX6_takes_29 : decode cX6_takes 29 = .ok (.if_icmp .ne 61, 3) := by decide +kernel
theorem dX6_takes_32 : decode cX6_takes 32 = .ok (.aload_n 0, 1) := by decide +kernel
theorem dX6_takes_33 : decode cX6_takes 33 = .ok (.getfield 16, 3) := by decide +kernel
theorem dX6_takes_36 : decode cX6_takes 36 = .ok (.iload 8, 2) := by decide +kernel
theorem dX6_takes_38 : decode cX6_takes 38 = .ok (.baload, 1) := by decide +kernel
theorem dX6_takes_39 : decode cX6_takes 39 = .ok (.iload_n 2, 1) := by decide +kernel
theorem dX6_takes_40 : decode cX6_takes 40 = .ok (.if_icmp .ne 50, 3) := by decide +kernel
theorem dX6_takes_43 : decode cX6_takes 43 = .ok (.aload_n 0, 1) := by decide +kernel
theorem dX6_takes_44 : decode cX6_takes 44 = .ok (.getfield 26, 3) := by decide +kernel
theorem dX6_takes_47 : decode cX6_takes 47 = .ok (.iload 8, 2) := by decide +kernel
theorem dX6_takes_49 : decode cX6_takes 49 = .ok (.baload, 1) := by decide +kernel
theorem dX6_takes_50 : decode cX6_takes 50 = .ok (.ifCond .ne 40, 3) := by decide +kernel
theorem dX6_takes_53 : decode cX6_takes 53 = .ok (.iload 8, 2) := by decide +kernel
theorem dX6_takes_55 : decode cX6_takes 55 = .ok (.iload 4, 2) := by decide +kernel
theorem dX6_takes_57 : decode cX6_takes 57 = .ok (.if_icmp .ne 6, 3) := by decide +kernel
theorem dX6_takes_60 : decode cX6_takes 60 = .ok (.goto 30, 3) := by decide +kernel
theorem dX6_takes_63 : decode cX6_takes 63 = .ok (.iload 5, 2) := by decide +kernel
theorem dX6_takes_65 : decode cX6_takes 65 = .ok (.aload_n 0, 1) := by decide +kernel
theorem dX6_takes_66 : decode cX6_takes 66 = .ok (.getfield 20, 3) := by decide +kernel
theorem dX6_takes_69 : decode cX6_takes 69 = .ok (.iload 8, 2) := by decide +kernel
theorem dX6_takes_71 : decode cX6_takes 71 = .ok (.iaload, 1) := by decide +kernel
theorem dX6_takes_72 : decode cX6_takes 72 = .ok (.iadd, 1) := by decide +kernel
theorem dX6_takes_73 : decode cX6_takes 73 = .ok (.istore 5, 2) := by decide +kernel
theorem dX6_takes_75 : decode cX6_takes 75 = .ok (.iload 6, 2) := by decide +kernel
theorem dX6_takes_77 : decode cX6_takes 77 = .ok (.aload_n 0, 1) := by decide +kernel
theorem dX6_takes_78 : decode cX6_takes 78 = .ok (.getfield 23, 3) := by decide +kernel
theorem dX6_takes_81 : decode cX6_takes 81 = .ok (.iload 8, 2) := by decide +kernel
theorem dX6_takes_83 : decode cX6_takes 83 = .ok (.iaload, 1) := by decide +kernel
theorem dX6_takes_84 : decode cX6_takes 84 = .ok (.iadd, 1) := by decide +kernel
theorem dX6_takes_85 : decode cX6_takes 85 = .ok (.istore 6, 2) := by decide +kernel
theorem dX6_takes_87 : decode cX6_takes 87 = .ok (.iinc 7 1, 3) := by decide +kernel
theorem dX6_takes_90 : decode cX6_takes 90 = .ok (.iinc 8 1, 3) := by decide +kernel
theorem dX6_takes_93 : decode cX6_takes 93 = .ok (.goto (-81), 3) := by decide +kernel
theorem dX6_takes_96 : decode cX6_takes 96 = .ok (.iload_n 2, 1) := by decide +kernel
theorem dX6_takes_97 : decode cX6_takes 97 = .ok (.ifCond .eq 8, 3) := by decide +kernel
theorem dX6_takes_100 : decode cX6_takes 100 = .ok (.iload 7, 2) := by decide +kernel
theorem dX6_takes_102 : decode cX6_takes 102 = .ok (.ifCond .eq 14, 3) := by decide +kernel
theorem dX6_takes_105 : decode cX6_takes 105 = .ok (.iload_n 3, 1) := by decide +kernel
theorem dX6_takes_106 : decode cX6_takes 106 = .ok (.iload 5, 2) := by decide +kernel
theorem dX6_takes_108 : decode cX6_takes 108 = .ok (.iload 6, 2) := by decide +kernel
theorem dX6_takes_110 : decode cX6_takes 110 = .ok (.invokestatic 70, 3) := by decide +kernel
theorem dX6_takes_113 : decode cX6_takes 113 = .ok (.ifCond .eq 7, 3) := by decide +kernel
theorem dX6_takes_116 : decode cX6_takes 116 = .ok (.iconst 1, 1) := by decide +kernel
theorem dX6_takes_117 : decode cX6_takes 117 = .ok (.goto 4, 3) := by decide +kernel
theorem dX6_takes_120 : decode cX6_takes 120 = .ok (.iconst 0, 1) := by decide +kernel
theorem dX6_takes_121 : decode cX6_takes 121 = .ok (.ireturn, 1) := by decide +kernel
set_option maxRecDepth 20000 in
theorem ggX6_isFirst_X6_cell : GoodIn wsX6_isFirst wsX6_cell := goodIn_r _ [5] (by decide +kernel) (by decide +kernel)
set_option maxRecDepth 20000 in
theorem gX6_isFirst_X6_cell : GoodIn wsX6_isFirst (va_wsS RX6 95 yX6_cell wsX6_cell) := goodIn_app (goodIn_of _ (by decide +kernel)) ggX6_isFirst_X6_cell
set_option maxRecDepth 20000 in
theorem ggX6_isFirst_X6_takes : GoodIn wsX6_isFirst wsX6_takes := goodIn_r _ [9, 10, 11, 12, 13, 14, 15, 16, 17, 4, 18, 19, 20, 21, 22, 23, 24, 25, 26, 27, 28, 29, 30, 31, 32, 33, 34, 35, 36, 37, 38, 39, 40, 41] (by decide +kernel) (by decide +kernel)
set_option maxRecDepth 20000 in
theorem gX6_isFirst_X6_takes : GoodIn wsX6_isFirst (wsV RX6 102 RX6 yX6_takes wsX6_takes) := goodIn_app (goodIn_of _ (by decide +kernel)) ggX6_isFirst_X6_takes
theorem dX6_isFirst_0 : decode cX6_isFirst 0 = .ok (.iload_n 3, 1) := by decide +kernel
theorem dX6_isFirst_1 : decode cX6_isFirst 1 = .ok (.ifCond .le 15, 3) := by decide +kernel
theorem dX6_isFirst_4 : decode cX6_isFirst 4 = .ok (.iload_n 2, 1) := by decide +kernel
theorem dX6_isFirst_5 : decode cX6_isFirst 5 = .ok (.ifCond .le 7, 3) := by decide +kernel
theorem dX6_isFirst_8 : decode cX6_isFirst 8 = .ok (.iconst 1, 1) := by decide +kernel
theorem dX6_isFirst_9 : decode cX6_isFirst 9 = .ok (.goto 32, 3) := by decide +kernel
theorem dX6_isFirst_12 : decode cX6_isFirst 12 = .ok (.iconst 0, 1) := by decide +kernel
theorem dX6_isFirst_13 : decode cX6_isFirst 13 = .ok (.goto 28, 3) := by decide +kernel
theorem dX6_isFirst_16 : decode cX6_isFirst 16 = .ok (.iload_n 3, 1) := by decide +kernel
theorem dX6_isFirst_17 : decode cX6_isFirst 17 = .ok (.ifCond .ge 15, 3) := by decide +kernel
theorem dX6_isFirst_20 : decode cX6_isFirst 20 = .ok (.iload_n 2, 1) := by decide +kernel
theorem dX6_isFirst_21 : decode cX6_isFirst 21 = .ok (.ifCond .ge 7, 3) := by decide +kernel
theorem dX6_isFirst_24 : decode cX6_isFirst 24 = .ok (.iconst 1, 1) := by decide +kernel
theorem dX6_isFirst_25 : decode cX6_isFirst 25 = .ok (.goto 16, 3) := by decide +kernel
theorem dX6_isFirst_28 : decode cX6_isFirst 28 = .ok (.iconst 0, 1) := by decide +kernel
theorem dX6_isFirst_29 : decode cX6_isFirst 29 = .ok (.goto 12, 3) := by decide +kernel
theorem dX6_isFirst_32 : decode cX6_isFirst 32 = .ok (.iload_n 2, 1) := by decide +kernel
theorem dX6_isFirst_33 : decode cX6_isFirst 33 = .ok (.ifCond .lt 7, 3) := by decide +kernel
theorem dX6_isFirst_36 : decode cX6_isFirst 36 = .ok (.iconst 1, 1) := by decide +kernel
theorem dX6_isFirst_37 : decode cX6_isFirst 37 = .ok (.goto 4, 3) := by decide +kernel
theorem dX6_isFirst_40 : decode cX6_isFirst 40 = .ok (.iconst 0, 1) := by decide +kernel
theorem dX6_isFirst_41 : decode cX6_isFirst 41 = .ok (.istore 5, 2) := by decide +kernel
theorem dX6_isFirst_43 : decode cX6_isFirst 43 = .ok (.iload 5, 2) := by decide +kernel
theorem dX6_isFirst_45 : decode cX6_isFirst 45 = .ok (.ifCond .eq 43, 3) := by decide +kernel
theorem dX6_isFirst_48 : decode cX6_isFirst 48 = .ok (.aload_n 0, 1) := by decide +kernel
theorem dX6_isFirst_49 : decode cX6_isFirst 49 = .ok (.getfield 44, 3) := by decide +kernel
theorem dX6_isFirst_52 : decode cX6_isFirst 52 = .ok (.iconst 3, 1) := by decide +kernel
theorem dX6_isFirst_53 : decode cX6_isFirst 53 = .ok (.iload_n 1, 1) := by decide +kernel
theorem dX6_isFirst_54 : decode cX6_isFirst 54 = .ok (.imul, 1) := by decide +kernel
theorem dX6_isFirst_55 : decode cX6_isFirst 55 = .ok (.iload_n 2, 1) := by decide +kernel
theorem dX6_isFirst_56 : decode cX6_isFirst 56 = .ok (.invokestatic 95, 3) := by decide +kernel
theorem dX6_isFirst_59 : decode cX6_isFirst 59 = .ok (.baload, 1) := by decide +kernel
theorem dX6_isFirst_60 : decode cX6_isFirst 60 = .ok (.ifCond .eq 28, 3) := by decide +kernel
theorem dX6_isFirst_63 : decode cX6_isFirst 63 = .ok (.aload_n 0, 1) := by decide +kernel
theorem dX6_isFirst_64 : decode cX6_isFirst 64 = .ok (.iload_n 1, 1) := by decide +kernel
theorem dX6_isFirst_65 : decode cX6_isFirst 65 = .ok (.iconst 0, 1) := by decide +kernel
theorem dX6_isFirst_66 : decode cX6_isFirst 66 = .ok (.bipush 51, 2) := by decide +kernel
theorem dX6_isFirst_68 : decode cX6_isFirst 68 = .ok (.iload_n 2, 1) := by decide +kernel
theorem dX6_isFirst_69 : decode cX6_isFirst 69 = .ok (.iload_n 2, 1) := by decide +kernel
theorem dX6_isFirst_70 : decode cX6_isFirst 70 = .ok (.imul, 1) := by decide +kernel
theorem dX6_isFirst_71 : decode cX6_isFirst 71 = .ok (.iload_n 3, 1) := by decide +kernel
theorem dX6_isFirst_72 : decode cX6_isFirst 72 = .ok (.iload_n 3, 1) := by decide +kernel
theorem dX6_isFirst_73 : decode cX6_isFirst 73 = .ok (.imul, 1) := by decide +kernel
theorem dX6_isFirst_74 : decode cX6_isFirst 74 = .ok (.isub, 1) := by decide +kernel
theorem dX6_isFirst_75 : decode cX6_isFirst 75 = .ok (.imul, 1) := by decide +kernel
theorem dX6_isFirst_76 : decode cX6_isFirst 76 = .ok (.iload 4, 2) := by decide +kernel
theorem dX6_isFirst_78 : decode cX6_isFirst 78 = .ok (.invokevirtual 102, 3) := by decide +kernel
theorem dX6_isFirst_81 : decode cX6_isFirst 81 = .ok (.ifCond .eq 7, 3) := by decide +kernel
theorem dX6_isFirst_84 : decode cX6_isFirst 84 = .ok (.iconst 1, 1) := by decide +kernel
theorem dX6_isFirst_85 : decode cX6_isFirst 85 = .ok (.goto 4, 3) := by decide +kernel
theorem dX6_isFirst_88 : decode cX6_isFirst 88 = .ok (.iconst 0, 1) := by decide +kernel
theorem dX6_isFirst_89 : decode cX6_isFirst 89 = .ok (.ireturn, 1) := by decide +kernel
set_option maxRecDepth 20000 in
theorem ggX6_counts_X6_cell : GoodIn wsX6_counts wsX6_cell := goodIn_r _ [6] (by decide +kernel) (by decide +kernel)
set_option maxRecDepth 20000 in
theorem gX6_counts_X6_cell : GoodIn wsX6_counts (va_wsS RX6 95 yX6_cell wsX6_cell) := goodIn_app (goodIn_of _ (by decide +kernel)) ggX6_counts_X6_cell
set_option maxRecDepth 20000 in
theorem ggX6_counts_X6_isFirst : GoodIn wsX6_counts wsX6_isFirst := goodIn_r _ [10, 1, 3, 4, 5, 6, 11, 12, 13, 14, 15, 16, 17, 18, 19, 20, 21, 22, 23, 24, 25, 26, 27, 28, 29, 30, 31, 32, 33, 34, 35, 36, 37, 38, 39, 40, 41, 42, 43, 44, 45, 46] (by decide +kernel) (by decide +kernel)
set_option maxRecDepth 20000 in
theorem gX6_counts_X6_isFirst : GoodIn wsX6_counts (wsV RX6 106 RX6 yX6_isFirst wsX6_isFirst) := goodIn_app (goodIn_of _ (by decide +kernel)) ggX6_counts_X6_isFirst
set_option maxRecDepth 20000 in
theorem ggX6_counts_X6_takes : GoodIn wsX6_counts wsX6_takes := goodIn_r _ [14, 15, 16, 17, 18, 19, 20, 21, 22, 5, 23, 24, 25, 26, 27, 28, 29, 30, 31, 32, 33, 34, 35, 36, 37, 38, 39, 40, 41, 42, 43, 44, 45, 46] (by decide +kernel) (by decide +kernel)
set_option maxRecDepth 20000 in
theorem gX6_counts_X6_takes : GoodIn wsX6_counts (wsV RX6 102 RX6 yX6_takes wsX6_takes) := goodIn_app (goodIn_of _ (by decide +kernel)) ggX6_counts_X6_takes
theorem dX6_counts_0 : decode cX6_counts 0 = .ok (.iconst 0, 1) := by decide +kernel
theorem dX6_counts_1 : decode cX6_counts 1 = .ok (.istore_n 2, 1) := by decide +kernel
theorem dX6_counts_2 : decode cX6_counts 2 = .ok (.iload_n 2, 1) := by decide +kernel
theorem dX6_counts_3 : decode cX6_counts 3 = .ok (.iconst 2, 1) := by decide +kernel
theorem dX6_counts_4 : decode cX6_counts 4 = .ok (.if_icmp .ge 148, 3) := by decide +kernel
theorem dX6_counts_7 : decode cX6_counts 7 = .ok (.bipush (-50), 2) := by decide +kernel
theorem dX6_counts_9 : decode cX6_counts 9 = .ok (.istore_n 3, 1) := by decide +kernel
theorem dX6_counts_10 : decode cX6_counts 10 = .ok (.iload_n 3, 1) := by decide +kernel
theorem dX6_counts_11 : decode cX6_counts 11 = .ok (.bipush 50, 2) := by decide +kernel
theorem dX6_counts_13 : decode cX6_counts 13 = .ok (.if_icmp .gt 133, 3) := by decide +kernel
theorem dX6_counts_16 : decode cX6_counts 16 = .ok (.iconst 0, 1) := by decide +kernel
theorem dX6_counts_17 : decode cX6_counts 17 = .ok (.istore 4, 2) := by decide +kernel
theorem dX6_counts_19 : decode cX6_counts 19 = .ok (.bipush (-50), 2) := by decide +kernel
theorem dX6_counts_21 : decode cX6_counts 21 = .ok (.istore 5, 2) := by decide +kernel
theorem dX6_counts_23 : decode cX6_counts 23 = .ok (.iload 5, 2) := by decide +kernel
theorem dX6_counts_25 : decode cX6_counts 25 = .ok (.bipush 50, 2) := by decide +kernel
theorem dX6_counts_27 : decode cX6_counts 27 = .ok (.if_icmp .gt 48, 3) := by decide +kernel
theorem dX6_counts_30 : decode cX6_counts 30 = .ok (.aload_n 0, 1) := by decide +kernel
theorem dX6_counts_31 : decode cX6_counts 31 = .ok (.getfield 44, 3) := by decide +kernel
theorem dX6_counts_34 : decode cX6_counts 34 = .ok (.iconst 3, 1) := by decide +kernel
theorem dX6_counts_35 : decode cX6_counts 35 = .ok (.iload_n 2, 1) := by decide +kernel
theorem dX6_counts_36 : decode cX6_counts 36 = .ok (.imul, 1) := by decide +kernel
theorem dX6_counts_37 : decode cX6_counts 37 = .ok (.iconst 1, 1) := by decide +kernel
theorem dX6_counts_38 : decode cX6_counts 38 = .ok (.iadd, 1) := by decide +kernel
theorem dX6_counts_39 : decode cX6_counts 39 = .ok (.iload_n 3, 1) := by decide +kernel
theorem dX6_counts_40 : decode cX6_counts 40 = .ok (.invokestatic 95, 3) := by decide +kernel
theorem dX6_counts_43 : decode cX6_counts 43 = .ok (.baload, 1) := by decide +kernel
theorem dX6_counts_44 : decode cX6_counts 44 = .ok (.ifCond .eq 31, 3) := by decide +kernel
theorem dX6_counts_47 : decode cX6_counts 47 = .ok (.iload 4, 2) := by decide +kernel
theorem dX6_counts_49 : decode cX6_counts 49 = .ok (.aload_n 0, 1) := by decide +kernel
theorem dX6_counts_50 : decode cX6_counts 50 = .ok (.iload_n 2, 1) := by decide +kernel
theorem dX6_counts_51 : decode cX6_counts 51 = .ok (.iload 5, 2) := by decide +kernel
theorem dX6_counts_53 : decode cX6_counts 53 = .ok (.iload_n 3, 1) := by decide +kernel
theorem dX6_counts_54 : decode cX6_counts 54 = .ok (.iload_n 1, 1) := by decide +kernel
theorem dX6_counts_55 : decode cX6_counts 55 = .ok (.invokevirtual 106, 3) := by decide +kernel
theorem dX6_counts_58 : decode cX6_counts 58 = .ok (.ifCond .eq 7, 3) := by decide +kernel
theorem dX6_counts_61 : decode cX6_counts 61 = .ok (.iconst 1, 1) := by decide +kernel
theorem dX6_counts_62 : decode cX6_counts 62 = .ok (.goto 4, 3) := by decide +kernel
theorem dX6_counts_65 : decode cX6_counts 65 = .ok (.iconst 0, 1) := by decide +kernel
theorem dX6_counts_66 : decode cX6_counts 66 = .ok (.iadd, 1) := by decide +kernel
theorem dX6_counts_67 : decode cX6_counts 67 = .ok (.istore 4, 2) := by decide +kernel
theorem dX6_counts_69 : decode cX6_counts 69 = .ok (.iinc 5 1, 3) := by decide +kernel
theorem dX6_counts_72 : decode cX6_counts 72 = .ok (.goto (-49), 3) := by decide +kernel
theorem dX6_counts_75 : decode cX6_counts 75 = .ok (.aload_n 0, 1) := by decide +kernel
theorem dX6_counts_76 : decode cX6_counts 76 = .ok (.getfield 50, 3) := by decide +kernel
theorem dX6_counts_79 : decode cX6_counts 79 = .ok (.bipush 101, 2) := by decide +kernel
theorem dX6_counts_81 : decode cX6_counts 81 = .ok (.iload_n 2, 1) := by decide +kernel
theorem dX6_counts_82 : decode cX6_counts 82 = .ok (.imul, 1) := by decide +kernel
theorem dX6_counts_83 : decode cX6_counts 83 = .ok (.iload_n 3, 1) := by decide +kernel
theorem dX6_counts_84 : decode cX6_counts 84 = .ok (.iadd, 1) := by decide +kernel
theorem dX6_counts_85 : decode cX6_counts 85 = .ok (.bipush 50, 2) := by decide +kernel
theorem dX6_counts_87 : decode cX6_counts 87 = .ok (.iadd, 1) := by decide +kernel
theorem dX6_counts_88 : decode cX6_counts 88 = .ok (.iload 4, 2) := by decide +kernel
theorem dX6_counts_90 : decode cX6_counts 90 = .ok (.iastore, 1) := by decide +kernel
theorem dX6_counts_91 : decode cX6_counts 91 = .ok (.iconst 3, 1) := by decide +kernel
theorem dX6_counts_92 : decode cX6_counts 92 = .ok (.iload_n 2, 1) := by decide +kernel
theorem dX6_counts_93 : decode cX6_counts 93 = .ok (.imul, 1) := by decide +kernel
theorem dX6_counts_94 : decode cX6_counts 94 = .ok (.iconst 2, 1) := by decide +kernel
theorem dX6_counts_95 : decode cX6_counts 95 = .ok (.iadd, 1) := by decide +kernel
theorem dX6_counts_96 : decode cX6_counts 96 = .ok (.iload_n 3, 1) := by decide +kernel
theorem dX6_counts_97 : decode cX6_counts 97 = .ok (.invokestatic 95, 3) := by decide +kernel
theorem dX6_counts_100 : decode cX6_counts 100 = .ok (.istore 5, 2) := by decide +kernel
theorem dX6_counts_102 : decode cX6_counts 102 = .ok (.aload_n 0, 1) := by decide +kernel
theorem dX6_counts_103 : decode cX6_counts 103 = .ok (.getfield 44, 3) := by decide +kernel
theorem dX6_counts_106 : decode cX6_counts 106 = .ok (.iload 5, 2) := by decide +kernel
theorem dX6_counts_108 : decode cX6_counts 108 = .ok (.aload_n 0, 1) := by decide +kernel
theorem dX6_counts_109 : decode cX6_counts 109 = .ok (.getfield 44, 3) := by decide +kernel
theorem dX6_counts_112 : decode cX6_counts 112 = .ok (.iload 5, 2) := by decide +kernel
theorem dX6_counts_114 : decode cX6_counts 114 = .ok (.baload, 1) := by decide +kernel
theorem dX6_counts_115 : decode cX6_counts 115 = .ok (.ifCond .eq 23, 3) := by decide +kernel
theorem dX6_counts_118 : decode cX6_counts 118 = .ok (.aload_n 0, 1) := by decide +kernel
theorem dX6_counts_119 : decode cX6_counts 119 = .ok (.iload_n 2, 1) := by decide +kernel
theorem dX6_counts_120 : decode cX6_counts 120 = .ok (.iconst 1, 1) := by decide +kernel
theorem dX6_counts_121 : decode cX6_counts 121 = .ok (.bipush 51, 2) := by decide +kernel
theorem dX6_counts_123 : decode cX6_counts 123 = .ok (.iload_n 3, 1) := by decide +kernel
theorem dX6_counts_124 : decode cX6_counts 124 = .ok (.imul, 1) := by decide +kernel
theorem dX6_counts_125 : decode cX6_counts 125 = .ok (.iload_n 3, 1) := by decide +kernel
theorem dX6_counts_126 : decode cX6_counts 126 = .ok (.imul, 1) := by decide +kernel
theorem dX6_counts_127 : decode cX6_counts 127 = .ok (.iload_n 1, 1) := by decide +kernel
theorem dX6_counts_128 : decode cX6_counts 128 = .ok (.invokevirtual 102, 3) := by decide +kernel
theorem dX6_counts_131 : decode cX6_counts 131 = .ok (.ifCond .eq 7, 3) := by decide +kernel
theorem dX6_counts_134 : decode cX6_counts 134 = .ok (.iconst 1, 1) := by decide +kernel
theorem dX6_counts_135 : decode cX6_counts 135 = .ok (.goto 4, 3) := by decide +kernel
theorem dX6_counts_138 : decode cX6_counts 138 = .ok (.iconst 0, 1) := by decide +kernel
theorem dX6_counts_139 : decode cX6_counts 139 = .ok (.bastore, 1) := by decide +kernel
theorem dX6_counts_140 : decode cX6_counts 140 = .ok (.iinc 3 1, 3) := by decide +kernel
theorem dX6_counts_143 : decode cX6_counts 143 = .ok (.goto (-133), 3) := by decide +kernel
theorem dX6_counts_146 : decode cX6_counts 146 = .ok (.iinc 2 1, 3) := by decide +kernel
theorem dX6_counts_149 : decode cX6_counts 149 = .ok (.goto (-147), 3) := by decide +kernel
theorem dX6_counts_152 : decode cX6_counts 152 = .ok (.return_, 1) := by decide +kernel
theorem dX6_masks_0 : decode cX6_masks 0 = .ok (.iload_n 1, 1) := by decide +kernel
theorem dX6_masks_1 : decode cX6_masks 1 = .ok (.bipush 50, 2) := by decide +kernel
theorem dX6_masks_3 : decode cX6_masks 3 = .ok (.iadd, 1) := by decide +kernel
theorem dX6_masks_4 : decode cX6_masks 4 = .ok (.istore 4, 2) := by decide +kernel
theorem dX6_masks_6 : decode cX6_masks 6 = .ok (.bipush 101, 2) := by decide +kernel
theorem dX6_masks_8 : decode cX6_masks 8 = .ok (.iload_n 2, 1) := by decide +kernel
theorem dX6_masks_9 : decode cX6_masks 9 = .ok (.iadd, 1) := by decide +kernel
theorem dX6_masks_10 : decode cX6_masks 10 = .ok (.bipush 50, 2) := by decide +kernel
theorem dX6_masks_12 : decode cX6_masks 12 = .ok (.iadd, 1) := by decide +kernel
theorem dX6_masks_13 : decode cX6_masks 13 = .ok (.istore 5, 2) := by decide +kernel
theorem dX6_masks_15 : decode cX6_masks 15 = .ok (.iconst 0, 1) := by decide +kernel
theorem dX6_masks_16 : decode cX6_masks 16 = .ok (.istore 6, 2) := by decide +kernel
theorem dX6_masks_18 : decode cX6_masks 18 = .ok (.iload 6, 2) := by decide +kernel
theorem dX6_masks_20 : decode cX6_masks 20 = .ok (.aload_n 0, 1) := by decide +kernel
theorem dX6_masks_21 : decode cX6_masks 21 = .ok (.getfield 63, 3) := by decide +kernel
theorem dX6_masks_24 : decode cX6_masks 24 = .ok (.iload 4, 2) := by decide +kernel
theorem dX6_masks_26 : decode cX6_masks 26 = .ok (.iaload, 1) := by decide +kernel
theorem dX6_masks_27 : decode cX6_masks 27 = .ok (.if_icmp .ge 65, 3) := by decide +kernel
theorem dX6_masks_30 : decode cX6_masks 30 = .ok (.iconst 0, 1) := by decide +kernel
theorem dX6_masks_31 : decode cX6_masks 31 = .ok (.istore 7, 2) := by decide +kernel
theorem dX6_masks_33 : decode cX6_masks 33 = .ok (.iload 7, 2) := by decide +kernel
theorem dX6_masks_35 : decode cX6_masks 35 = .ok (.aload_n 0, 1) := by decide +kernel
theorem dX6_masks_36 : decode cX6_masks 36 = .ok (.getfield 63, 3) := by decide +kernel
theorem dX6_masks_39 : decode cX6_masks 39 = .ok (.iload 5, 2) := by decide +kernel
theorem dX6_masks_41 : decode cX6_masks 41 = .ok (.iaload, 1) := by decide +kernel
theorem dX6_masks_42 : decode cX6_masks 42 = .ok (.if_icmp .ge 44, 3) := by decide +kernel
theorem dX6_masks_45 : decode cX6_masks 45 = .ok (.aload_n 0, 1) := by decide +kernel
theorem dX6_masks_46 : decode cX6_masks 46 = .ok (.getfield 53, 3) := by decide +kernel
theorem dX6_masks_49 : decode cX6_masks 49 = .ok (.aload_n 0, 1) := by decide +kernel
theorem dX6_masks_50 : decode cX6_masks 50 = .ok (.getfield 60, 3) := by decide +kernel
theorem dX6_masks_53 : decode cX6_masks 53 = .ok (.bipush 101, 2) := by decide +kernel
theorem dX6_masks_55 : decode cX6_masks 55 = .ok (.iload 4, 2) := by decide +kernel
theorem dX6_masks_57 : decode cX6_masks 57 = .ok (.imul, 1) := by decide +kernel
theorem dX6_masks_58 : decode cX6_masks 58 = .ok (.iload 6, 2) := by decide +kernel
theorem dX6_masks_60 : decode cX6_masks 60 = .ok (.iadd, 1) := by decide +kernel
theorem dX6_masks_61 : decode cX6_masks 61 = .ok (.iaload, 1) := by decide +kernel
theorem dX6_masks_62 : decode cX6_masks 62 = .ok (.aload_n 0, 1) := by decide +kernel
theorem dX6_masks_63 : decode cX6_masks 63 = .ok (.getfield 60, 3) := by decide +kernel
theorem dX6_masks_66 : decode cX6_masks 66 = .ok (.bipush 101, 2) := by decide +kernel
theorem dX6_masks_68 : decode cX6_masks 68 = .ok (.iload 5, 2) := by decide +kernel
theorem dX6_masks_70 : decode cX6_masks 70 = .ok (.imul, 1) := by decide +kernel
theorem dX6_masks_71 : decode cX6_masks 71 = .ok (.iload 7, 2) := by decide +kernel
theorem dX6_masks_73 : decode cX6_masks 73 = .ok (.iadd, 1) := by decide +kernel
theorem dX6_masks_74 : decode cX6_masks 74 = .ok (.iaload, 1) := by decide +kernel
theorem dX6_masks_75 : decode cX6_masks 75 = .ok (.ior, 1) := by decide +kernel
theorem dX6_masks_76 : decode cX6_masks 76 = .ok (.iload_n 3, 1) := by decide +kernel
theorem dX6_masks_77 : decode cX6_masks 77 = .ok (.ior, 1) := by decide +kernel
theorem dX6_masks_78 : decode cX6_masks 78 = .ok (.iconst 1, 1) := by decide +kernel
theorem dX6_masks_79 : decode cX6_masks 79 = .ok (.bastore, 1) := by decide +kernel
theorem dX6_masks_80 : decode cX6_masks 80 = .ok (.iinc 7 1, 3) := by decide +kernel
theorem dX6_masks_83 : decode cX6_masks 83 = .ok (.goto (-50), 3) := by decide +kernel
theorem dX6_masks_86 : decode cX6_masks 86 = .ok (.iinc 6 1, 3) := by decide +kernel
theorem dX6_masks_89 : decode cX6_masks 89 = .ok (.goto (-71), 3) := by decide +kernel
theorem dX6_masks_92 : decode cX6_masks 92 = .ok (.return_, 1) := by decide +kernel
theorem dX6_all_0 : decode cX6_all 0 = .ok (.iconst 1, 1) := by decide +kernel
theorem dX6_all_1 : decode cX6_all 1 = .ok (.aload_n 0, 1) := by decide +kernel
theorem dX6_all_2 : decode cX6_all 2 = .ok (.getfield 92, 3) := by decide +kernel
theorem dX6_all_5 : decode cX6_all 5 = .ok (.ishl, 1) := by decide +kernel
theorem dX6_all_6 : decode cX6_all 6 = .ok (.iconst 1, 1) := by decide +kernel
theorem dX6_all_7 : decode cX6_all 7 = .ok (.isub, 1) := by decide +kernel
theorem dX6_all_8 : decode cX6_all 8 = .ok (.ireturn, 1) := by decide +kernel
set_option maxRecDepth 20000 in
theorem ggX6_look_X6_in : GoodIn wsX6_look wsX6_in := goodIn_r _ [11] (by decide +kernel) (by decide +kernel)
set_option maxRecDepth 20000 in
theorem gX6_look_X6_in : GoodIn wsX6_look (va_wsS RX6 70 yX6_in wsX6_in) := goodIn_app (goodIn_of _ (by decide +kernel)) ggX6_look_X6_in
set_option maxRecDepth 20000 in
theorem ggX6_look_X6_throwsIf : GoodIn wsX6_look wsX6_throwsIf := goodIn_r _ [15, 1, 16, 17, 18, 19, 20, 21, 22, 23, 24, 25, 26, 27, 28, 29, 30, 31, 32, 33, 34, 35, 36, 37, 38] (by decide +kernel) (by decide +kernel)
set_option maxRecDepth 20000 in
theorem gX6_look_X6_throwsIf : GoodIn wsX6_look (wsV RX6 78 RX6 yX6_throwsIf wsX6_throwsIf) := goodIn_app (goodIn_of _ (by decide +kernel)) ggX6_look_X6_throwsIf
theorem dX6_look_0 : decode cX6_look 0 = .ok (.aload_n 0, 1) := by decide +kernel
theorem dX6_look_1 : decode cX6_look 1 = .ok (.iconst 0, 1) := by decide +kernel
theorem dX6_look_2 : decode cX6_look 2 = .ok (.putfield 66, 3) := by decide +kernel
theorem dX6_look_5 : decode cX6_look 5 = .ok (.aload_n 0, 1) := by decide +kernel
theorem dX6_look_6 : decode cX6_look 6 = .ok (.iload_n 1, 1) := by decide +kernel
theorem dX6_look_7 : decode cX6_look 7 = .ok (.iconst 0, 1) := by decide +kernel
theorem dX6_look_8 : decode cX6_look 8 = .ok (.aload_n 0, 1) := by decide +kernel
theorem dX6_look_9 : decode cX6_look 9 = .ok (.getfield 82, 3) := by decide +kernel
theorem dX6_look_12 : decode cX6_look 12 = .ok (.iconst 1, 1) := by decide +kernel
theorem dX6_look_13 : decode cX6_look 13 = .ok (.isub, 1) := by decide +kernel
theorem dX6_look_14 : decode cX6_look 14 = .ok (.invokestatic 70, 3) := by decide +kernel
theorem dX6_look_17 : decode cX6_look 17 = .ok (.ifCond .ne 7, 3) := by decide +kernel
theorem dX6_look_20 : decode cX6_look 20 = .ok (.iconst 1, 1) := by decide +kernel
theorem dX6_look_21 : decode cX6_look 21 = .ok (.goto 4, 3) := by decide +kernel
theorem dX6_look_24 : decode cX6_look 24 = .ok (.iconst 0, 1) := by decide +kernel
theorem dX6_look_25 : decode cX6_look 25 = .ok (.iconst 1, 1) := by decide +kernel
theorem dX6_look_26 : decode cX6_look 26 = .ok (.invokevirtual 78, 3) := by decide +kernel
theorem dX6_look_29 : decode cX6_look 29 = .ok (.ifCond .eq 5, 3) := by decide +kernel
theorem dX6_look_32 : decode cX6_look 32 = .ok (.iconst 0, 1) := by decide +kernel
theorem dX6_look_33 : decode cX6_look 33 = .ok (.ireturn, 1) := by decide +kernel
theorem dX6_look_34 : decode cX6_look 34 = .ok (.iload_n 2, 1) := by decide +kernel
theorem dX6_look_35 : decode cX6_look 35 = .ok (.tableswitch 84 0 4 #[33, 40, 55, 62, 69], 33) := by decide +kernel
theorem dX6_look_68 : decode cX6_look 68 = .ok (.aload_n 0, 1) := by decide +kernel
theorem dX6_look_69 : decode cX6_look 69 = .ok (.getfield 13, 3) := by decide +kernel
theorem dX6_look_72 : decode cX6_look 72 = .ok (.iload_n 1, 1) := by decide +kernel
theorem dX6_look_73 : decode cX6_look 73 = .ok (.iaload, 1) := by decide +kernel
theorem dX6_look_74 : decode cX6_look 74 = .ok (.ireturn, 1) := by decide +kernel
theorem dX6_look_75 : decode cX6_look 75 = .ok (.aload_n 0, 1) := by decide +kernel
theorem dX6_look_76 : decode cX6_look 76 = .ok (.getfield 16, 3) := by decide +kernel
theorem dX6_look_79 : decode cX6_look 79 = .ok (.iload_n 1, 1) := by decide +kernel
theorem dX6_look_80 : decode cX6_look 80 = .ok (.baload, 1) := by decide +kernel
theorem dX6_look_81 : decode cX6_look 81 = .ok (.ifCond .eq 7, 3) := by decide +kernel
theorem dX6_look_84 : decode cX6_look 84 = .ok (.iconst 1, 1) := by decide +kernel
theorem dX6_look_85 : decode cX6_look 85 = .ok (.goto 4, 3) := by decide +kernel
theorem dX6_look_88 : decode cX6_look 88 = .ok (.iconst 0, 1) := by decide +kernel
theorem dX6_look_89 : decode cX6_look 89 = .ok (.ireturn, 1) := by decide +kernel
theorem dX6_look_90 : decode cX6_look 90 = .ok (.aload_n 0, 1) := by decide +kernel
theorem dX6_look_91 : decode cX6_look 91 = .ok (.getfield 20, 3) := by decide +kernel
theorem dX6_look_94 : decode cX6_look 94 = .ok (.iload_n 1, 1) := by decide +kernel
theorem dX6_look_95 : decode cX6_look 95 = .ok (.iaload, 1) := by decide +kernel
theorem dX6_look_96 : decode cX6_look 96 = .ok (.ireturn, 1) := by decide +kernel
theorem dX6_look_97 : decode cX6_look 97 = .ok (.aload_n 0, 1) := by decide +kernel
theorem dX6_look_98 : decode cX6_look 98 = .ok (.getfield 23, 3) := by decide +kernel
theorem dX6_look_101 : decode cX6_look 101 = .ok (.iload_n 1, 1) := by decide +kernel
theorem dX6_look_102 : decode cX6_look 102 = .ok (.iaload, 1) := by decide +kernel
theorem dX6_look_103 : decode cX6_look 103 = .ok (.ireturn, 1) := by decide +kernel
theorem dX6_look_104 : decode cX6_look 104 = .ok (.aload_n 0, 1) := by decide +kernel
theorem dX6_look_105 : decode cX6_look 105 = .ok (.getfield 26, 3) := by decide +kernel
theorem dX6_look_108 : decode cX6_look 108 = .ok (.iload_n 1, 1) := by decide +kernel
theorem dX6_look_109 : decode cX6_look 109 = .ok (.baload, 1) := by decide +kernel
theorem dX6_look_110 : decode cX6_look 110 = .ok (.ifCond .eq 7, 3) := by decide +kernel
theorem dX6_look_113 : decode cX6_look 113 = .ok (.iconst 0, 1) := by decide +kernel
theorem dX6_look_114 : decode cX6_look 114 = .ok (.goto 4, 3) := by decide +kernel
theorem dX6_look_117 : decode cX6_look 117 = .ok (.iconst 1, 1) := by decide +kernel
theorem dX6_look_118 : decode cX6_look 118 = .ok (.ireturn, 1) := by decide +kernel
theorem dX6_look_119 : decode cX6_look 119 = .ok (.aload_n 0, 1) := by decide +kernel
theorem dX6_look_120 : decode cX6_look 120 = .ok (.iconst 2, 1) := by decide +kernel
theorem dX6_look_121 : decode cX6_look 121 = .ok (.putfield 66, 3) := by decide +kernel
theorem dX6_look_124 : decode cX6_look 124 = .ok (.iconst 0, 1) := by decide +kernel
theorem dX6_look_125 : decode cX6_look 125 = .ok (.ireturn, 1) := by decide +kernel
theorem dX6_count_0 : decode cX6_count 0 = .ok (.aload_n 0, 1) := by decide +kernel
theorem dX6_count_1 : decode cX6_count 1 = .ok (.iconst 0, 1) := by decide +kernel
theorem dX6_count_2 : decode cX6_count 2 = .ok (.putfield 66, 3) := by decide +kernel
theorem dX6_count_5 : decode cX6_count 5 = .ok (.iconst 0, 1) := by decide +kernel
theorem dX6_count_6 : decode cX6_count 6 = .ok (.istore_n 2, 1) := by decide +kernel
theorem dX6_count_7 : decode cX6_count 7 = .ok (.iload_n 1, 1) := by decide +kernel
theorem dX6_count_8 : decode cX6_count 8 = .ok (.tableswitch 90 0 4 #[36, 41, 76, 81, 81], 36) := by decide +kernel
theorem dX6_count_44 : decode cX6_count 44 = .ok (.aload_n 0, 1) := by decide +kernel
theorem dX6_count_45 : decode cX6_count 45 = .ok (.getfield 82, 3) := by decide +kernel
theorem dX6_count_48 : decode cX6_count 48 = .ok (.ireturn, 1) := by decide +kernel
theorem dX6_count_49 : decode cX6_count 49 = .ok (.iconst 0, 1) := by decide +kernel
theorem dX6_count_50 : decode cX6_count 50 = .ok (.istore_n 3, 1) := by decide +kernel
theorem dX6_count_51 : decode cX6_count 51 = .ok (.iload_n 3, 1) := by decide +kernel
theorem dX6_count_52 : decode cX6_count 52 = .ok (.aload_n 0, 1) := by decide +kernel
theorem dX6_count_53 : decode cX6_count 53 = .ok (.getfield 82, 3) := by decide +kernel
theorem dX6_count_56 : decode cX6_count 56 = .ok (.if_icmp .ge 26, 3) := by decide +kernel
theorem dX6_count_59 : decode cX6_count 59 = .ok (.iload_n 2, 1) := by decide +kernel
theorem dX6_count_60 : decode cX6_count 60 = .ok (.aload_n 0, 1) := by decide +kernel
theorem dX6_count_61 : decode cX6_count 61 = .ok (.getfield 26, 3) := by decide +kernel
theorem dX6_count_64 : decode cX6_count 64 = .ok (.iload_n 3, 1) := by decide +kernel
theorem dX6_count_65 : decode cX6_count 65 = .ok (.baload, 1) := by decide +kernel
theorem dX6_count_66 : decode cX6_count 66 = .ok (.ifCond .eq 7, 3) := by decide +kernel
theorem dX6_count_69 : decode cX6_count 69 = .ok (.iconst 0, 1) := by decide +kernel
theorem dX6_count_70 : decode cX6_count 70 = .ok (.goto 4, 3) := by decide +kernel
theorem dX6_count_73 : decode cX6_count 73 = .ok (.iconst 1, 1) := by decide +kernel
theorem dX6_count_74 : decode cX6_count 74 = .ok (.iadd, 1) := by decide +kernel
theorem dX6_count_75 : decode cX6_count 75 = .ok (.istore_n 2, 1) := by decide +kernel
theorem dX6_count_76 : decode cX6_count 76 = .ok (.iinc 3 1, 3) := by decide +kernel
theorem dX6_count_79 : decode cX6_count 79 = .ok (.goto (-28), 3) := by decide +kernel
theorem dX6_count_82 : decode cX6_count 82 = .ok (.iload_n 2, 1) := by decide +kernel
theorem dX6_count_83 : decode cX6_count 83 = .ok (.ireturn, 1) := by decide +kernel
theorem dX6_count_84 : decode cX6_count 84 = .ok (.aload_n 0, 1) := by decide +kernel
theorem dX6_count_85 : decode cX6_count 85 = .ok (.getfield 92, 3) := by decide +kernel
theorem dX6_count_88 : decode cX6_count 88 = .ok (.ireturn, 1) := by decide +kernel
theorem dX6_count_89 : decode cX6_count 89 = .ok (.aload_n 0, 1) := by decide +kernel
theorem dX6_count_90 : decode cX6_count 90 = .ok (.getfield 7, 3) := by decide +kernel
theorem dX6_count_93 : decode cX6_count 93 = .ok (.iload_n 1, 1) := by decide +kernel
theorem dX6_count_94 : decode cX6_count 94 = .ok (.iconst 3, 1) := by decide +kernel
theorem dX6_count_95 : decode cX6_count 95 = .ok (.isub, 1) := by decide +kernel
theorem dX6_count_96 : decode cX6_count 96 = .ok (.iaload, 1) := by decide +kernel
theorem dX6_count_97 : decode cX6_count 97 = .ok (.ireturn, 1) := by decide +kernel
theorem dX6_count_98 : decode cX6_count 98 = .ok (.iconst (-1), 1) := by decide +kernel
theorem dX6_count_99 : decode cX6_count 99 = .ok (.ireturn, 1) := by decide +kernel
theorem dJ6_bitCount_0f7a4_0 : decode cJ6_bitCount_0f7a4 0 = .ok (.iload_n 0, 1) := by decide +kernel
theorem dJ6_bitCount_0f7a4_1 : decode cJ6_bitCount_0f7a4 1 = .ok (.iload_n 0, 1) := by decide +kernel
theorem dJ6_bitCount_0f7a4_2 : decode cJ6_bitCount_0f7a4 2 = .ok (.iconst 1, 1) := by decide +kernel
theorem dJ6_bitCount_0f7a4_3 : decode cJ6_bitCount_0f7a4 3 = .ok (.iushr, 1) := by decide +kernel
theorem dJ6_bitCount_0f7a4_4 : decode cJ6_bitCount_0f7a4 4 = .ok (.ldc_w 265, 3) := by decide +kernel
theorem dJ6_bitCount_0f7a4_7 : decode cJ6_bitCount_0f7a4 7 = .ok (.iand, 1) := by decide +kernel
theorem dJ6_bitCount_0f7a4_8 : decode cJ6_bitCount_0f7a4 8 = .ok (.isub, 1) := by decide +kernel
theorem dJ6_bitCount_0f7a4_9 : decode cJ6_bitCount_0f7a4 9 = .ok (.istore_n 0, 1) := by decide +kernel
theorem dJ6_bitCount_0f7a4_10 : decode cJ6_bitCount_0f7a4 10 = .ok (.iload_n 0, 1) := by decide +kernel
theorem dJ6_bitCount_0f7a4_11 : decode cJ6_bitCount_0f7a4 11 = .ok (.ldc_w 266, 3) := by decide +kernel
theorem dJ6_bitCount_0f7a4_14 : decode cJ6_bitCount_0f7a4 14 = .ok (.iand, 1) := by decide +kernel
theorem dJ6_bitCount_0f7a4_15 : decode cJ6_bitCount_0f7a4 15 = .ok (.iload_n 0, 1) := by decide +kernel
theorem dJ6_bitCount_0f7a4_16 : decode cJ6_bitCount_0f7a4 16 = .ok (.iconst 2, 1) := by decide +kernel
theorem dJ6_bitCount_0f7a4_17 : decode cJ6_bitCount_0f7a4 17 = .ok (.iushr, 1) := by decide +kernel
theorem dJ6_bitCount_0f7a4_18 : decode cJ6_bitCount_0f7a4 18 = .ok (.ldc_w 266, 3) := by decide +kernel
theorem dJ6_bitCount_0f7a4_21 : decode cJ6_bitCount_0f7a4 21 = .ok (.iand, 1) := by decide +kernel
theorem dJ6_bitCount_0f7a4_22 : decode cJ6_bitCount_0f7a4 22 = .ok (.iadd, 1) := by decide +kernel
theorem dJ6_bitCount_0f7a4_23 : decode cJ6_bitCount_0f7a4 23 = .ok (.istore_n 0, 1) := by decide +kernel
theorem dJ6_bitCount_0f7a4_24 : decode cJ6_bitCount_0f7a4 24 = .ok (.iload_n 0, 1) := by decide +kernel
theorem dJ6_bitCount_0f7a4_25 : decode cJ6_bitCount_0f7a4 25 = .ok (.iload_n 0, 1) := by decide +kernel
theorem dJ6_bitCount_0f7a4_26 : decode cJ6_bitCount_0f7a4 26 = .ok (.iconst 4, 1) := by decide +kernel
theorem dJ6_bitCount_0f7a4_27 : decode cJ6_bitCount_0f7a4 27 = .ok (.iushr, 1) := by decide +kernel
theorem dJ6_bitCount_0f7a4_28 : decode cJ6_bitCount_0f7a4 28 = .ok (.iadd, 1) := by decide +kernel
theorem dJ6_bitCount_0f7a4_29 : decode cJ6_bitCount_0f7a4 29 = .ok (.ldc_w 267, 3) := by decide +kernel
theorem dJ6_bitCount_0f7a4_32 : decode cJ6_bitCount_0f7a4 32 = .ok (.iand, 1) := by decide +kernel
theorem dJ6_bitCount_0f7a4_33 : decode cJ6_bitCount_0f7a4 33 = .ok (.istore_n 0, 1) := by decide +kernel
theorem dJ6_bitCount_0f7a4_34 : decode cJ6_bitCount_0f7a4 34 = .ok (.iload_n 0, 1) := by decide +kernel
theorem dJ6_bitCount_0f7a4_35 : decode cJ6_bitCount_0f7a4 35 = .ok (.iload_n 0, 1) := by decide +kernel
theorem dJ6_bitCount_0f7a4_36 : decode cJ6_bitCount_0f7a4 36 = .ok (.bipush 8, 2) := by decide +kernel
theorem dJ6_bitCount_0f7a4_38 : decode cJ6_bitCount_0f7a4 38 = .ok (.iushr, 1) := by decide +kernel
theorem dJ6_bitCount_0f7a4_39 : decode cJ6_bitCount_0f7a4 39 = .ok (.iadd, 1) := by decide +kernel
theorem dJ6_bitCount_0f7a4_40 : decode cJ6_bitCount_0f7a4 40 = .ok (.istore_n 0, 1) := by decide +kernel
theorem dJ6_bitCount_0f7a4_41 : decode cJ6_bitCount_0f7a4 41 = .ok (.iload_n 0, 1) := by decide +kernel
theorem dJ6_bitCount_0f7a4_42 : decode cJ6_bitCount_0f7a4 42 = .ok (.iload_n 0, 1) := by decide +kernel
theorem dJ6_bitCount_0f7a4_43 : decode cJ6_bitCount_0f7a4 43 = .ok (.bipush 16, 2) := by decide +kernel
theorem dJ6_bitCount_0f7a4_45 : decode cJ6_bitCount_0f7a4 45 = .ok (.iushr, 1) := by decide +kernel
theorem dJ6_bitCount_0f7a4_46 : decode cJ6_bitCount_0f7a4 46 = .ok (.iadd, 1) := by decide +kernel
theorem dJ6_bitCount_0f7a4_47 : decode cJ6_bitCount_0f7a4 47 = .ok (.istore_n 0, 1) := by decide +kernel
theorem dJ6_bitCount_0f7a4_48 : decode cJ6_bitCount_0f7a4 48 = .ok (.iload_n 0, 1) := by decide +kernel
theorem dJ6_bitCount_0f7a4_49 : decode cJ6_bitCount_0f7a4 49 = .ok (.bipush 63, 2) := by decide +kernel
theorem dJ6_bitCount_0f7a4_51 : decode cJ6_bitCount_0f7a4 51 = .ok (.iand, 1) := by decide +kernel
theorem dJ6_bitCount_0f7a4_52 : decode cJ6_bitCount_0f7a4 52 = .ok (.ireturn, 1) := by decide +kernel
theorem dJ9_abs_0f7a4_0 : decode cJ9_abs_0f7a4 0 = .ok (.iload_n 0, 1) := by decide +kernel
theorem dJ9_abs_0f7a4_1 : decode cJ9_abs_0f7a4 1 = .ok (.ifCond .ge 8, 3) := by decide +kernel
theorem dJ9_abs_0f7a4_4 : decode cJ9_abs_0f7a4 4 = .ok (.iload_n 0, 1) := by decide +kernel
theorem dJ9_abs_0f7a4_5 : decode cJ9_abs_0f7a4 5 = .ok (.ineg, 1) := by decide +kernel
theorem dJ9_abs_0f7a4_6 : decode cJ9_abs_0f7a4 6 = .ok (.goto 4, 3) := by decide +kernel
theorem dJ9_abs_0f7a4_9 : decode cJ9_abs_0f7a4 9 = .ok (.iload_n 0, 1) := by decide +kernel
theorem dJ9_abs_0f7a4_10 : decode cJ9_abs_0f7a4 10 = .ok (.ireturn, 1) := by decide +kernel
theorem dJ9_max_7cf53_0 : decode cJ9_max_7cf53 0 = .ok (.iload_n 0, 1) := by decide +kernel
theorem dJ9_max_7cf53_1 : decode cJ9_max_7cf53 1 = .ok (.iload_n 1, 1) := by decide +kernel
theorem dJ9_max_7cf53_2 : decode cJ9_max_7cf53 2 = .ok (.if_icmp .lt 7, 3) := by decide +kernel
theorem dJ9_max_7cf53_5 : decode cJ9_max_7cf53 5 = .ok (.iload_n 0, 1) := by decide +kernel
theorem dJ9_max_7cf53_6 : decode cJ9_max_7cf53 6 = .ok (.goto 4, 3) := by decide +kernel
theorem dJ9_max_7cf53_9 : decode cJ9_max_7cf53 9 = .ok (.iload_n 1, 1) := by decide +kernel
theorem dJ9_max_7cf53_10 : decode cJ9_max_7cf53 10 = .ok (.ireturn, 1) := by decide +kernel
theorem dJ9_min_7cf53_0 : decode cJ9_min_7cf53 0 = .ok (.iload_n 0, 1) := by decide +kernel
theorem dJ9_min_7cf53_1 : decode cJ9_min_7cf53 1 = .ok (.iload_n 1, 1) := by decide +kernel
theorem dJ9_min_7cf53_2 : decode cJ9_min_7cf53 2 = .ok (.if_icmp .gt 7, 3) := by decide +kernel
theorem dJ9_min_7cf53_5 : decode cJ9_min_7cf53 5 = .ok (.iload_n 0, 1) := by decide +kernel
theorem dJ9_min_7cf53_6 : decode cJ9_min_7cf53 6 = .ok (.goto 4, 3) := by decide +kernel
theorem dJ9_min_7cf53_9 : decode cJ9_min_7cf53 9 = .ok (.iload_n 1, 1) := by decide +kernel
theorem dJ9_min_7cf53_10 : decode cJ9_min_7cf53 10 = .ok (.ireturn, 1) := by decide +kernel
end
