/-! A THROW WHOSE OWN CONSTRUCTOR HANDS ON BY ANOTHER PLACE OF ITS CLASS FILE (NoSuchElementException's, of the pinned build: entry 13). This file began as rows of the exceptions' starting text. -/
def qn13 : ByteArray := ⟨#[0x2a, 0x2b, 0xb7, 0x00, 0x0d, 0xb1]⟩
theorem qn13_0 : decode qn13 0 = .ok (.aload_n 0, 1) := by decide +kernel
theorem qn13_1 : decode qn13 1 = .ok (.aload_n 1, 1) := by decide +kernel
theorem qn13_2 : decode qn13 2 = .ok (.invokespecial 13, 3) := by decide +kernel
theorem qn13_5 : decode qn13 5 = .ok (.return_, 1) := by decide +kernel
def qx_all (own : String) (ic : Nat) (X Y : String) (ix : Nat) (rx : ByteArray) (names : List String) : List Cond :=
  Bundle.throwableAtoms ++ (Bundle.throwableSAtoms ++ (Bundle.passSAtoms X Y ix rx ++ (Bundle.chainSAtoms Y names ++
  [.methodLink own ic (Bundle.initS X), .instantiable X 6, .castable X X, .selects X Bundle.tFill0 Bundle.tFill0, .selects X Bundle.tFill Bundle.tFill,
   .lays X Bundle.tN "cause" "Ljava/lang/Throwable;", .lays X Bundle.tN "stackTrace" Bundle.steD, .lays X Bundle.tN "suppressedExceptions" Bundle.listD, .lays X Bundle.tN "detailMessage" "Ljava/lang/String;",
   .isRef (.static Bundle.tN "UNASSIGNED_STACK" Bundle.steD), .isRef (.static Bundle.tN "SUPPRESSED_SENTINEL" Bundle.listD),
   .fieldLink Bundle.tN 198 Bundle.tN "backtrace" "Ljava/lang/Object;", .lays Bundle.tN Bundle.tN "backtrace" "Ljava/lang/Object;", .lays X Bundle.tN "backtrace" "Ljava/lang/Object;"])))
def vx_atX (own : String) (ic : Nat) (X Y : String) (ix : Nat) (rx : ByteArray) (names : List String) : List Cond := (qx_all own ic X Y ix rx names).filter vx_no
theorem qx_chain {args : Array Value} {s : State} {pl : Platform} (hpl : pl.magicAccessors = ({} : Platform).magicAccessors) {top : MethodId} (htop : s.methodNamed? (Bundle.initS Bundle.tN) = some top) {X Y : String} {ix : Nat} {rx : ByteArray} {names : List String}
    (x0 : decode rx 0 = .ok (.aload_n 0, 1)) (x1 : decode rx 1 = .ok (.aload_n 1, 1)) (x2 : decode rx 2 = .ok (.invokespecial ix, 3)) (x5 : decode rx 5 = .ok (.return_, 1)) (hX : Bundle.fit X = true) (hY : Bundle.fit Y = true) (hn : ∀ n ∈ names, Bundle.fit n = true)
    (h1 : ∀ c ∈ Bundle.passSAtoms X Y ix rx, c.before args s = true) (h2 : ∀ c ∈ Bundle.chainSAtoms Y names, c.before args s = true) :
    ∃ (P1 : PassC) (Ps : List PassC), Ps.length = names.length + 1 ∧ P1.LinksS pl s ∧ (∀ P, P ∈ Ps → P.LinksS pl s) ∧ s.methodNamed? (Bundle.initS X) = some P1.m ∧ P1.sup = firstOf top (Ps.map (·.toPassT)) ∧ PassesOn top (Ps.map (·.toPassT)) := by
  obtain ⟨P, L, hm, hs⟩ := PassC.ofS_atoms (args := args) (s := s) hpl (X := X) (Y := Y) (Bundle.fit_spec hX).1 (Bundle.fit_spec hY).2 x0 x1 x2 x5 h1
  obtain ⟨P2, Ps, hlen, L2, hL, hm2, hsup, hpass⟩ := Bundle.chainS (args := args) hpl htop names Y hY hn h2
  refine ⟨P, P2 :: Ps, by simp [hlen], L, fun Q hQ => ?_, hm, Option.some.inj (hs.symm.trans hm2), hsup, hpass⟩
  rcases List.mem_cons.mp hQ with rfl | hQ
  · exact L2
  · exact hL Q hQ
set_option maxHeartbeats 1000000 in
theorem qx_ctor {p : Program} {l : Launch} {e : Env} {R : Room} {s : State} {m₀ : MethodId} {args : Array Value} {below : List Frame} {meth : Method} {c : Code} {W : State} {locs : List Loc} {cells slots : Nat}
    (S : Stand p l e R s m₀ args below meth c W locs cells slots) (hexec : p.tables.exec = Jvm.exec) (htr : e.platform.stackTraces = false) {own cls Y : String} {ix : Nat} {rx : ByteArray} {names : List String} {ic : Nat}
    (x0 : decode rx 0 = .ok (.aload_n 0, 1)) (x1 : decode rx 1 = .ok (.aload_n 1, 1)) (x2 : decode rx 2 = .ok (.invokespecial ix, 3)) (x5 : decode rx 5 = .ok (.return_, 1))
    (hown : s.vm.findClass own = some m₀.cls) (hcls : Bundle.fit cls = true) (hY : Bundle.fit Y = true) (hnames : ∀ n ∈ names, Bundle.fit n = true) (h : ∀ a ∈ qx_all own ic cls Y ix rx names, a.before args s = true)
    (hlocs : ∀ x ∈ locs, ∀ cell, s.heap[x.base]? = some cell → cell.vm.isStatics = false)
    {a : Addr} {cX : ClassId} {kX : Class} (hfoundX : s.vm.findClass cls = some cX) (hkX : s.vm.classes[cX]? = some kX) (hcell : W.heap[a]? = some (freshCell cX kX)) (hnew : s.heap.size ≤ a) {msg : Value} (hmsg : msg.isRef = true)
    {g : JFrame} (hg : g.method = m₀) (hsize : g.locals.size = c.maxLocals) (hlocked : g.locked = none) (hentered : g.entered = []) {rest : List Value} (hstack : g.stack = msg :: .ref a :: .ref a :: rest)
    (hd6 : decode c.code g.pc = .ok (.invokespecial ic, 3)) (hd9 : decode c.code (g.pc + 3) = .ok (.athrow, 1)) (hout : ∀ x ∈ c.exceptionTable.toList, covers x (g.pc + 3) = false)
    (hRframes : names.length + 4 < R.frames) (hRlocals : 2 * g.monitorRoom + ((Value.ref a :: rest).map fun v => v.category).sum + (13 * (names.length + 2) + 42) ≤ R.locals) (hlocks : meth.locks = false) :
    ∃ U : State, Steps p.tables e below (W.setTop g) U ∧ U.status = .running ∧ Ended U below (.threw a) ∧ s.WarmedH U.vm ∧ s.sameButNew ({ U with vm := s.vm } : State) locs cells slots ∧ ∃ ce, U.heap[a]? = some ce ∧ s.vm.findClass cls = some ce.cls ∧ ce.vm = .none := by
  have howns : e.platform.frameOwnsMonitors = true := by rw [S.admits.platform]
  have hfin : e.platform.finalization = false := by rw [S.admits.platform]
  have hpl : e.platform.magicAccessors = ({} : Platform).magicAccessors := by rw [S.admits.platform]
  have wd : ∀ w, w ∈ qx_all own ic cls Y ix rx names → w.holds args s none s [] = true := fun w hw => h w hw
  obtain ⟨T, Z0, L, -, Q⟩ := ThrowableC.of_atoms (args := args) howns hfin hpl (fun x hx => h x (by simp [qx_all, hx]))
  obtain ⟨Z, M, LZ, LM, hnZ⟩ := Init0T.ofS_atoms (args := args) hpl L Q (fun x hx => h x (by simp [qx_all, hx]))
  obtain ⟨P1, Ps, hlen, L1, hL, hP1m, hlink1, hlink⟩ := qx_chain (args := args) hpl hnZ x0 x1 x2 x5 hcls hY hnames (fun x hx => h x (by simp [qx_all, hx])) (fun x hx => h x (by simp [qx_all, hx]))
  have hfound : s.vm.findClass cls = some P1.m.cls := findClass_of_methodNamed hP1m
  cases Option.some.inj (hfoundX.symm.trans hfound)
  obtain ⟨c1, kX2, hc1, hk, hord, -, -, hn6⟩ := Cond.instantiable_spec (wd (.instantiable cls 6) (by simp [qx_all]))
  cases Option.some.inj (hc1.symm.trans hfound)
  cases Option.some.inj (hkX.symm.trans hk)
  have hsel0 : selectMethod e.platform s.vm P1.m.cls T.fill0 = .method T.fill0 := by
    obtain ⟨c2, r2, m2, q1, q2, q3, q4, -⟩ := Cond.selects_spec (wd (.selects cls Bundle.tFill0 Bundle.tFill0) (by simp [qx_all]))
    cases Option.some.inj (q1.symm.trans hfound)
    cases Option.some.inj (q2.symm.trans (State.methodFound?_of_named Q.fill0 (by decide)))
    cases Option.some.inj (q3.symm.trans Q.fill0)
    rw [Launch.admits_selectMethod S.admits]; exact q4
  have hselF : selectMethod e.platform s.vm P1.m.cls T.fill = .method T.fill := by
    obtain ⟨c2, r2, m2, q1, q2, q3, q4, -⟩ := Cond.selects_spec (wd (.selects cls Bundle.tFill Bundle.tFill) (by simp [qx_all]))
    cases Option.some.inj (q1.symm.trans hfound)
    cases Option.some.inj (q2.symm.trans (State.methodFound?_of_named Q.fill (by decide)))
    cases Option.some.inj (q3.symm.trans Q.fill)
    rw [Launch.admits_selectMethod S.admits]; exact q4
  obtain ⟨cellS0, hcS0, hiss⟩ := Q.statics
  obtain ⟨u0, hu0⟩ := Cond.staticRefV Q.unassigned L.unassignedStatic L.statics hcS0 hiss (wd (.isRef (.static Bundle.tN "UNASSIGNED_STACK" Bundle.steD)) (by simp [qx_all]))
  obtain ⟨sen, hsen⟩ := Cond.staticRefV Q.sentinel L.sentinelStatic L.statics hcS0 hiss (wd (.isRef (.static Bundle.tN "SUPPRESSED_SENTINEL" Bundle.listD)) (by simp [qx_all]))
  obtain ⟨ci198, i198, fB, hk198, hg198, ha198, hsB, -, hnB, htB, hffB⟩ := Cond.ownField (t := .object "java/lang/Object") Q.found L.cls (by decide +kernel) (wd (.fieldLink Bundle.tN 198 Bundle.tN "backtrace" "Ljava/lang/Object;") (by simp [qx_all])) (wd (.lays Bundle.tN Bundle.tN "backtrace" "Ljava/lang/Object;") (by simp [qx_all])) e.platform hpl
  obtain ⟨cellS, hcS2, heS, -, hkeep⟩ := S.same.2.2.2.2.2 T.aS cellS0 hcS0
  have hcellS : W.heap[T.aS]? = some cellS := hcS2
  have hoff : ∀ i, (⟨T.aS, i⟩ : Loc) ∉ locs := fun i hmem => by
    have := hlocs _ hmem cellS0 hcS0
    rw [hiss] at this; cases this
  have hknownS : cellS.vm ≠ .unknown := by
    rw [heS]; intro hu
    rw [show cellS0.vm = .unknown from hu] at hiss
    cases hiss
  have hneS : T.aS ≠ a := Nat.ne_of_lt (Nat.lt_of_lt_of_le (Array.getElem?_eq_some_iff.mp hcS0).1 hnew)
  obtain ⟨iM, hffM⟩ := Q.msg
  obtain ⟨tyC, dC, hdC, hdnC⟩ := Cond.laysAt hfound hk Q.cause (wd (.lays cls Bundle.tN "cause" "Ljava/lang/Throwable;") (by simp [qx_all]))
  obtain ⟨tyS, dS, hdS, hdnS⟩ := Cond.laysAt hfound hk Q.stack (wd (.lays cls Bundle.tN "stackTrace" Bundle.steD) (by simp [qx_all]))
  obtain ⟨tyP, dP, hdP, hdnP⟩ := Cond.laysAt hfound hk Q.supp (wd (.lays cls Bundle.tN "suppressedExceptions" Bundle.listD) (by simp [qx_all]))
  obtain ⟨tyM, dM, hdM, hdnM⟩ := Cond.laysAt hfound hk hffM (wd (.lays cls Bundle.tN "detailMessage" "Ljava/lang/String;") (by simp [qx_all]))
  obtain ⟨tyB, dB, hdB, hdnB⟩ := Cond.laysAt hfound hk hffB (wd (.lays cls Bundle.tN "backtrace" "Ljava/lang/Object;") (by simp [qx_all]))
  have bC := Cond.laysApart hdB hdC hdnB hdnC (by rw [hnB, Q.causeName]; decide)
  have bS := Cond.laysApart hdB hdS hdnB hdnS (by rw [hnB, Q.stackName]; decide)
  have bP := Cond.laysApart hdB hdP hdnB hdnP (by rw [hnB, Q.suppName]; decide)
  have hskip : SkipFacts T e.platform s (fun u => u) u0 ((preparedCellV T.toThrowableT (freshCell P1.m.cls kX) a u0 sen).withEntry W.cur) :=
    ⟨{ ci198 := ci198, i198 := i198, fBack := fB }, ⟨hk198, hg198, ha198, hsB⟩, by
      have := fresh_default (c := P1.m.cls) tyB
      rw [htB] at this
      simpa [preparedCellV, Cell.setSlot, Cell.withEntry, Array.getElem?_setIfInBounds, bC, bS, bP, bC.symm, bS.symm, bP.symm, defaultValue] using this, fun _ _ => rfl⟩
  obtain ⟨tm, methC, cdC, kC, vm₁, hnC, -, -, -, -, -, -, -, hW₁, st1⟩ := Steps.initColdS (tb := p.tables) (e := e) (below := below) (s := s) (U := W) S.here hexec S.warmed hpl hown (t := Bundle.initS cls) rfl rfl (Bundle.fit_spec hcls).2
    (wd (.methodLink own ic (Bundle.initS cls)) (by simp [qx_all])) (h (.instanceMethod (Bundle.initS cls)) (by simp [qx_all, Bundle.passSAtoms])) (bytes := rx) (maxL := 2) (h (.code (Bundle.initS cls) rx 2 none) (by simp [qx_all, Bundle.passSAtoms]))
    (f := g) hg (a := a) (msg := msg) (rest := .ref a :: rest) hstack hd6
  cases Option.some.inj (hnC.symm.trans hP1m)
  have S1 := S.noted hW₁
  obtain ⟨vm₂, S2, st2⟩ := S1.ctorMessageOffV hexec (g := { g with stack := .ref a :: rest }) hg hsize T L Z LZ M LM (P1 :: Ps)
    (fun P hP => by rcases List.mem_cons.mp hP with rfl | hP; exact L1; exact hL P hP) ⟨hlink1, hlink⟩ (u0 := u0) (sen := sen) (self := a) hmsg (cell := freshCell P1.m.cls kX) (cellS := cellS)
    hcell (fun _ => by simp) (by simp) rfl rfl hsel0 hselF hcellS hneS hknownS (by rw [hkeep _ (hoff _)]; exact hu0) (by rw [hkeep _ (hoff _)]; exact hsen)
    (Takes.of_laid hk hord tyC (by rw [Q.causeType]; rfl)) (Takes.of_laid hk hord tyS (by rw [Q.stackType]; exact fits_refV_array _ u0)) (Takes.of_laid hk hord tyP (by rw [Q.suppType]; exact fits_refV_object _ sen))
    (Takes.of_laid hk hord tyM (by rw [Q.msgType]; exact fits_refV_object _ ⟨msg, hmsg⟩)) Q.objLocals hskip htr [] hd6
    (by simp only [List.length_cons, hlen]; omega) (by simp only [List.length_cons, hlen]; exact hRlocals)
  obtain ⟨hwalk, hrun, hended, hWU, hsame⟩ := S2.athrowLeaves hexec (g := { g with stack := .ref a :: rest, pc := g.pc + 3 }) hg hlocked hentered hout (a := a) (rest := rest) rfl hd9
  have hlt : a < ((W.setVm vm₁).setVm vm₂).heap.size := (Array.getElem?_eq_some_iff.mp hcell).1
  have hU := heapAt_setCell_self (s := (W.setVm vm₁).setVm vm₂) (plainBareV T.toThrowableT (freshCell P1.m.cls kX) a u0 sen msg) hlt
  refine ⟨_, st1 _ (fun acts => ?_), hrun, hended, hWU, hsame.weaken (fun y hy hlt2 => ?_) (Nat.le_refl _) (Nat.le_refl _), _, hU, hfound, rfl⟩
  · rw [doInvoke_state]
    exact st2 _ hwalk
  · rcases List.mem_append.mp hy with h1 | h1
    · exact h1
    · exfalso
      have hb : y.base = a := by
        simp only [List.mem_cons, List.not_mem_nil, or_false] at h1
        rcases h1 with rfl | rfl | rfl | rfl | rfl <;> rfl
      rw [hb] at hlt2
      exact Nat.not_lt.mpr hnew hlt2
section
variable {p : Program} {l : Launch} {e : Env} {R : Room} {s : State} {m : MethodId} {args : Array Value} {below : List Frame} {meth : Method} {c : Code} {H : Heap} {locs : List Loc} {cells slots : Nat} {Q : State → Prop}
variable {mc ms : Nat} {free : Addr → Prop} {ls : Array Slot} {rest : List Value}
variable {Qc : Array Value → State → Outcome → State → Prop} {XC : String → State → State → Prop}
/-- 'throw new E("text")': new; dup; ldc; invokespecial; athrow -/
theorem vx_throwX {cc : ByteArray} {pc : Nat} (hexec : p.tables.exec = Jvm.exec) (hb : c.code = cc) (hl : l.stackTraces = false) {own cls text : String} {Y : String} {ix : Nat} {rx : ByteArray} {names : List String} {ik is ic mc ms sa : Nat} {A : Nat → Prop}
    (hown : s.vm.findClass own = some m.cls) (x0 : decode rx 0 = .ok (.aload_n 0, 1)) (x1 : decode rx 1 = .ok (.aload_n 1, 1)) (x2 : decode rx 2 = .ok (.invokespecial ix, 3)) (x5 : decode rx 5 = .ok (.return_, 1)) (hcls : Bundle.fit cls = true) (hY : Bundle.fit Y = true) (hnames : ∀ n ∈ names, Bundle.fit n = true)
    (hk : (Cond.classLink own ik cls).before args s = true) (hini : (Cond.initialized cls).before args s = true) (hstr : vk_R own is text sa s) (hat : ∀ w ∈ vx_atX own ic cls Y ix rx names, w.before args s = true)
    (hgood : ∀ w ∈ Cond.classLink own ik cls :: Cond.initialized cls :: vx_atX own ic cls Y ix rx names, vx_ot w = true)
    (hU : vx_Zq Bundle.tN "UNASSIGNED_STACK" Bundle.steD A s s.heap) (hN : vx_Zq Bundle.tN "SUPPRESSED_SENTINEL" Bundle.listD A s s.heap) (hS : va_S A s.heap H locs) (hsize : ls.size = c.maxLocals)
    (d0 : decode cc pc = .ok (.new ik, 3)) (d3 : decode cc (pc + 3) = .ok (.dup, 1)) (d4 : decode cc (pc + 4) = .ok (.ldc is, 2)) (d6 : decode cc (pc + 6) = .ok (.invokespecial ic, 3)) (d9 : decode cc (pc + 9) = .ok (.athrow, 1))
    (hout : ∀ x ∈ c.exceptionTable.toList, covers x (pc + 9) = false)
    (hRframes : names.length + 4 < R.frames) (hRlocals : (rest.map fun v => v.category).sum + (13 * (names.length + 2) + 43) ≤ R.locals) (hRcells : cells + 1 ≤ R.cells) (hRslots : slots + 6 ≤ R.slots) (hlocks : meth.locks = false)
    (hx : ∀ t : State, s.vm.Alike t.vm → H.size ≤ t.heap.size → (∀ q : Nat, q < H.size → t.heap[q]? = H[q]?) → XC cls s t)
    (hf : ∀ z ∈ locs, free z.base) (hc : cells + 1 ≤ mc) (hs : slots + 6 ≤ ms) :
    W p l e R s m args below meth c H locs cells slots (vx_MQ below Qc XC args s mc ms free) (F0 m pc ls rest) := by
  intro T hT X
  have htr : e.platform.stackTraces = false := (show e.platform.stackTraces = l.stackTraces by rw [X.admits.platform]).trans hl
  have Ys := vx_rebase X (R' := { frames := R.frames, locals := R.locals, cells := 1, slots := 6 }) (Nat.le_refl _) (Nat.le_refl _) hRcells hRslots
  obtain ⟨s', hA⟩ : ∃ z, z = (T.setVm s.vm).setFrames (.invoking m args :: below) := ⟨_, rfl⟩
  rw [← hA] at Ys
  have hvm : s'.vm = s.vm := by rw [hA]; rfl
  have hhp : s'.heap = H := by rw [hA]; exact hT
  have hW0 : s.WarmedH s'.vm := by rw [hvm]; exact State.WarmedH.refl s
  have hat' : ∀ w ∈ vx_atX own ic cls Y ix rx names, w.before args s' = true := fun w hw => vx_ot_at hW0 hvm.symm (hgood w (List.mem_cons_of_mem _ (List.mem_cons_of_mem _ hw))) (hat w hw)
  have hk' : (Cond.classLink own ik cls).before args s' = true := vx_ot_at hW0 hvm.symm (hgood _ List.mem_cons_self) hk
  have hini' : (Cond.initialized cls).before args s' = true := vx_ot_at hW0 hvm.symm (hgood _ (List.mem_cons_of_mem _ List.mem_cons_self)) hini
  have hU' : vx_Zq Bundle.tN "UNASSIGNED_STACK" Bundle.steD A s' s'.heap := by rw [hhp]; exact vx_Zq.moved hW0.alike (hU.kept hS.2.1)
  have hN' : vx_Zq Bundle.tN "SUPPRESSED_SENTINEL" Bundle.listD A s' s'.heap := by rw [hhp]; exact vx_Zq.moved hW0.alike (hN.kept hS.2.1)
  have h : ∀ w ∈ qx_all own ic cls Y ix rx names, w.before args s' = true := vx_own hat' (vx_isRefq hU'.1) (vx_isRefq hN'.1) hU'.2.word hN'.2.word
  have hown' : s'.vm.findClass own = some m.cls := by rw [hvm]; exact hown
  have hins : (Cond.instantiable cls 6).before args s' = true := h _ (by simp [qx_all])
  obtain ⟨vm₁, cX, kX, hfX, hkX, -, -, X₁, st1⟩ := Ys.newCold hexec (own := own) (C := cls) (index := ik) (n := 6) hown' hk' hins hini'
    (g := F0 m pc ls rest) rfl (by rw [hb]; exact d0) (Nat.le_refl _) (Nat.le_refl _)
  generalize hT1 : (T.setVm vm₁).pushCell { cls := cX, slots := kX.instanceTypes.map defaultValue, vm := .none } = T1 at X₁ st1
  have hcat : (Value.ref T.heap.size).category = 1 := rfl
  have hcellA : T1.heap[T.heap.size]? = some (freshCell cX kX) := by rw [← hT1]; exact State.heap_pushCell_size _ _
  have d3' : decode c.code (pc + 3) = .ok (.dup, 1) := by rw [hb]; exact d3
  have d4' : decode c.code (pc + 4) = .ok (.ldc is, 2) := by rw [hb]; exact d4
  have hstr' : vk_R own is text sa s' := vk_R.warm hW0 hstr
  obtain ⟨U, hsteps, hrun, hend, hW, hsame, ce, hce, hOc, hOv⟩ := qx_ctor X₁ hexec htr (own := own) (cls := cls) (Y := Y) (ix := ix) (rx := rx) (names := names) (ic := ic) x0 x1 x2 x5 hown' hcls hY hnames h (fun x hx => nomatch hx) hfX hkX hcellA (by rw [hhp, hT]; exact Nat.le_refl _) (msg := .ref sa) rfl
    (g := { method := m, pc := pc + 6, locals := ls, stack := .ref sa :: .ref T.heap.size :: .ref T.heap.size :: rest, locked := none }) rfl hsize rfl rfl (rest := rest) rfl
    (by rw [hb]; exact d6) (by rw [hb]; exact d9) hout hRframes (by simp only [List.map_cons, List.sum_cons, hcat]; omega) hlocks
  obtain ⟨f1, f2⟩ := vx_frame hsame
  rw [hhp] at f1 f2
  have hWs : s.WarmedH U.vm := State.WarmedH.trans hW0 hW
  have hcl : s.vm.findClass cls = some ce.cls := by
    have h9 := hOc
    rw [hvm] at h9
    exact h9
  have hall : s.sameButNew ({ U with vm := s.vm } : State) locs mc ms := by
    subst hA
    obtain ⟨e1, e2⟩ := hsame
    rw [State.setFrames_setFrames] at e1
    have h2 : (T.setVm s.vm).sameButNew ({ U with vm := s.vm } : State) [] (0 + 1) (0 + 6) := ⟨e1, e2⟩
    have h3 := X.same.trans h2
    rw [List.append_nil] at h3
    exact h3.mono hc hs
  refine ⟨U, ?_, .threw T.heap.size, hrun, hend, Or.inr ⟨T.heap.size, rfl, cls, ce, locs, hx U hWs.alike f1 (fun q hq => f2 q hq (fun z hz => nomatch hz)), hce, hOv, hcl, hWs, hall, hf⟩⟩
  refine st1 _ ?_
  show Steps p.tables e below (T1.setTop { method := m, pc := pc + 3, locals := ls, stack := .ref T.heap.size :: rest, locked := none }) _
  jvm_step X₁.here [X₁.here.top, hexec, d3', Value.category]
  exact X₁.ldcString hexec (own := own) (text := text) (index := is) (a := sa) hown' hstr'.1 hstr'.2
    (g := { method := m, pc := pc + 4, locals := ls, stack := .ref T.heap.size :: .ref T.heap.size :: rest, locked := none }) rfl d4' _ hsteps
end
section
variable {p : Program} {l : Launch} {e : Env} {R : Room} {s : State} {m : MethodId} {args : Array Value} {below : List Frame} {meth : Method} {c : Code} {H : Heap} {locs : List Loc} {cells slots : Nat} {Q : State → Prop} {cc : ByteArray} {pc : Nat} {ls : Array Slot} {rest : List Value} {D : va_G} {ca : Nat → ClassId} {ad : Nat → Nat} {S S1 : QS} {own : String} {index : Nat}
theorem x_throwX {β : Type} {Qc : Array Value → State → Outcome → State → Prop} {o : (String × QS) ⊕ β} (hx : p.tables.exec = Jvm.exec) (hb : c.code = cc) (hl : l.stackTraces = false) (hml : c.maxLocals = ls.size) (hown : s.vm.findClass RX5 = some m.cls) (hE : EX (Aq ad s.heap.size) s s.heap) (hP : va_P D vwCl (wd ca ad S) H) (hS : va_S (Aq ad s.heap.size) s.heap H locs) {cls text : String} {ik is ic mc ms : Nat}
    (hcls : Bundle.fit cls = true) (hk : (Cond.classLink RX5 ik cls).before args s = true) (hini : (Cond.initialized cls).before args s = true) (hstr : (is, text) ∈ qstr)
    (hg : ∀ w ∈ (vx_atX RX5 ic cls "java/lang/RuntimeException" 13 qn13 ["java/lang/Exception"]).filter goodWord, w.before args s = true) (hng : ∀ w ∈ (vx_atX RX5 ic cls "java/lang/RuntimeException" 13 qn13 ["java/lang/Exception"]).filter (fun w => !goodWord w), w ∈ qcas)
    (hot : ∀ w ∈ Cond.classLink RX5 ik cls :: Cond.initialized cls :: vx_atX RX5 ic cls "java/lang/RuntimeException" 13 qn13 ["java/lang/Exception"], vx_ot w = true)
    (d0 : decode cc pc = .ok (.new ik, 3)) (d3 : decode cc (pc + 3) = .ok (.dup, 1)) (d4 : decode cc (pc + 4) = .ok (.ldc is, 2)) (d6 : decode cc (pc + 6) = .ok (.invokespecial ic, 3)) (d9 : decode cc (pc + 9) = .ok (.athrow, 1))
    (hT : ∀ x ∈ c.exceptionTable.toList, False) (hRf : 5 < R.frames) (hRl : (rest.map fun v => v.category).sum + 82 ≤ R.locals) (hRc : cells + 1 ≤ R.cells) (hRs : slots + 6 ≤ R.slots) (hlocks : meth.locks = false)
    (hc : cells + 1 ≤ mc) (hs : slots + 6 ≤ ms) (ho : o = .inl (cls, S)) :
    W p l e R s m args below meth c H locs cells slots (vx_MQ below Qc (XX D ca ad (Aq ad s.heap.size) o) args s mc ms (Aq ad s.heap.size)) (F0 m pc ls rest) := by
  obtain ⟨sa, hstr⟩ := hE.2.2.1 _ hstr
  refine vx_throwX hx hb hl (Y := "java/lang/RuntimeException") (ix := 13) (rx := qn13) (names := ["java/lang/Exception"]) hown qn13_0 qn13_1 qn13_2 qn13_5 hcls (by decide +kernel) (by decide +kernel) hk hini hstr (vx_hat hg hng (fun w hw => va_Nw.use (w := w) (by
    simp only [qcas, List.mem_cons, List.not_mem_nil, or_false] at hw
    rcases hw with rfl | rfl | rfl | rfl | rfl | rfl | rfl <;> rfl) (hE.2.2.2 w hw))) hot hE.1 hE.2.1 hS hml.symm d0 d3 d4 d6 d9 (fun x hx => (hT x hx).elim) hRf hRl hRc hRs hlocks (fun t hvm hsz hq => ?_) hS.2.2 hc hs
  refine ⟨(cls, S), ho, ⟨rfl, wd_kept hP hq⟩, Nat.le_trans hS.1 hsz, fun q h1 h2 => ?_⟩
  rw [hq q (Nat.lt_of_lt_of_le h1 hS.1)]
  exact hS.2.1 q h1 h2
end
theorem qh_5 : ∀ w ∈ (vx_atX RX5 153 "java/util/NoSuchElementException" "java/lang/RuntimeException" 13 qn13 ["java/lang/Exception"]).filter (fun w => !goodWord w), w ∈ qcas := by decide +kernel
theorem qo_5 : ∀ w ∈ Cond.classLink RX5 149 "java/util/NoSuchElementException" :: Cond.initialized "java/util/NoSuchElementException" :: vx_atX RX5 153 "java/util/NoSuchElementException" "java/lang/RuntimeException" 13 qn13 ["java/lang/Exception"], vx_ot w = true := by decide +kernel
def wzX5_testWay : List Cond := .code yX5_testWay cX5_testWay 1 none :: ([.classLink RX5 149 "java/util/NoSuchElementException", .initialized "java/util/NoSuchElementException", .fieldLink RX5 31 "CrashDesk" "meeting" "LCrashDesk$Meeting;", .fieldLink RX5 121 "CrashDesk$Meeting" "wayCount" "J"] ++ wsX50 ++ wsX10 ++ (vx_atX RX5 153 "java/util/NoSuchElementException" "java/lang/RuntimeException" 13 qn13 ["java/lang/Exception"]).filter goodWord)
def wzX5_span : List Cond := .code yX5_span cX5_span 6 (some .int) :: ((wsX5_span_r1 ++ (wsX5_span_r2 ++ (wsX5_span_r3 ++ (wsX5_span_r4 ++ (wsX5_span_r5 ++ (wsX5_span_r6 ++ (wsX5_span_r7 ++ (wsX5_span_r8 ++ wsX5_span_r9)))))))) ++ wsX50 ++ wsX10 ++ wsX00 ++ wsX40 ++ wsX20 ++ wsX30 ++ (vx_atS RX5 168 "java/lang/IndexOutOfBoundsException" ["java/lang/RuntimeException", "java/lang/Exception"]).filter goodWord ++ (vx_atX RX5 153 "java/util/NoSuchElementException" "java/lang/RuntimeException" 13 qn13 ["java/lang/Exception"]).filter goodWord)
def wzX5_avoided : List Cond := .code yX5_avoided cX5_avoided 9 (some .int) :: ((wsX5_avoided_r1 ++ (wsX5_avoided_r2 ++ (wsX5_avoided_r3 ++ (wsX5_avoided_r4 ++ (wsX5_avoided_r5 ++ (wsX5_avoided_r6 ++ (wsX5_avoided_r7 ++ wsX5_avoided_r8))))))) ++ wsX00 ++ wsX50 ++ wsX10 ++ wsX40 ++ wsX20 ++ wsX30 ++ (vx_atS RX5 168 "java/lang/IndexOutOfBoundsException" ["java/lang/RuntimeException", "java/lang/Exception"]).filter goodWord ++ (vx_atS RX5 175 "java/lang/IllegalArgumentException" ["java/lang/RuntimeException", "java/lang/Exception"]).filter goodWord ++ (vx_atX RX5 153 "java/util/NoSuchElementException" "java/lang/RuntimeException" 13 qn13 ["java/lang/Exception"]).filter goodWord)
def wzX5_look : List Cond := .code yX5_look cX5_look 4 (some .int) :: ([.classLink RX5 149 "java/util/NoSuchElementException", .initialized "java/util/NoSuchElementException", .fieldLink RX5 75 "CrashDesk$Skid" "car" "I", .fieldLink RX5 78 "CrashDesk$Skid" "behind" "Z", .fieldLink RX5 81 "CrashDesk$Skid" "least" "I", .fieldLink RX5 84 "CrashDesk$Skid" "greatest" "I", .fieldLink RX5 87 "CrashDesk$Skid" "counts" "Z", .methodLink RX5 90 yX5_skidOf, .instanceMethod yX5_skidOf, .selects RX5 yX5_skidOf yX5_skidOf, .initialized RX5, .code yX5_skidOf cX5_skidOf 2 (some (.object "CrashDesk$Skid")), .classLink RX5 164 "java/lang/IndexOutOfBoundsException", .initialized "java/lang/IndexOutOfBoundsException", .fieldLink RX5 21 "CrashDesk" "skidCount" "I", .fieldLink RX5 11 "CrashDesk" "skids" "[LCrashDesk$Skid;"] ++ wsX20 ++ wsX50 ++ (vx_atX RX5 153 "java/util/NoSuchElementException" "java/lang/RuntimeException" 13 qn13 ["java/lang/Exception"]).filter goodWord ++ (vx_atS RX5 168 "java/lang/IndexOutOfBoundsException" ["java/lang/RuntimeException", "java/lang/Exception"]).filter goodWord)
def wzL_span : List Cond := .codeWith yL_span cL_span 7 (some .int) [(0, 14, 17, 13), (0, 14, 21, 39)] :: ((wsL_span_r1 ++ (wsL_span_r2 ++ (wsL_span_r3 ++ (wsL_span_r4 ++ (wsL_span_r5 ++ (wsL_span_r6 ++ (wsL_span_r7 ++ (wsL_span_r8 ++ wsL_span_r9)))))))) ++ wsX50 ++ wsX10 ++ wsX00 ++ wsX40 ++ wsX20 ++ wsX30 ++ (vx_atS RX5 168 "java/lang/IndexOutOfBoundsException" ["java/lang/RuntimeException", "java/lang/Exception"]).filter goodWord ++ (vx_atX RX5 153 "java/util/NoSuchElementException" "java/lang/RuntimeException" 13 qn13 ["java/lang/Exception"]).filter goodWord)
def wzL_avoided : List Cond := .codeWith yL_avoided cL_avoided 6 (some .int) [(0, 12, 15, 13), (0, 12, 19, 15), (0, 12, 23, 39)] :: ((wsL_avoided_r1 ++ (wsL_avoided_r2 ++ (wsL_avoided_r3 ++ (wsL_avoided_r4 ++ (wsL_avoided_r5 ++ (wsL_avoided_r6 ++ (wsL_avoided_r7 ++ (wsL_avoided_r8 ++ wsL_avoided_r9)))))))) ++ wsX00 ++ wsX50 ++ wsX10 ++ wsX40 ++ wsX20 ++ wsX30 ++ (vx_atS RX5 168 "java/lang/IndexOutOfBoundsException" ["java/lang/RuntimeException", "java/lang/Exception"]).filter goodWord ++ (vx_atS RX5 175 "java/lang/IllegalArgumentException" ["java/lang/RuntimeException", "java/lang/Exception"]).filter goodWord ++ (vx_atX RX5 153 "java/util/NoSuchElementException" "java/lang/RuntimeException" 13 qn13 ["java/lang/Exception"]).filter goodWord)
def wzL_look : List Cond := .codeWith yL_look cL_look 5 (some .int) [(0, 10, 13, 13), (0, 10, 17, 39)] :: ([.classLink RL 13 "java/lang/IndexOutOfBoundsException", .classLink RL 39 "java/util/NoSuchElementException", .methodLink RL 45 yX5_look, .instanceMethod yX5_look, .selects RX5 yX5_look yX5_look, .initialized RX5, .code yX5_look cX5_look 4 (some .int), .classLink RX5 149 "java/util/NoSuchElementException", .initialized "java/util/NoSuchElementException", .fieldLink RX5 75 "CrashDesk$Skid" "car" "I", .fieldLink RX5 78 "CrashDesk$Skid" "behind" "Z", .fieldLink RX5 81 "CrashDesk$Skid" "least" "I", .fieldLink RX5 84 "CrashDesk$Skid" "greatest" "I", .fieldLink RX5 87 "CrashDesk$Skid" "counts" "Z", .methodLink RX5 90 yX5_skidOf, .instanceMethod yX5_skidOf, .selects RX5 yX5_skidOf yX5_skidOf, .code yX5_skidOf cX5_skidOf 2 (some (.object "CrashDesk$Skid")), .classLink RX5 164 "java/lang/IndexOutOfBoundsException", .initialized "java/lang/IndexOutOfBoundsException", .fieldLink RX5 21 "CrashDesk" "skidCount" "I", .fieldLink RX5 11 "CrashDesk" "skids" "[LCrashDesk$Skid;"] ++ wsX20 ++ wsX50 ++ (vx_atX RX5 153 "java/util/NoSuchElementException" "java/lang/RuntimeException" 13 qn13 ["java/lang/Exception"]).filter goodWord ++ (vx_atS RX5 168 "java/lang/IndexOutOfBoundsException" ["java/lang/RuntimeException", "java/lang/Exception"]).filter goodWord)
def wzL_law : List Cond := wsL_law0 ++ (vx_atS RX5 168 "java/lang/IndexOutOfBoundsException" ["java/lang/RuntimeException", "java/lang/Exception"]).filter goodWord ++ (vx_atS RX5 175 "java/lang/IllegalArgumentException" ["java/lang/RuntimeException", "java/lang/Exception"]).filter goodWord ++ (vx_atS RX5 72 "java/lang/UnsupportedOperationException" ["java/lang/RuntimeException", "java/lang/Exception"]).filter goodWord ++ (vx_atX RX5 153 "java/util/NoSuchElementException" "java/lang/RuntimeException" 13 qn13 ["java/lang/Exception"]).filter goodWord
