/-! WHAT A THROW NEEDS: the two statics of Throwable, the texts, and the words that only the tables tell -/
def qstr : List (Nat × String) := [(166, "no such car"), (173, "no such number"), (176, "no such span"), (70, "no more skids"), (186, "no such skid"), (169, "no such speed"), (110, "no more tales"), (178, "no way"), (151, "nothing such to look at")]
abbrev qnam : List String := ["java/lang/RuntimeException", "java/lang/Exception"]
def qcas : List Cond := [.declares (Bundle.initS "java/lang/RuntimeException"), .declares (Bundle.initS "java/lang/Exception"), .declares (Bundle.initS Bundle.tN), .castable "java/lang/IndexOutOfBoundsException" "java/lang/IndexOutOfBoundsException", .castable "java/lang/IllegalArgumentException" "java/lang/IllegalArgumentException", .castable "java/lang/UnsupportedOperationException" "java/lang/UnsupportedOperationException", .castable "java/util/NoSuchElementException" "java/util/NoSuchElementException"]
def EX (A : Nat → Prop) (U : State) (H : Heap) : Prop := vx_Zq Bundle.tN "UNASSIGNED_STACK" Bundle.steD A U H ∧ vx_Zq Bundle.tN "SUPPRESSED_SENTINEL" Bundle.listD A U H ∧ (∀ q ∈ qstr, ∃ sa, vk_R RX5 q.1 q.2 sa U) ∧ ∀ w ∈ qcas, va_Nw w U
theorem EX.warm {A : Nat → Prop} {s U : State} {H : Heap} (hW : s.WarmedH U.vm) (h : EX A s H) : EX A U H := by
  refine ⟨vx_Zq.moved hW.alike h.1, vx_Zq.moved hW.alike h.2.1, fun q hq => ?_, fun w hw => ?_⟩
  · obtain ⟨sa, h1⟩ := h.2.2.1 q hq
    exact ⟨sa, vk_R.warm hW h1⟩
  · have h1 := h.2.2.2 w hw
    simp only [qcas, List.mem_cons, List.not_mem_nil, or_false] at hw
    rcases hw with rfl | rfl | rfl | rfl | rfl | rfl | rfl
    · exact va_Nw.warmD hW h1
    · exact va_Nw.warmD hW h1
    · exact va_Nw.warmD hW h1
    · exact va_Nw.warmC hW h1
    · exact va_Nw.warmC hW h1
    · exact va_Nw.warmC hW h1
    · exact va_Nw.warmC hW h1
theorem EX.call {A : Nat → Prop} {U : State} {H : Heap} {g : JFrame} {mk : MethodId} {a : Array Value} (h : EX A U H) : EX A (U.calling g mk a) H := by
  refine ⟨vx_Zq.moved (u := U) (U := U.calling g mk a) (Vm.Alike.refl U.vm) h.1, vx_Zq.moved (u := U) (U := U.calling g mk a) (Vm.Alike.refl U.vm) h.2.1, fun q hq => ?_, fun w hw => ?_⟩
  · obtain ⟨sa, h1⟩ := h.2.2.1 q hq
    exact ⟨sa, vk_R.same (u := U) (U := U.calling g mk a) rfl h1⟩
  · have h1 := h.2.2.2 w hw
    simp only [qcas, List.mem_cons, List.not_mem_nil, or_false] at hw
    rcases hw with rfl | rfl | rfl | rfl | rfl | rfl | rfl
    all_goals exact va_Nw.same (u := U) (U := U.calling g mk a) rfl rfl h1
theorem EX.to {A B : Nat → Prop} {s : State} {H H1 : Heap} (h : EX A s H) (hq : ∀ a : Nat, a < H.size → ¬ A a → H1[a]? = H[a]?) (hAB : ∀ q, B q → A q) : EX B s H1 := ⟨(h.1.kept hq).narrow hAB, (h.2.1.kept hq).narrow hAB, h.2.2.1, h.2.2.2⟩
theorem qh_1 : ∀ w ∈ (vx_atS RX5 168 "java/lang/IndexOutOfBoundsException" qnam).filter (fun w => !goodWord w), w ∈ qcas := by decide +kernel
theorem qh_2 : ∀ w ∈ (vx_atS RX5 175 "java/lang/IllegalArgumentException" qnam).filter (fun w => !goodWord w), w ∈ qcas := by decide +kernel
theorem qh_3 : ∀ w ∈ (vx_atS RX5 72 "java/lang/UnsupportedOperationException" qnam).filter (fun w => !goodWord w), w ∈ qcas := by decide +kernel
theorem qh_4 : ∀ w ∈ (vx_atS RX5 153 "java/util/NoSuchElementException" qnam).filter (fun w => !goodWord w), w ∈ qcas := by decide +kernel
theorem qo_1 : ∀ w ∈ Cond.classLink RX5 164 "java/lang/IndexOutOfBoundsException" :: Cond.initialized "java/lang/IndexOutOfBoundsException" :: vx_atS RX5 168 "java/lang/IndexOutOfBoundsException" qnam, vx_ot w = true := by decide +kernel
theorem qo_2 : ∀ w ∈ Cond.classLink RX5 171 "java/lang/IllegalArgumentException" :: Cond.initialized "java/lang/IllegalArgumentException" :: vx_atS RX5 175 "java/lang/IllegalArgumentException" qnam, vx_ot w = true := by decide +kernel
theorem qo_3 : ∀ w ∈ Cond.classLink RX5 68 "java/lang/UnsupportedOperationException" :: Cond.initialized "java/lang/UnsupportedOperationException" :: vx_atS RX5 72 "java/lang/UnsupportedOperationException" qnam, vx_ot w = true := by decide +kernel
theorem qo_4 : ∀ w ∈ Cond.classLink RX5 149 "java/util/NoSuchElementException" :: Cond.initialized "java/util/NoSuchElementException" :: vx_atS RX5 153 "java/util/NoSuchElementException" qnam, vx_ot w = true := by decide +kernel
def PreX (D : va_G) (ca : Nat → ClassId) (ad : Nat → Nat) (S : QS) (sz : Nat) (U : State) : Prop := Pre D ca ad S sz U ∧ EX (Aq ad sz) U U.heap
theorem PreX.blind {D : va_G} {ca : Nat → ClassId} {ad : Nat → Nat} {S : QS} {sz : Nat} {As : List Value} : FrameBlind (va_Pc As (PreX D ca ad S sz)) := fun _ _ _ _ q => ⟨q.1, ⟨q.2.1.1, q.2.1.2.1, q.2.1.2.2.call⟩, EX.call q.2.2⟩
/-- how a method's throw leaves things -/
def XX {β : Type} (D : va_G) (ca : Nat → ClassId) (ad : Nat → Nat) (A : Nat → Prop) (o : (String × QS) ⊕ β) : String → State → State → Prop := vx_X (fun u : String × QS => o = .inl u) (fun E u t => E = u.1 ∧ Bt D ca ad u.2 t) A
abbrev Xv (l : Launch) (D : va_G) (ca : Nat → ClassId) (ad : Nat → Nat) (y : MethodName) (ws : List Cond) (rm : Room) (As : List Value) (S : QS) (o : (String × QS) ⊕ QS) (mc ms : Nat) : Prop := ∀ sz, vx_Met l y ws rm (va_Pc As (PreX D ca ad S sz)) (va_Qv (fun u : QS => o = .inr u) (Bt D ca ad) (Aq ad sz)) (XX D ca ad (Aq ad sz) o) mc ms (Aq ad sz)
abbrev Xu (l : Launch) (D : va_G) (ca : Nat → ClassId) (ad : Nat → Nat) (y : MethodName) (ws : List Cond) (rm : Room) (As : List Value) (S : QS) (o : (String × QS) ⊕ Unit) (mc ms : Nat) : Prop := ∀ sz, vx_Met l y ws rm (va_Pc As (PreX D ca ad S sz)) (va_Qv (fun u : QS => o = .inr () ∧ u = S) (Bt D ca ad) (Aq ad sz)) (XX D ca ad (Aq ad sz) o) mc ms (Aq ad sz)
abbrev Xi (l : Launch) (D : va_G) (ca : Nat → ClassId) (ad : Nat → Nat) (y : MethodName) (ws : List Cond) (rm : Room) (As : List Value) (S : QS) (o : (String × QS) ⊕ (Int32 × QS)) (mc ms : Nat) : Prop := ∀ sz, vx_Met l y ws rm (va_Pc As (PreX D ca ad S sz)) (va_Qi (fun (r : Int32) (u : QS) => o = .inr (r, u)) (Bt D ca ad) (Aq ad sz)) (XX D ca ad (Aq ad sz) o) mc ms (Aq ad sz)
abbrev Xj (l : Launch) (D : va_G) (ca : Nat → ClassId) (ad : Nat → Nat) (y : MethodName) (ws : List Cond) (rm : Room) (As : List Value) (S : QS) (o : (String × QS) ⊕ Int32) (mc ms : Nat) : Prop := ∀ sz, vx_Met l y ws rm (va_Pc As (PreX D ca ad S sz)) (va_Qi (fun (r : Int32) (u : QS) => o = .inr r ∧ u = S) (Bt D ca ad) (Aq ad sz)) (XX D ca ad (Aq ad sz) o) mc ms (Aq ad sz)
abbrev Xr (l : Launch) (D : va_G) (ca : Nat → ClassId) (ad : Nat → Nat) (y : MethodName) (ws : List Cond) (rm : Room) (As : List Value) (S : QS) (o : (String × QS) ⊕ Nat) (mc ms : Nat) : Prop := ∀ sz, vx_Met l y ws rm (va_Pc As (PreX D ca ad S sz)) (va_Qr (fun u : QS => u = S) (fun u a t => ∃ x, o = .inr x ∧ a = ad x ∧ Bt D ca ad u t) (Aq ad sz)) (XX D ca ad (Aq ad sz) o) mc ms (Aq ad sz)
abbrev Yv (below : List Frame) (D : va_G) (ca : Nat → ClassId) (ad : Nat → Nat) (args : Array Value) (s : State) (mc ms : Nat) (o : (String × QS) ⊕ QS) : State → Prop := vx_MQ below (va_Qv (fun u : QS => o = .inr u) (Bt D ca ad) (Aq ad s.heap.size)) (XX D ca ad (Aq ad s.heap.size) o) args s mc ms (Aq ad s.heap.size)
abbrev Yu (below : List Frame) (D : va_G) (ca : Nat → ClassId) (ad : Nat → Nat) (args : Array Value) (s : State) (mc ms : Nat) (S : QS) (o : (String × QS) ⊕ Unit) : State → Prop := vx_MQ below (va_Qv (fun u : QS => o = .inr () ∧ u = S) (Bt D ca ad) (Aq ad s.heap.size)) (XX D ca ad (Aq ad s.heap.size) o) args s mc ms (Aq ad s.heap.size)
abbrev Yi (below : List Frame) (D : va_G) (ca : Nat → ClassId) (ad : Nat → Nat) (args : Array Value) (s : State) (mc ms : Nat) (o : (String × QS) ⊕ (Int32 × QS)) : State → Prop := vx_MQ below (va_Qi (fun (r : Int32) (u : QS) => o = .inr (r, u)) (Bt D ca ad) (Aq ad s.heap.size)) (XX D ca ad (Aq ad s.heap.size) o) args s mc ms (Aq ad s.heap.size)
abbrev Yj (below : List Frame) (D : va_G) (ca : Nat → ClassId) (ad : Nat → Nat) (args : Array Value) (s : State) (mc ms : Nat) (S : QS) (o : (String × QS) ⊕ Int32) : State → Prop := vx_MQ below (va_Qi (fun (r : Int32) (u : QS) => o = .inr r ∧ u = S) (Bt D ca ad) (Aq ad s.heap.size)) (XX D ca ad (Aq ad s.heap.size) o) args s mc ms (Aq ad s.heap.size)
abbrev Yr (below : List Frame) (D : va_G) (ca : Nat → ClassId) (ad : Nat → Nat) (args : Array Value) (s : State) (mc ms : Nat) (S : QS) (o : (String × QS) ⊕ Nat) : State → Prop := vx_MQ below (va_Qr (fun u : QS => u = S) (fun u a t => ∃ x, o = .inr x ∧ a = ad x ∧ Bt D ca ad u t) (Aq ad s.heap.size)) (XX D ca ad (Aq ad s.heap.size) o) args s mc ms (Aq ad s.heap.size)
section
variable {p : Program} {l : Launch} {e : Env} {R : Room} {s : State} {m : MethodId} {args : Array Value} {below : List Frame} {meth : Method} {c : Code} {H : Heap} {locs : List Loc} {cells slots : Nat} {Q : State → Prop} {cc : ByteArray} {pc : Nat} {ls : Array Slot} {rest : List Value} {D : va_G} {ca : Nat → ClassId} {ad : Nat → Nat} {S S1 : QS} {own : String} {index : Nat}
theorem x_pre (hE : EX (Aq ad s.heap.size) s s.heap) (hS : va_S (Aq ad s.heap.size) s.heap H locs) (hKK : KK D ca s) (hP : va_P D vwCl (wd ca ad S) H) {As : List Value} : PreS s H (va_Pc As (PreX D ca ad S H.size)) As := ⟨PreX.blind, fun U hU hW => ⟨rfl, ⟨by rw [hU], by rw [hU]; exact hP, hKK.warm hW⟩, by rw [hU]; exact (hE.to hS.2.1 (Aq_mono hS.1)).warm hW⟩⟩
theorem x_preV (hE : EX (Aq ad s.heap.size) s s.heap) (hS : va_S (Aq ad s.heap.size) s.heap H locs) (hKK : KK D ca s) (hP : va_P D vwCl (wd ca ad S) H) {As : List Value} {b ci : Nat} {q : vw_C} (hk : qk b = ci) (hc : vwCl[ci]? = some q) : PreV s H q.1 (ad b) (va_Pc (.ref (ad b) :: As) (PreX D ca ad S H.size)) As := ⟨PreX.blind, r_recv hKK hP hk hc, fun U hU hW => ⟨rfl, ⟨by rw [hU], by rw [hU]; exact hP, hKK.warm hW⟩, by rw [hU]; exact (hE.to hS.2.1 (Aq_mono hS.1)).warm hW⟩⟩
theorem wd_kept {H1 : Heap} (hP : va_P D vwCl (wd ca ad S) H) (h : ∀ q : Nat, q < H.size → H1[q]? = H[q]?) : va_P D vwCl (wd ca ad S) H1 := hP.kept (fun _ _ hk => h _ (hP _ _ hk).lt)
theorem x_throw {β : Type} {Qc : Array Value → State → Outcome → State → Prop} {o : (String × QS) ⊕ β} (hx : p.tables.exec = Jvm.exec) (hb : c.code = cc) (hl : l.stackTraces = false) (hml : c.maxLocals = ls.size) (hown : s.vm.findClass RX5 = some m.cls) (hE : EX (Aq ad s.heap.size) s s.heap) (hP : va_P D vwCl (wd ca ad S) H) (hS : va_S (Aq ad s.heap.size) s.heap H locs) {cls text : String} {ik is ic mc ms : Nat}
    (hcls : Bundle.fit cls = true) (hk : (Cond.classLink RX5 ik cls).before args s = true) (hini : (Cond.initialized cls).before args s = true) (hstr : (is, text) ∈ qstr)
    (hg : ∀ w ∈ (vx_atS RX5 ic cls qnam).filter goodWord, w.before args s = true) (hng : ∀ w ∈ (vx_atS RX5 ic cls qnam).filter (fun w => !goodWord w), w ∈ qcas)
    (hot : ∀ w ∈ Cond.classLink RX5 ik cls :: Cond.initialized cls :: vx_atS RX5 ic cls qnam, vx_ot w = true)
    (d0 : decode cc pc = .ok (.new ik, 3)) (d3 : decode cc (pc + 3) = .ok (.dup, 1)) (d4 : decode cc (pc + 4) = .ok (.ldc is, 2)) (d6 : decode cc (pc + 6) = .ok (.invokespecial ic, 3)) (d9 : decode cc (pc + 9) = .ok (.athrow, 1))
    (hT : ∀ x ∈ c.exceptionTable.toList, False) (hRf : 5 < R.frames) (hRl : (rest.map fun v => v.category).sum + 82 ≤ R.locals) (hRc : cells + 1 ≤ R.cells) (hRs : slots + 6 ≤ R.slots) (hlocks : meth.locks = false)
    (hc : cells + 1 ≤ mc) (hs : slots + 6 ≤ ms) (ho : o = .inl (cls, S)) :
    W p l e R s m args below meth c H locs cells slots (vx_MQ below Qc (XX D ca ad (Aq ad s.heap.size) o) args s mc ms (Aq ad s.heap.size)) (F0 m pc ls rest) := by
  obtain ⟨sa, hstr⟩ := hE.2.2.1 _ hstr
  refine vx_throwS hx hb hl (names := qnam) hown hcls (by decide +kernel) hk hini hstr (vx_hat hg hng (fun w hw => va_Nw.use (w := w) (by
    simp only [qcas, List.mem_cons, List.not_mem_nil, or_false] at hw
    rcases hw with rfl | rfl | rfl | rfl | rfl | rfl | rfl <;> rfl) (hE.2.2.2 w hw))) hot hE.1 hE.2.1 hS hml.symm d0 d3 d4 d6 d9 (fun x hx => (hT x hx).elim) hRf hRl hRc hRs hlocks (fun t hvm hsz hq => ?_) hS.2.2 hc hs
  refine ⟨(cls, S), ho, ⟨rfl, wd_kept hP hq⟩, Nat.le_trans hS.1 hsz, fun q h1 h2 => ?_⟩
  rw [hq q (Nat.lt_of_lt_of_le h1 hS.1)]
  exact hS.2.1 q h1 h2
variable {a : Array Value} {st0 : List Value} {mc ms : Nat}
theorem y_v (hS : va_S (Aq ad s.heap.size) s.heap H locs) {o : (String × QS) ⊕ QS} (hr : vx_Run p l e R s m args below meth c H locs cells slots mc ms (F0 m pc ls st0) rest (va_Qv (fun u : QS => o = .inr u) (Bt D ca ad) (Aq ad H.size) a) (XX D ca ad (Aq ad H.size) o) (Aq ad H.size))
    (kx : ∀ (E : String) (ce : Cell) (q9 : Addr) (u : QS) (H1 : Heap) (locs1 : List Loc), o = .inl (E, u) → va_P D vwCl (wd ca ad u) H1 → va_S (Aq ad s.heap.size) s.heap H1 locs1 → H1[q9]? = some ce → ce.vm = .none → s.vm.findClass E = some ce.cls → vx_W p l e R s m args below meth c H1 locs1 (cells + mc) (slots + ms) Q (F0 m pc ls rest) q9)
    (kk : ∀ (u : QS) (H1 : Heap) (locs1 : List Loc), o = .inr u → va_P D vwCl (wd ca ad u) H1 → va_S (Aq ad s.heap.size) s.heap H1 locs1 → W p l e R s m args below meth c H1 locs1 (cells + mc) (slots + ms) Q (F0 m (pc + 3) ls rest)) : W p l e R s m args below meth c H locs cells slots Q (F0 m pc ls st0) := by
  refine vx_callv hr hS (fun q _ h => hFree hS h) (fun q h => hFree hS h) (fun q _ h => hFree hS h) (fun E ce q9 u t H1 locs1 ht _ hu hB _ _ hS1 h1 h2 h3 => ?_) (fun u t H1 locs1 ht _ hu hB _ _ hS1 => ?_)
  · subst ht
    obtain ⟨rfl, hB⟩ := hB
    exact kx _ ce q9 u.2 _ _ hu hB hS1 h1 h2 h3
  · subst ht
    exact kk u _ _ hu hB hS1
theorem y_u (hS : va_S (Aq ad s.heap.size) s.heap H locs) {o : (String × QS) ⊕ Unit} (hr : vx_Run p l e R s m args below meth c H locs cells slots mc ms (F0 m pc ls st0) rest (va_Qv (fun u : QS => o = .inr () ∧ u = S) (Bt D ca ad) (Aq ad H.size) a) (XX D ca ad (Aq ad H.size) o) (Aq ad H.size))
    (kx : ∀ (E : String) (ce : Cell) (q9 : Addr) (u : QS) (H1 : Heap) (locs1 : List Loc), o = .inl (E, u) → va_P D vwCl (wd ca ad u) H1 → va_S (Aq ad s.heap.size) s.heap H1 locs1 → H1[q9]? = some ce → ce.vm = .none → s.vm.findClass E = some ce.cls → vx_W p l e R s m args below meth c H1 locs1 (cells + mc) (slots + ms) Q (F0 m pc ls rest) q9)
    (kk : ∀ (H1 : Heap) (locs1 : List Loc), o = .inr () → va_P D vwCl (wd ca ad S) H1 → va_S (Aq ad s.heap.size) s.heap H1 locs1 → W p l e R s m args below meth c H1 locs1 (cells + mc) (slots + ms) Q (F0 m (pc + 3) ls rest)) : W p l e R s m args below meth c H locs cells slots Q (F0 m pc ls st0) := by
  refine vx_callv hr hS (fun q _ h => hFree hS h) (fun q h => hFree hS h) (fun q _ h => hFree hS h) (fun E ce q9 u t H1 locs1 ht _ hu hB _ _ hS1 h1 h2 h3 => ?_) (fun u t H1 locs1 ht _ hu hB _ _ hS1 => ?_)
  · subst ht
    obtain ⟨rfl, hB⟩ := hB
    exact kx _ ce q9 u.2 _ _ hu hB hS1 h1 h2 h3
  · subst ht
    obtain ⟨hu, rfl⟩ := hu
    exact kk _ _ hu hB hS1
theorem y_i (hS : va_S (Aq ad s.heap.size) s.heap H locs) {o : (String × QS) ⊕ (Int32 × QS)} (hr : vx_Run p l e R s m args below meth c H locs cells slots mc ms (F0 m pc ls st0) rest (va_Qi (fun (r : Int32) (u : QS) => o = .inr (r, u)) (Bt D ca ad) (Aq ad H.size) a) (XX D ca ad (Aq ad H.size) o) (Aq ad H.size))
    (kx : ∀ (E : String) (ce : Cell) (q9 : Addr) (u : QS) (H1 : Heap) (locs1 : List Loc), o = .inl (E, u) → va_P D vwCl (wd ca ad u) H1 → va_S (Aq ad s.heap.size) s.heap H1 locs1 → H1[q9]? = some ce → ce.vm = .none → s.vm.findClass E = some ce.cls → vx_W p l e R s m args below meth c H1 locs1 (cells + mc) (slots + ms) Q (F0 m pc ls rest) q9)
    (kk : ∀ (u : Int32 × QS) (H1 : Heap) (locs1 : List Loc), o = .inr u → va_P D vwCl (wd ca ad u.2) H1 → va_S (Aq ad s.heap.size) s.heap H1 locs1 → W p l e R s m args below meth c H1 locs1 (cells + mc) (slots + ms) Q (F0 m (pc + 3) ls (.int u.1 :: rest))) : W p l e R s m args below meth c H locs cells slots Q (F0 m pc ls st0) := by
  refine vx_calli hr hS (fun q _ h => hFree hS h) (fun q h => hFree hS h) (fun q _ h => hFree hS h) (fun E ce q9 u t H1 locs1 ht _ hu hB _ _ hS1 h1 h2 h3 => ?_) (fun r u t H1 locs1 ht _ hu hB _ _ hS1 => ?_)
  · subst ht
    obtain ⟨rfl, hB⟩ := hB
    exact kx _ ce q9 u.2 _ _ hu hB hS1 h1 h2 h3
  · subst ht
    exact kk (r, u) _ _ hu hB hS1
theorem y_j (hS : va_S (Aq ad s.heap.size) s.heap H locs) {o : (String × QS) ⊕ Int32} (hr : vx_Run p l e R s m args below meth c H locs cells slots mc ms (F0 m pc ls st0) rest (va_Qi (fun (r : Int32) (u : QS) => o = .inr r ∧ u = S) (Bt D ca ad) (Aq ad H.size) a) (XX D ca ad (Aq ad H.size) o) (Aq ad H.size))
    (kx : ∀ (E : String) (ce : Cell) (q9 : Addr) (u : QS) (H1 : Heap) (locs1 : List Loc), o = .inl (E, u) → va_P D vwCl (wd ca ad u) H1 → va_S (Aq ad s.heap.size) s.heap H1 locs1 → H1[q9]? = some ce → ce.vm = .none → s.vm.findClass E = some ce.cls → vx_W p l e R s m args below meth c H1 locs1 (cells + mc) (slots + ms) Q (F0 m pc ls rest) q9)
    (kk : ∀ (u : Int32) (H1 : Heap) (locs1 : List Loc), o = .inr u → va_P D vwCl (wd ca ad S) H1 → va_S (Aq ad s.heap.size) s.heap H1 locs1 → W p l e R s m args below meth c H1 locs1 (cells + mc) (slots + ms) Q (F0 m (pc + 3) ls (.int u :: rest))) : W p l e R s m args below meth c H locs cells slots Q (F0 m pc ls st0) := by
  refine vx_calli hr hS (fun q _ h => hFree hS h) (fun q h => hFree hS h) (fun q _ h => hFree hS h) (fun E ce q9 u t H1 locs1 ht _ hu hB _ _ hS1 h1 h2 h3 => ?_) (fun r u t H1 locs1 ht _ hu hB _ _ hS1 => ?_)
  · subst ht
    obtain ⟨rfl, hB⟩ := hB
    exact kx _ ce q9 u.2 _ _ hu hB hS1 h1 h2 h3
  · subst ht
    obtain ⟨hu, rfl⟩ := hu
    exact kk r _ _ hu hB hS1
theorem x_callr {S9 SX : Type} {post : S9 → Prop} {px : SX → Prop} {B : S9 → Nat → State → Prop} {BX : String → SX → State → Prop} {A0 A1 AX : Nat → Prop} {H0 : Heap} {free : Addr → Prop} (hr : vx_Run p l e R s m args below meth c H locs cells slots mc ms (F0 m pc ls st0) rest (va_Qr post B A1 a) (vx_X px BX AX) free) (hS : va_S A0 H0 H locs) (hA : ∀ q, q < H.size → A1 q → A0 q) (hf : ∀ q, free q → A0 q) (hAX : ∀ q, q < H.size → AX q → A0 q)
    (kx : ∀ (E : String) (ce : Cell) (q9 : Addr) (u : SX) (t : State) (H1 : Heap) (locs1 : List Loc), t.heap = H1 → s.vm.Alike t.vm → px u → BX E u t → H.size ≤ H1.size → (∀ q : Nat, q < H.size → ¬ AX q → H1[q]? = H[q]?) → va_S A0 H0 H1 locs1 → H1[q9]? = some ce → ce.vm = .none → s.vm.findClass E = some ce.cls → vx_W p l e R s m args below meth c H1 locs1 (cells + mc) (slots + ms) Q (F0 m pc ls rest) q9)
    (kk : ∀ (u : S9) (ra : Nat) (t : State) (H1 : Heap) (locs1 : List Loc), t.heap = H1 → s.vm.Alike t.vm → post u → B u ra t → H.size ≤ H1.size → (∀ q : Nat, q < H.size → ¬ A1 q → H1[q]? = H[q]?) → va_S A0 H0 H1 locs1 → W p l e R s m args below meth c H1 locs1 (cells + mc) (slots + ms) Q (F0 m (pc + 3) ls (.ref ra :: rest))) : W p l e R s m args below meth c H locs cells slots Q (F0 m pc ls st0) := by
  intro T hT X
  rcases hr T hT X with ⟨v, st₀, t, T', L, h0, X', hL, e1, e2, ⟨⟨u, ra, hv, hp, hb⟩, hF⟩, st⟩ | ⟨q, st₀, t, T', L, E, ce, h0, X', hL, e1, e2, ⟨u, hp, hb, hF⟩, hce, hcv, hcl, st⟩
  · cases hv
    obtain ⟨k1, k2, k3⟩ := vx_keep h0 e1 hS hA hf hL hF
    obtain ⟨t2, a1, b1⟩ := kk u ra t T'.heap (locs ++ L) e1.symm (by rw [← e2]; exact X'.warmed.alike) hp hb k1 k2 k3 T' rfl X'
    exact ⟨t2, st t2 a1, b1⟩
  · obtain ⟨k1, k2, k3⟩ := vx_keep h0 e1 hS hAX hf hL hF
    obtain ⟨t2, a1, b1⟩ := kx E ce q u t T'.heap (locs ++ L) e1.symm (by rw [← e2]; exact X'.warmed.alike) hp hb k1 k2 k3 (by rw [e1]; exact hce) hcv hcl T' rfl X'
    exact ⟨t2, st.trans a1, b1⟩
theorem y_r (hS : va_S (Aq ad s.heap.size) s.heap H locs) {o : (String × QS) ⊕ Nat} (hr : vx_Run p l e R s m args below meth c H locs cells slots mc ms (F0 m pc ls st0) rest (va_Qr (fun u : QS => u = S) (fun u a t => ∃ x, o = .inr x ∧ a = ad x ∧ Bt D ca ad u t) (Aq ad H.size) a) (XX D ca ad (Aq ad H.size) o) (Aq ad H.size))
    (kx : ∀ (E : String) (ce : Cell) (q9 : Addr) (u : QS) (H1 : Heap) (locs1 : List Loc), o = .inl (E, u) → va_P D vwCl (wd ca ad u) H1 → va_S (Aq ad s.heap.size) s.heap H1 locs1 → H1[q9]? = some ce → ce.vm = .none → s.vm.findClass E = some ce.cls → vx_W p l e R s m args below meth c H1 locs1 (cells + mc) (slots + ms) Q (F0 m pc ls rest) q9)
    (kk : ∀ (u : Nat) (H1 : Heap) (locs1 : List Loc), o = .inr u → va_P D vwCl (wd ca ad S) H1 → va_S (Aq ad s.heap.size) s.heap H1 locs1 → W p l e R s m args below meth c H1 locs1 (cells + mc) (slots + ms) Q (F0 m (pc + 3) ls (.ref (ad u) :: rest))) : W p l e R s m args below meth c H locs cells slots Q (F0 m pc ls st0) := by
  refine x_callr hr hS (fun q _ h => hFree hS h) (fun q h => hFree hS h) (fun q _ h => hFree hS h) (fun E ce q9 u t H1 locs1 ht _ hu hB _ _ hS1 h1 h2 h3 => ?_) (fun u ra t H1 locs1 ht _ hu hB _ _ hS1 => ?_)
  · subst ht
    obtain ⟨rfl, hB⟩ := hB
    exact kx _ ce q9 u.2 _ _ hu hB hS1 h1 h2 h3
  · subst ht
    obtain ⟨x, ho, rfl, hB⟩ := hB
    subst hu
    exact kk x _ _ ho hB hS1
/-- not caught here -/
theorem x_out {β : Type} {Qc : Array Value → State → Outcome → State → Prop} {o : (String × QS) ⊕ β} {MC MS : Nat} {E : String} {ce : Cell} {q : Addr} {u : QS} (hT : ∀ x ∈ c.exceptionTable.toList, False) (hlocks : meth.locks = false) (hP : va_P D vwCl (wd ca ad u) H) (hS : va_S (Aq ad s.heap.size) s.heap H locs) (hcell : H[q]? = some ce) (hv : ce.vm = .none) (hcl : s.vm.findClass E = some ce.cls) (ho : o = .inl (E, u)) (hc : cells ≤ MC) (hs : slots ≤ MS) :
    vx_W p l e R s m args below meth c H locs cells slots (vx_MQ below Qc (XX D ca ad (Aq ad s.heap.size) o) args s MC MS (Aq ad s.heap.size)) (F0 m pc ls rest) q :=
  vx_out (fun x hx => (hT x hx).elim) hlocks hcell hv hcl (fun t ht _ => ⟨(E, u), ho, ⟨rfl, by unfold Bt; rw [ht]; exact hP⟩, hS.F ht⟩) hS.2.2 hc hs
/-! ends of a method that may throw -/
theorem x_vret {o : (String × QS) ⊕ QS} {MC MS : Nat} (hx : p.tables.exec = Jvm.exec) (hb : c.code = cc) (hr : meth.sig.returnType = none) (hP : va_P D vwCl (wd ca ad S) H) (hS : va_S (Aq ad s.heap.size) s.heap H locs) (hdg : decode cc pc = .ok (.return_, 1)) (hlocks : meth.locks = false) (hc : cells ≤ MC) (hs : slots ≤ MS) (ho : o = .inr S) : W p l e R s m args below meth c H locs cells slots (Yv below D ca ad args s MC MS o) (F0 m pc ls []) :=
  W.widen hc hs (vx_ret (W.vret hx hb hr (fun t ht hW => ⟨⟨S, rfl, ho, by unfold Bt; rw [ht]; exact hP⟩, hS.F ht⟩) hS.2.2 hdg hlocks))
theorem x_uret {o : (String × QS) ⊕ Unit} {MC MS : Nat} (hx : p.tables.exec = Jvm.exec) (hb : c.code = cc) (hr : meth.sig.returnType = none) (hP : va_P D vwCl (wd ca ad S) H) (hS : va_S (Aq ad s.heap.size) s.heap H locs) (hdg : decode cc pc = .ok (.return_, 1)) (hlocks : meth.locks = false) (hc : cells ≤ MC) (hs : slots ≤ MS) (ho : o = .inr ()) : W p l e R s m args below meth c H locs cells slots (Yu below D ca ad args s MC MS S o) (F0 m pc ls []) :=
  W.widen hc hs (vx_ret (W.vret hx hb hr (fun t ht hW => ⟨⟨S, rfl, ⟨ho, rfl⟩, by unfold Bt; rw [ht]; exact hP⟩, hS.F ht⟩) hS.2.2 hdg hlocks))
theorem x_iret {o : (String × QS) ⊕ (Int32 × QS)} {MC MS : Nat} {x : Int32} (hx : p.tables.exec = Jvm.exec) (hb : c.code = cc) (hr : meth.sig.returnType = some .int) (hP : va_P D vwCl (wd ca ad S) H) (hS : va_S (Aq ad s.heap.size) s.heap H locs) (hdg : decode cc pc = .ok (.ireturn, 1)) (hlocks : meth.locks = false) (hc : cells ≤ MC) (hs : slots ≤ MS) (ho : o = .inr (x, S)) : W p l e R s m args below meth c H locs cells slots (Yi below D ca ad args s MC MS o) (F0 m pc ls [.int x]) :=
  W.widen hc hs (vx_ret (W.iret hx hb hr (fun t ht hW => ⟨⟨x, S, rfl, ho, by unfold Bt; rw [ht]; exact hP⟩, hS.F ht⟩) hS.2.2 hdg hlocks))
theorem x_zret {o : (String × QS) ⊕ (Int32 × QS)} {MC MS : Nat} {x : Int32} (hx : p.tables.exec = Jvm.exec) (hb : c.code = cc) (hr : meth.sig.returnType = some .boolean) (hz : x = 0 ∨ x = 1) (hP : va_P D vwCl (wd ca ad S) H) (hS : va_S (Aq ad s.heap.size) s.heap H locs) (hdg : decode cc pc = .ok (.ireturn, 1)) (hlocks : meth.locks = false) (hc : cells ≤ MC) (hs : slots ≤ MS) (ho : o = .inr (x, S)) : W p l e R s m args below meth c H locs cells slots (Yi below D ca ad args s MC MS o) (F0 m pc ls [.int x]) :=
  W.widen hc hs (vx_ret (W.zret hx hb hr (q_nz hz) (fun t ht hW => ⟨⟨x, S, rfl, ho, by unfold Bt; rw [ht]; exact hP⟩, hS.F ht⟩) hS.2.2 hdg hlocks))
theorem x_jret {o : (String × QS) ⊕ Int32} {MC MS : Nat} {x : Int32} (hx : p.tables.exec = Jvm.exec) (hb : c.code = cc) (hr : meth.sig.returnType = some .int) (hP : va_P D vwCl (wd ca ad S) H) (hS : va_S (Aq ad s.heap.size) s.heap H locs) (hdg : decode cc pc = .ok (.ireturn, 1)) (hlocks : meth.locks = false) (hc : cells ≤ MC) (hs : slots ≤ MS) (ho : o = .inr x) : W p l e R s m args below meth c H locs cells slots (Yj below D ca ad args s MC MS S o) (F0 m pc ls [.int x]) :=
  W.widen hc hs (vx_ret (W.iret hx hb hr (fun t ht hW => ⟨⟨x, S, rfl, ⟨ho, rfl⟩, by unfold Bt; rw [ht]; exact hP⟩, hS.F ht⟩) hS.2.2 hdg hlocks))
theorem x_rret {o : (String × QS) ⊕ Nat} {MC MS : Nat} {x : Nat} {C : String} (hx : p.tables.exec = Jvm.exec) (hb : c.code = cc) (hr : meth.sig.returnType = some (.object C)) (hP : va_P D vwCl (wd ca ad S) H) (hS : va_S (Aq ad s.heap.size) s.heap H locs) (hdg : decode cc pc = .ok (.areturn, 1)) (hlocks : meth.locks = false) (hc : cells ≤ MC) (hs : slots ≤ MS) (ho : o = .inr x) : W p l e R s m args below meth c H locs cells slots (Yr below D ca ad args s MC MS S o) (F0 m pc ls [.ref (ad x)]) :=
  W.widen hc hs (vx_ret (W.aret hx hb hr (Or.inl ⟨C, rfl⟩) (Or.inr ⟨_, rfl⟩) (fun t ht hW => ⟨⟨S, ad x, rfl, rfl, x, ho, rfl, by unfold Bt; rw [ht]; exact hP⟩, hS.F ht⟩) hS.2.2 hdg hlocks))
end
theorem bh_q {α β : Type} {o : Option ((String × QS) ⊕ α)} {g : String → QS → Option β} {f : α → Option β} {y : β} {x : (String × QS) ⊕ α} {E : String} {u : QS} (h : bh o g f = some y) (hx : o = some x) (he : x = .inl (E, u)) : g E u = some y := by
  subst hx; subst he
  exact h
/-! a method of the law's: it catches what the class throws -/
def qnc : List (String × String) := [("java/lang/IllegalArgumentException", "java/lang/IndexOutOfBoundsException"), ("java/lang/UnsupportedOperationException", "java/lang/IndexOutOfBoundsException"), ("java/lang/UnsupportedOperationException", "java/lang/IllegalArgumentException"), ("java/util/NoSuchElementException", "java/lang/IndexOutOfBoundsException"), ("java/util/NoSuchElementException", "java/lang/IllegalArgumentException")]
def NC (U : State) : Prop := ∀ q ∈ qnc, va_Nc q.1 q.2 U
def PreL (D : va_G) (ca : Nat → ClassId) (ad : Nat → Nat) (S : QS) (sz : Nat) (U : State) : Prop := PreX D ca ad S sz U ∧ NC U
theorem PreL.blind {D : va_G} {ca : Nat → ClassId} {ad : Nat → Nat} {S : QS} {sz : Nat} {As : List Value} : FrameBlind (va_Pc As (PreL D ca ad S sz)) := fun a U g mk q => ⟨q.1, ⟨⟨q.2.1.1.1, q.2.1.1.2.1, q.2.1.1.2.2.call⟩, EX.call q.2.1.2⟩, fun z hz => va_Nc.moved (u := U) (U := U.calling g mk a) (Vm.Alike.refl U.vm) (q.2.2 z hz)⟩
abbrev Cq (l : Launch) (D : va_G) (ca : Nat → ClassId) (ad : Nat → Nat) (y : MethodName) (ws : List Cond) (rm : Room) (As : List Value) (S : QS) (x : Int32) (S1 : QS) (mc ms : Nat) : Prop := ∀ sz, Met l y ws rm (va_Pc As (PreL D ca ad S sz)) (va_Qi (fun (r : Int32) (u : QS) => r = x ∧ u = S1) (Bt D ca ad) (Aq ad sz)) mc ms (Aq ad sz)
abbrev Zq (below : List Frame) (D : va_G) (ca : Nat → ClassId) (ad : Nat → Nat) (args : Array Value) (s : State) (mc ms : Nat) (x : Int32) (S : QS) : State → Prop := MQ below (va_Qi (fun (r : Int32) (u : QS) => r = x ∧ u = S) (Bt D ca ad) (Aq ad s.heap.size)) args s mc ms (Aq ad s.heap.size)
section
variable {p : Program} {l : Launch} {e : Env} {R : Room} {s : State} {m : MethodId} {args : Array Value} {below : List Frame} {meth : Method} {c : Code} {H : Heap} {locs : List Loc} {cells slots : Nat} {Q : State → Prop} {pc : Nat} {ls : Array Slot} {rest : List Value} {D : va_G} {ca : Nat → ClassId} {ad : Nat → Nat} {S S1 : QS} {a : Array Value} {st0 : List Value} {mc ms : Nat}
theorem l_pre (hN : NC s) (hE : EX (Aq ad s.heap.size) s s.heap) (hS : va_S (Aq ad s.heap.size) s.heap H locs) (hKK : KK D ca s) (hP : va_P D vwCl (wd ca ad S) H) {As : List Value} : PreS s H (va_Pc As (PreL D ca ad S H.size)) As := ⟨PreL.blind, fun U hU hW => ⟨rfl, ((x_pre hE hS hKK hP (As := As)).2 U hU hW).2, fun z hz => va_Nc.moved hW.alike (hN z hz)⟩⟩
theorem r_cq (hS : va_S (Aq ad s.heap.size) s.heap H locs) {x : Int32} (hr : va_Run p l e R s m args below meth c H locs cells slots mc ms (F0 m pc ls st0) rest (va_Qi (fun (r : Int32) (u : QS) => r = x ∧ u = S1) (Bt D ca ad) (Aq ad H.size) a) (Aq ad H.size)) (kk : ∀ (H1 : Heap) (locs1 : List Loc), va_P D vwCl (wd ca ad S1) H1 → va_S (Aq ad s.heap.size) s.heap H1 locs1 → W p l e R s m args below meth c H1 locs1 (cells + mc) (slots + ms) Q (F0 m (pc + 3) ls (.int x :: rest))) : W p l e R s m args below meth c H locs cells slots Q (F0 m pc ls st0) := by
  refine va_calli hr hS (fun q _ h => hFree hS h) (fun q h => hFree hS h) (fun r u t H1 locs1 ht _ hu hB _ _ hS1 => ?_)
  obtain ⟨rfl, rfl⟩ := hu
  subst ht
  exact kk _ _ hB hS1
end
