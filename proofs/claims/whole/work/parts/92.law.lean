/-! THE CLAIM OUT OF ONE WALK OF THE LAW'S BODY. Your part is whole_start (and what it stands on); all else here is the same for every law, but numbers. -/
def R_law : String := "CrashDeskLaw"
def lw_P (b : Addr) (xs : List Int32) (args : Array Value) (s : State) : Prop := args = #[.ref b] ∧ s.IntsAt b xs ∧ xs.length ≤ 3584 ∧ (Jvm.Cond.and given_1 narrow_1).before args s = true
def lw_Q (_ : Array Value) (s : State) (o : Outcome) (t : State) : Prop := o = .returned (some (.int 1)) ∧ Framed s o t [] 601024 7293034
def lw_Z (below : List Frame) (a : Array Value) (s : State) : State → Prop := fun t => ∃ o, t.status = .running ∧ Ended t below o ∧ lw_Q a s o t
/-- the law's own end, with 1 on the stack, nothing written that was there before, its room as the claim has it -/
theorem lw_ret {p : Program} {l : Launch} {e : Env} {s : State} {m : MethodId} {below : List Frame} {meth : Method} {c : Code} {b : Nat} (hx : p.tables.exec = Jvm.exec) (hb : c.code = code) (hr : meth.sig.returnType = ret) (hlocks : meth.locks = false) {pc : Nat} {H : Heap} {ls : Array Slot} (hdg : decode code pc = .ok (.ireturn, 1)) : W p l e room_1 s m #[Value.ref b] below meth c H [] 601024 7293034 (lw_Z below #[Value.ref b] s) (F0 m pc ls [.int 1]) := by
  intro T hT X
  obtain ⟨fs, hret, hrun, hended, hW, hframe⟩ := X.leave (v := some (.int 1)) (hlocks := hlocks) (fun h => by rw [hr] at h; cases h)
  have hmeth' : T.vm.method? m = some meth := X.method'
  refine ⟨T.setFrames fs, ?_, .returned (some (.int 1)), hrun, hended, rfl, ⟨_, rfl⟩, hW, hframe⟩
  jvm_step X.here [X.here.top, hx, hb, hdg, hmeth', hr, ret, narrow_b1]
  (try refine ⟨rfl, ?_⟩); (try refine ⟨rfl, ?_⟩)
  first | (intro acts; rw [hret _ acts rfl rfl rfl]) | rw [hret _ _ rfl rfl rfl]
  exact Steps.refl _
/-- what holds at the law's entry: the machine, the code, the tables' words (any of lw_tbl by 'hts w (by decide +kernel)'), the script of L ints xs at the cell b, what the Statement gives of the start (any of its parts by flat_of_before) -/
def lw_At (p : Program) (s : State) (m : MethodId) (meth : Method) (c : Code) (b L : Nat) (xs : Nat → Int32) : Prop :=
  p.tables.exec = Jvm.exec ∧ c.code = code ∧ meth.sig.returnType = ret ∧ c.maxLocals = 7 ∧ s.vm.findClass R_law = some m.cls ∧ (∀ w ∈ lw_tbl, w.before #[Value.ref b] s = true) ∧ va_X b L xs s s.heap ∧ b < s.heap.size ∧ meth.locks = false ∧ (Jvm.Cond.and given_1 narrow_1).before #[Value.ref b] s = true
section
variable {p : Program} {l : Launch} {e : Env} {s : State} {m : MethodId} {below : List Frame} {meth : Method} {c : Code} {D : va_G} {ca : Nat → ClassId} {ad : Nat → Nat} {b L : Nat} {xs : Nat → Int32}

set_option maxRecDepth 100000 in
set_option maxHeartbeats 4000000 in
theorem law_c0 (hst : l.stackTraces = false) (hj : Inj ad) (hx : p.tables.exec = Jvm.exec) (hb : c.code = cL_law) (hml : c.maxLocals = 7) (hown : s.vm.findClass RL = some m.cls) (hts : ∀ w ∈ wzL_law, w.before #[Value.ref b] s = true) (hX : va_X b L xs s s.heap) (hbl : b < s.heap.size) (hbA : ¬ Aq ad s.heap.size b) (hKK : KK D ca s) (hE : EX (Aq ad s.heap.size) s s.heap) (hN : NC s) {c0 s0 : Nat} (hC : c0 + 16 ≤ 601024) (hSl : s0 + 96 ≤ 7293034) (vi : Int32) (S o : QS) (hf : st_law_0 L xs vi S = some o)
    (kk : ∀ (H : Heap) (locs : List Loc) (ls : Array Slot), va_P D vwCl (wd ca ad o) H → va_S (Aq ad s.heap.size) s.heap H locs → lv_has ls 7 [(0, .ref b), (1, .ref (ad 0)), (2, .ref (ad 48)), (3, .ref (ad 67)), (4, .int vi)] → W p l e room_1 s m #[Value.ref b] below meth c H locs (c0 + 2) (s0 + 12) (lw_Z below #[Value.ref b] s) (F0 m 1032 ls []))
    (H : Heap) (locs : List Loc) (ls : Array Slot) (hP : va_P D vwCl (wd ca ad S) H) (hS : va_S (Aq ad s.heap.size) s.heap H locs) (hl : lv_has ls 7 [(0, .ref b), (1, .ref (ad 0)), (2, .ref (ad 48)), (3, .ref (ad 67)), (4, .int vi)]) : W p l e room_1 s m #[Value.ref b] below meth c H locs c0 s0 (lw_Z below #[Value.ref b] s) (F0 m 120 ls []) := by
  unfold st_law_0 at hf
  refine lv_aload_n hx hb dL_law_120 rfl (lv_at hl 1 rfl) ?_
  refine lv_aload_n hx hb dL_law_121 rfl (lv_at hl 0 rfl) ?_
  refine lv_iload hx hb dL_law_122 (lv_at hl 4 rfl) ?_
  refine lv_iconst (v := 1) hx hb dL_law_124 (by decide) ?_
  refine lv_iadd hx hb dL_law_125 ?_
  obtain ⟨v1, h2, hf⟩ := bd_e hf
  obtain ⟨h2z, h2e⟩ := q_rdX h2
  refine va_sld hx hb hX hbl hbA hS h2z dL_law_126 ?_
  rw [← h2e]
  refine lv_aload_n hx hb dL_law_127 rfl (lv_at hl 0 rfl) ?_
  refine lv_iload hx hb dL_law_128 (lv_at hl 4 rfl) ?_
  refine lv_iconst (v := 2) hx hb dL_law_130 (by decide) ?_
  refine lv_iadd hx hb dL_law_131 ?_
  obtain ⟨v3, h4, hf⟩ := bd_e hf
  obtain ⟨h4z, h4e⟩ := q_rdX h4
  refine va_sld hx hb hX hbl hbA hS h4z dL_law_132 ?_
  rw [← h4e]
  obtain ⟨q6, h5, hf⟩ := bd_e hf
  refine r_cq hS (vx_runSW (As := [.ref (ad 0), .int v1, .int v3]) (rest := []) ⟨hx, hb, hml, hown, hts⟩ (m_L_mass l hst D ca ad hj v1 v3 S _ h5 H.size) (vx_cwSW 3 hts gL_law_L_mass rfl rfl rfl (by decide +kernel) ⟨Nat.le_of_ble_eq_true rfl, Nat.le_of_ble_eq_true rfl⟩) (l_pre hN hE hS hKK hP) rfl rfl hl.1 rfl (lv_room (Nat.le_of_ble_eq_true rfl)) dL_law_133 ⟨by show c0 + 2 ≤ 601024; omega, by show s0 + 12 ≤ 7293034; omega⟩) (fun H locs hP hS => ?_)
  refine lv_istore (lv' := [(5, .int q6.1), (0, .ref b), (1, .ref (ad 0)), (2, .ref (ad 48)), (3, .ref (ad 67)), (4, .int vi)]) hx hb dL_law_136 hl (by decide) rfl (fun ls hl => ?_)
  refine lv_aload_n hx hb dL_law_138 rfl (lv_at hl 3 rfl) ?_
  refine lv_aload_n hx hb dL_law_139 rfl (lv_at hl 1 rfl) ?_
  refine lv_iload hx hb dL_law_140 (lv_at hl 5 rfl) ?_
  refine lv_iconst (v := 1) hx hb dL_law_142 (by decide) ?_
  refine lv_iadd hx hb dL_law_143 ?_
  obtain ⟨v7, h8, hf⟩ := bd_e hf
  obtain ⟨h8z, h8e⟩ := q_rdX h8
  refine va_sld hx hb hX hbl hbA hS h8z dL_law_144 ?_
  rw [← h8e]
  refine lv_aload_n hx hb dL_law_145 rfl (lv_at hl 1 rfl) ?_
  refine lv_iload hx hb dL_law_146 (lv_at hl 5 rfl) ?_
  refine lv_iconst (v := 2) hx hb dL_law_148 (by decide) ?_
  refine lv_iadd hx hb dL_law_149 ?_
  obtain ⟨v9, h10, hf⟩ := bd_e hf
  obtain ⟨h10z, h10e⟩ := q_rdX h10
  refine va_sld hx hb hX hbl hbA hS h10z dL_law_150 ?_
  rw [← h10e]
  obtain ⟨S12, h11, hf⟩ := bd_e hf
  refine r_cv hS (va_runV (As := [.int v7, .int v9]) (rest := []) ⟨hx, hb, hml, hown, hts⟩ (m_X6_mass l D ca ad hj v7 v9 q6.2 _ h11 H.size) (cwV 2 hts gL_law_X6_mass rfl rfl rfl (by decide +kernel) ⟨Nat.le_of_ble_eq_true rfl, Nat.le_of_ble_eq_true rfl⟩) (r_preV hKK hP (show qk 48 = 6 from rfl) rfl) rfl rfl hl.1 rfl (lv_room (Nat.le_of_ble_eq_true rfl)) dL_law_151 ⟨by show (c0 + 2) + 0 ≤ 601024; omega, by show (s0 + 12) + 0 ≤ 7293034; omega⟩) (fun H locs hP hS => ?_)
  refine lv_aload_n hx hb dL_law_154 rfl (lv_at hl 3 rfl) ?_
  obtain ⟨v14, h13, hf⟩ := bd_e hf
  refine r_ci hS (va_runV (As := []) (rest := []) ⟨hx, hb, hml, hown, hts⟩ (m_X6_thrown l D ca ad hj S12 _ h13 H.size) (cwV 0 hts gL_law_X6_thrown rfl rfl rfl (by decide +kernel) ⟨Nat.le_of_ble_eq_true rfl, Nat.le_of_ble_eq_true rfl⟩) (r_preV hKK hP (show qk 48 = 6 from rfl) rfl) rfl rfl hl.1 rfl (lv_room (Nat.le_of_ble_eq_true rfl)) dL_law_155 ⟨by show (c0 + 2) + 0 ≤ 601024; omega, by show (s0 + 12) + 0 ≤ 7293034; omega⟩) (fun H locs hP hS => ?_)
  refine lv_iload hx hb dL_law_158 (lv_at hl 0 rfl) ?_
  refine lv_icmp_eq (tgt := 165) hx hb dL_law_160 (by decide) (fun w => ?_) (fun w => ?_)
  · have hf := if_t w hf
    refine lv_goto (tgt := 1032) hx hb dL_law_165 (by decide) ?_
    obtain rfl := Option.some.inj hf
    exact kk _ _ _ hP hS (lv_sub hl [1, 2, 3, 4, 5] rfl)
  · have hf := if_f w hf
    refine lv_iconst (v := 0) hx hb dL_law_163 (by decide) ?_
    cases hf
set_option maxRecDepth 100000 in
set_option maxHeartbeats 4000000 in
theorem law_c1 (hst : l.stackTraces = false) (hj : Inj ad) (hx : p.tables.exec = Jvm.exec) (hb : c.code = cL_law) (hml : c.maxLocals = 7) (hown : s.vm.findClass RL = some m.cls) (hts : ∀ w ∈ wzL_law, w.before #[Value.ref b] s = true) (hX : va_X b L xs s s.heap) (hbl : b < s.heap.size) (hbA : ¬ Aq ad s.heap.size b) (hKK : KK D ca s) (hE : EX (Aq ad s.heap.size) s s.heap) (hN : NC s) {c0 s0 : Nat} (hC : c0 + 16 ≤ 601024) (hSl : s0 + 96 ≤ 7293034) (vi : Int32) (S o : QS) (hf : st_law_1 L xs vi S = some o)
    (kk : ∀ (H : Heap) (locs : List Loc) (ls : Array Slot), va_P D vwCl (wd ca ad o) H → va_S (Aq ad s.heap.size) s.heap H locs → lv_has ls 7 [(0, .ref b), (1, .ref (ad 0)), (2, .ref (ad 48)), (3, .ref (ad 67)), (4, .int vi)] → W p l e room_1 s m #[Value.ref b] below meth c H locs (c0 + 4) (s0 + 24) (lw_Z below #[Value.ref b] s) (F0 m 1032 ls []))
    (H : Heap) (locs : List Loc) (ls : Array Slot) (hP : va_P D vwCl (wd ca ad S) H) (hS : va_S (Aq ad s.heap.size) s.heap H locs) (hl : lv_has ls 7 [(0, .ref b), (1, .ref (ad 0)), (2, .ref (ad 48)), (3, .ref (ad 67)), (4, .int vi)]) : W p l e room_1 s m #[Value.ref b] below meth c H locs c0 s0 (lw_Z below #[Value.ref b] s) (F0 m 168 ls []) := by
  unfold st_law_1 at hf
  refine lv_aload_n hx hb dL_law_168 rfl (lv_at hl 1 rfl) ?_
  refine lv_aload_n hx hb dL_law_169 rfl (lv_at hl 0 rfl) ?_
  refine lv_iload hx hb dL_law_170 (lv_at hl 4 rfl) ?_
  refine lv_iconst (v := 1) hx hb dL_law_172 (by decide) ?_
  refine lv_iadd hx hb dL_law_173 ?_
  obtain ⟨v1, h2, hf⟩ := bd_e hf
  obtain ⟨h2z, h2e⟩ := q_rdX h2
  refine va_sld hx hb hX hbl hbA hS h2z dL_law_174 ?_
  rw [← h2e]
  refine lv_aload_n hx hb dL_law_175 rfl (lv_at hl 0 rfl) ?_
  refine lv_iload hx hb dL_law_176 (lv_at hl 4 rfl) ?_
  refine lv_iconst (v := 2) hx hb dL_law_178 (by decide) ?_
  refine lv_iadd hx hb dL_law_179 ?_
  obtain ⟨v3, h4, hf⟩ := bd_e hf
  obtain ⟨h4z, h4e⟩ := q_rdX h4
  refine va_sld hx hb hX hbl hbA hS h4z dL_law_180 ?_
  rw [← h4e]
  obtain ⟨q5, hq5, hf⟩ := bd_e hf
  have J1 : ∀ (H : Heap) (locs : List Loc) (ls : Array Slot), va_P D vwCl (wd ca ad S) H → va_S (Aq ad s.heap.size) s.heap H locs → lv_has ls 7 [(0, .ref b), (1, .ref (ad 0)), (2, .ref (ad 48)), (3, .ref (ad 67)), (4, .int vi)] → W p l e room_1 s m #[Value.ref b] below meth c H locs c0 s0 (lw_Z below #[Value.ref b] s) (F0 m 189 ls [.int q5, .int v1, .ref (ad 0)]) := by
    intro H locs ls hP hS hl
    refine lv_aload_n hx hb dL_law_189 rfl (lv_at hl 0 rfl) ?_
    refine lv_iload hx hb dL_law_190 (lv_at hl 4 rfl) ?_
    refine lv_iconst (v := 3) hx hb dL_law_192 (by decide) ?_
    refine lv_iadd hx hb dL_law_193 ?_
    obtain ⟨v6, h7, hf⟩ := bd_e hf
    obtain ⟨h7z, h7e⟩ := q_rdX h7
    refine va_sld hx hb hX hbl hbA hS h7z dL_law_194 ?_
    rw [← h7e]
    refine lv_aload_n hx hb dL_law_195 rfl (lv_at hl 0 rfl) ?_
    refine lv_iload hx hb dL_law_196 (lv_at hl 4 rfl) ?_
    refine lv_iconst (v := 4) hx hb dL_law_198 (by decide) ?_
    refine lv_iadd hx hb dL_law_199 ?_
    obtain ⟨v8, h9, hf⟩ := bd_e hf
    obtain ⟨h9z, h9e⟩ := q_rdX h9
    refine va_sld hx hb hX hbl hbA hS h9z dL_law_200 ?_
    rw [← h9e]
    refine lv_aload_n hx hb dL_law_201 rfl (lv_at hl 0 rfl) ?_
    refine lv_iload hx hb dL_law_202 (lv_at hl 4 rfl) ?_
    refine lv_iconst (v := 5) hx hb dL_law_204 (by decide) ?_
    refine lv_iadd hx hb dL_law_205 ?_
    obtain ⟨v10, h11, hf⟩ := bd_e hf
    obtain ⟨h11z, h11e⟩ := q_rdX h11
    refine va_sld hx hb hX hbl hbA hS h11z dL_law_206 ?_
    rw [← h11e]
    refine lv_aload_n hx hb dL_law_207 rfl (lv_at hl 0 rfl) ?_
    refine lv_iload hx hb dL_law_208 (lv_at hl 4 rfl) ?_
    refine lv_bipush (v := 6) hx hb dL_law_210 (by decide) ?_
    refine lv_iadd hx hb dL_law_212 ?_
    obtain ⟨v12, h13, hf⟩ := bd_e hf
    obtain ⟨h13z, h13e⟩ := q_rdX h13
    refine va_sld hx hb hX hbl hbA hS h13z dL_law_213 ?_
    rw [← h13e]
    refine lv_aload_n hx hb dL_law_214 rfl (lv_at hl 3 rfl) ?_
    obtain ⟨q15, h14, hf⟩ := bd_e hf
    refine r_cq hS (vx_runSW (As := [.ref (ad 0), .int v1, .int q5, .int v6, .int v8, .int v10, .int v12, .ref (ad 67)]) (rest := []) ⟨hx, hb, hml, hown, hts⟩ (m_L_skid l hst D ca ad hj v1 q5 v6 v8 v10 v12 S _ h14 H.size) (vx_cwSW 8 hts gL_law_L_skid rfl rfl rfl (by decide +kernel) ⟨Nat.le_of_ble_eq_true rfl, Nat.le_of_ble_eq_true rfl⟩) (l_pre hN hE hS hKK hP) rfl rfl hl.1 rfl (lv_room (Nat.le_of_ble_eq_true rfl)) dL_law_215 ⟨by show c0 + 4 ≤ 601024; omega, by show s0 + 24 ≤ 7293034; omega⟩) (fun H locs hP hS => ?_)
    refine lv_istore (lv' := [(5, .int q15.1), (0, .ref b), (1, .ref (ad 0)), (2, .ref (ad 48)), (3, .ref (ad 67)), (4, .int vi)]) hx hb dL_law_218 hl (by decide) rfl (fun ls hl => ?_)
    refine lv_aload_n hx hb dL_law_220 rfl (lv_at hl 3 rfl) ?_
    refine lv_aload_n hx hb dL_law_221 rfl (lv_at hl 1 rfl) ?_
    refine lv_iload hx hb dL_law_222 (lv_at hl 5 rfl) ?_
    refine lv_iconst (v := 1) hx hb dL_law_224 (by decide) ?_
    refine lv_iadd hx hb dL_law_225 ?_
    obtain ⟨v16, h17, hf⟩ := bd_e hf
    obtain ⟨h17z, h17e⟩ := q_rdX h17
    refine va_sld hx hb hX hbl hbA hS h17z dL_law_226 ?_
    rw [← h17e]
    refine lv_aload_n hx hb dL_law_227 rfl (lv_at hl 1 rfl) ?_
    refine lv_iload hx hb dL_law_228 (lv_at hl 5 rfl) ?_
    refine lv_iconst (v := 2) hx hb dL_law_230 (by decide) ?_
    refine lv_iadd hx hb dL_law_231 ?_
    obtain ⟨v18, h19, hf⟩ := bd_e hf
    obtain ⟨h19z, h19e⟩ := q_rdX h19
    refine va_sld hx hb hX hbl hbA hS h19z dL_law_232 ?_
    rw [← h19e]
    obtain ⟨q20, hq20, hf⟩ := bd_e hf
    have J2 : ∀ (H : Heap) (locs : List Loc) (ls : Array Slot), va_P D vwCl (wd ca ad q15.2) H → va_S (Aq ad s.heap.size) s.heap H locs → lv_has ls 7 [(0, .ref b), (1, .ref (ad 0)), (2, .ref (ad 48)), (3, .ref (ad 67)), (4, .int vi), (5, .int q15.1)] → W p l e room_1 s m #[Value.ref b] below meth c H locs (c0 + 4) (s0 + 24) (lw_Z below #[Value.ref b] s) (F0 m 241 ls [.int q20, .int v16, .ref (ad 48)]) := by
      intro H locs ls hP hS hl
      refine lv_aload_n hx hb dL_law_241 rfl (lv_at hl 0 rfl) ?_
      refine lv_iload hx hb dL_law_242 (lv_at hl 4 rfl) ?_
      refine lv_iconst (v := 3) hx hb dL_law_244 (by decide) ?_
      refine lv_iadd hx hb dL_law_245 ?_
      obtain ⟨v21, h22, hf⟩ := bd_e hf
      obtain ⟨h22z, h22e⟩ := q_rdX h22
      refine va_sld hx hb hX hbl hbA hS h22z dL_law_246 ?_
      rw [← h22e]
      refine lv_aload_n hx hb dL_law_247 rfl (lv_at hl 0 rfl) ?_
      refine lv_iload hx hb dL_law_248 (lv_at hl 4 rfl) ?_
      refine lv_iconst (v := 4) hx hb dL_law_250 (by decide) ?_
      refine lv_iadd hx hb dL_law_251 ?_
      obtain ⟨v23, h24, hf⟩ := bd_e hf
      obtain ⟨h24z, h24e⟩ := q_rdX h24
      refine va_sld hx hb hX hbl hbA hS h24z dL_law_252 ?_
      rw [← h24e]
      refine lv_aload_n hx hb dL_law_253 rfl (lv_at hl 0 rfl) ?_
      refine lv_iload hx hb dL_law_254 (lv_at hl 4 rfl) ?_
      refine lv_iconst (v := 5) hx hb dL_law_256 (by decide) ?_
      refine lv_iadd hx hb dL_law_257 ?_
      obtain ⟨v25, h26, hf⟩ := bd_e hf
      obtain ⟨h26z, h26e⟩ := q_rdX h26
      refine va_sld hx hb hX hbl hbA hS h26z dL_law_258 ?_
      rw [← h26e]
      refine lv_aload_n hx hb dL_law_259 rfl (lv_at hl 0 rfl) ?_
      refine lv_iload hx hb dL_law_260 (lv_at hl 4 rfl) ?_
      refine lv_bipush (v := 6) hx hb dL_law_262 (by decide) ?_
      refine lv_iadd hx hb dL_law_264 ?_
      obtain ⟨v27, h28, hf⟩ := bd_e hf
      obtain ⟨h28z, h28e⟩ := q_rdX h28
      refine va_sld hx hb hX hbl hbA hS h28z dL_law_265 ?_
      rw [← h28e]
      obtain ⟨q30, h29, hf⟩ := bd_e hf
      refine r_ci hS (va_runV (As := [.int v16, .int q20, .int v21, .int v23, .int v25, .int v27]) (rest := []) ⟨hx, hb, hml, hown, hts⟩ (m_X6_skid l D ca ad hj v16 q20 v21 v23 v25 v27 q15.2 _ h29 H.size) (cwV 6 hts gL_law_X6_skid rfl rfl rfl (by decide +kernel) ⟨Nat.le_of_ble_eq_true rfl, Nat.le_of_ble_eq_true rfl⟩) (r_preV hKK hP (show qk 48 = 6 from rfl) rfl) rfl rfl hl.1 rfl (lv_room (Nat.le_of_ble_eq_true rfl)) dL_law_266 ⟨by show (c0 + 4) + 0 ≤ 601024; omega, by show (s0 + 24) + 0 ≤ 7293034; omega⟩) (fun H locs hP hS => ?_)
      refine lv_istore (lv' := [(6, .int q30.1), (0, .ref b), (1, .ref (ad 0)), (2, .ref (ad 48)), (3, .ref (ad 67)), (4, .int vi), (5, .int q15.1)]) hx hb dL_law_269 hl (by decide) rfl (fun ls hl => ?_)
      refine lv_aload_n hx hb dL_law_271 rfl (lv_at hl 3 rfl) ?_
      obtain ⟨v32, h31, hf⟩ := bd_e hf
      refine r_ci hS (va_runV (As := []) (rest := []) ⟨hx, hb, hml, hown, hts⟩ (m_X6_thrown l D ca ad hj q30.2 _ h31 H.size) (cwV 0 hts gL_law_X6_thrown rfl rfl rfl (by decide +kernel) ⟨Nat.le_of_ble_eq_true rfl, Nat.le_of_ble_eq_true rfl⟩) (r_preV hKK hP (show qk 48 = 6 from rfl) rfl) rfl rfl hl.1 rfl (lv_room (Nat.le_of_ble_eq_true rfl)) dL_law_272 ⟨by show (c0 + 4) + 0 ≤ 601024; omega, by show (s0 + 24) + 0 ≤ 7293034; omega⟩) (fun H locs hP hS => ?_)
      refine lv_iload hx hb dL_law_275 (lv_at hl 6 rfl) ?_
      refine lv_icmp_eq (tgt := 282) hx hb dL_law_277 (by decide) (fun w => ?_) (fun w => ?_)
      · have hf := if_t w hf
        refine lv_iload hx hb dL_law_282 (lv_at hl 6 rfl) ?_
        refine lv_if_ne (tgt := 299) hx hb dL_law_284 (by decide) (fun w => ?_) (fun w => ?_)
        · have hf := if_f w hf
          refine lv_goto (tgt := 1032) hx hb dL_law_299 (by decide) ?_
          obtain rfl := Option.some.inj hf
          exact kk _ _ _ hP hS (lv_sub hl [1, 2, 3, 4, 5] rfl)
        · have hf := if_t w hf
          refine lv_aload_n hx hb dL_law_287 rfl (lv_at hl 4 rfl) ?_
          refine lv_iconst (v := 0) hx hb dL_law_288 (by decide) ?_
          refine r_lald hx hb hKK hP dL_law_289 ?_
          refine lv_iload hx hb dL_law_290 (lv_at hl 0 rfl) ?_
          refine lv_i2l (v := q30.1.toInt64) hx hb dL_law_292 rfl ?_
          refine W.lcmp hx hb dL_law_293 ?_
          refine lv_if_eq (tgt := 299) hx hb dL_law_294 (by decide) (fun w => ?_) (fun w => ?_)
          · have hf := if_t w hf
            refine lv_goto (tgt := 1032) hx hb dL_law_299 (by decide) ?_
            obtain rfl := Option.some.inj hf
            exact kk _ _ _ hP hS (lv_sub hl [1, 2, 3, 4, 5] rfl)
          · have hf := if_f w hf
            refine lv_iconst (v := 0) hx hb dL_law_297 (by decide) ?_
            cases hf
      · have hf := if_f w hf
        refine lv_iconst (v := 0) hx hb dL_law_280 (by decide) ?_
        cases hf
    replace hf := hq20
    refine lv_if_eq (tgt := 240) hx hb dL_law_233 (by decide) (fun w => ?_) (fun w => ?_)
    · have hf := if_t w hf
      refine lv_iconst (v := 0) hx hb dL_law_240 (by decide) ?_
      obtain rfl := Option.some.inj hf
      exact J2 _ _ _ hP hS (lv_sub hl [1, 2, 3, 4, 5, 0] rfl)
    · have hf := if_f w hf
      refine lv_iconst (v := 1) hx hb dL_law_236 (by decide) ?_
      refine lv_goto (tgt := 241) hx hb dL_law_237 (by decide) ?_
      obtain rfl := Option.some.inj hf
      exact J2 _ _ _ hP hS (lv_sub hl [1, 2, 3, 4, 5, 0] rfl)
  replace hf := hq5
  refine lv_if_eq (tgt := 188) hx hb dL_law_181 (by decide) (fun w => ?_) (fun w => ?_)
  · have hf := if_t w hf
    refine lv_iconst (v := 0) hx hb dL_law_188 (by decide) ?_
    obtain rfl := Option.some.inj hf
    exact J1 _ _ _ hP hS (lv_sub hl [0, 1, 2, 3, 4] rfl)
  · have hf := if_f w hf
    refine lv_iconst (v := 1) hx hb dL_law_184 (by decide) ?_
    refine lv_goto (tgt := 189) hx hb dL_law_185 (by decide) ?_
    obtain rfl := Option.some.inj hf
    exact J1 _ _ _ hP hS (lv_sub hl [0, 1, 2, 3, 4] rfl)
set_option maxRecDepth 100000 in
set_option maxHeartbeats 4000000 in
theorem law_c2 (hst : l.stackTraces = false) (hj : Inj ad) (hx : p.tables.exec = Jvm.exec) (hb : c.code = cL_law) (hml : c.maxLocals = 7) (hown : s.vm.findClass RL = some m.cls) (hts : ∀ w ∈ wzL_law, w.before #[Value.ref b] s = true) (hX : va_X b L xs s s.heap) (hbl : b < s.heap.size) (hbA : ¬ Aq ad s.heap.size b) (hKK : KK D ca s) (hE : EX (Aq ad s.heap.size) s s.heap) (hN : NC s) {c0 s0 : Nat} (hC : c0 + 16 ≤ 601024) (hSl : s0 + 96 ≤ 7293034) (vi : Int32) (S o : QS) (hf : st_law_2 L xs vi S = some o)
    (kk : ∀ (H : Heap) (locs : List Loc) (ls : Array Slot), va_P D vwCl (wd ca ad o) H → va_S (Aq ad s.heap.size) s.heap H locs → lv_has ls 7 [(0, .ref b), (1, .ref (ad 0)), (2, .ref (ad 48)), (3, .ref (ad 67)), (4, .int vi)] → W p l e room_1 s m #[Value.ref b] below meth c H locs (c0 + 1) (s0 + 6) (lw_Z below #[Value.ref b] s) (F0 m 1032 ls []))
    (H : Heap) (locs : List Loc) (ls : Array Slot) (hP : va_P D vwCl (wd ca ad S) H) (hS : va_S (Aq ad s.heap.size) s.heap H locs) (hl : lv_has ls 7 [(0, .ref b), (1, .ref (ad 0)), (2, .ref (ad 48)), (3, .ref (ad 67)), (4, .int vi)]) : W p l e room_1 s m #[Value.ref b] below meth c H locs c0 s0 (lw_Z below #[Value.ref b] s) (F0 m 302 ls []) := by
  unfold st_law_2 at hf
  refine lv_aload_n hx hb dL_law_302 rfl (lv_at hl 1 rfl) ?_
  refine lv_aload_n hx hb dL_law_303 rfl (lv_at hl 0 rfl) ?_
  refine lv_iload hx hb dL_law_304 (lv_at hl 4 rfl) ?_
  refine lv_iconst (v := 1) hx hb dL_law_306 (by decide) ?_
  refine lv_iadd hx hb dL_law_307 ?_
  obtain ⟨v1, h2, hf⟩ := bd_e hf
  obtain ⟨h2z, h2e⟩ := q_rdX h2
  refine va_sld hx hb hX hbl hbA hS h2z dL_law_308 ?_
  rw [← h2e]
  refine lv_aload_n hx hb dL_law_309 rfl (lv_at hl 0 rfl) ?_
  refine lv_iload hx hb dL_law_310 (lv_at hl 4 rfl) ?_
  refine lv_iconst (v := 2) hx hb dL_law_312 (by decide) ?_
  refine lv_iadd hx hb dL_law_313 ?_
  obtain ⟨v3, h4, hf⟩ := bd_e hf
  obtain ⟨h4z, h4e⟩ := q_rdX h4
  refine va_sld hx hb hX hbl hbA hS h4z dL_law_314 ?_
  rw [← h4e]
  obtain ⟨q5, hq5, hf⟩ := bd_e hf
  have J1 : ∀ (H : Heap) (locs : List Loc) (ls : Array Slot), va_P D vwCl (wd ca ad S) H → va_S (Aq ad s.heap.size) s.heap H locs → lv_has ls 7 [(0, .ref b), (1, .ref (ad 0)), (2, .ref (ad 48)), (3, .ref (ad 67)), (4, .int vi)] → W p l e room_1 s m #[Value.ref b] below meth c H locs c0 s0 (lw_Z below #[Value.ref b] s) (F0 m 323 ls [.int q5, .int v1, .ref (ad 0)]) := by
    intro H locs ls hP hS hl
    refine lv_aload_n hx hb dL_law_323 rfl (lv_at hl 3 rfl) ?_
    obtain ⟨q7, h6, hf⟩ := bd_e hf
    refine r_cq hS (vx_runSW (As := [.ref (ad 0), .int v1, .int q5, .ref (ad 67)]) (rest := []) ⟨hx, hb, hml, hown, hts⟩ (m_L_drop l hst D ca ad hj v1 q5 S _ h6 H.size) (vx_cwSW 4 hts gL_law_L_drop rfl rfl rfl (by decide +kernel) ⟨Nat.le_of_ble_eq_true rfl, Nat.le_of_ble_eq_true rfl⟩) (l_pre hN hE hS hKK hP) rfl rfl hl.1 rfl (lv_room (Nat.le_of_ble_eq_true rfl)) dL_law_324 ⟨by show c0 + 1 ≤ 601024; omega, by show s0 + 6 ≤ 7293034; omega⟩) (fun H locs hP hS => ?_)
    refine lv_istore (lv' := [(5, .int q7.1), (0, .ref b), (1, .ref (ad 0)), (2, .ref (ad 48)), (3, .ref (ad 67)), (4, .int vi)]) hx hb dL_law_327 hl (by decide) rfl (fun ls hl => ?_)
    refine lv_aload_n hx hb dL_law_329 rfl (lv_at hl 3 rfl) ?_
    refine lv_aload_n hx hb dL_law_330 rfl (lv_at hl 1 rfl) ?_
    refine lv_iload hx hb dL_law_331 (lv_at hl 5 rfl) ?_
    refine lv_iconst (v := 1) hx hb dL_law_333 (by decide) ?_
    refine lv_iadd hx hb dL_law_334 ?_
    obtain ⟨v8, h9, hf⟩ := bd_e hf
    obtain ⟨h9z, h9e⟩ := q_rdX h9
    refine va_sld hx hb hX hbl hbA hS h9z dL_law_335 ?_
    rw [← h9e]
    refine lv_aload_n hx hb dL_law_336 rfl (lv_at hl 1 rfl) ?_
    refine lv_iload hx hb dL_law_337 (lv_at hl 5 rfl) ?_
    refine lv_iconst (v := 2) hx hb dL_law_339 (by decide) ?_
    refine lv_iadd hx hb dL_law_340 ?_
    obtain ⟨v10, h11, hf⟩ := bd_e hf
    obtain ⟨h11z, h11e⟩ := q_rdX h11
    refine va_sld hx hb hX hbl hbA hS h11z dL_law_341 ?_
    rw [← h11e]
    obtain ⟨q12, hq12, hf⟩ := bd_e hf
    have J2 : ∀ (H : Heap) (locs : List Loc) (ls : Array Slot), va_P D vwCl (wd ca ad q7.2) H → va_S (Aq ad s.heap.size) s.heap H locs → lv_has ls 7 [(0, .ref b), (1, .ref (ad 0)), (2, .ref (ad 48)), (3, .ref (ad 67)), (4, .int vi), (5, .int q7.1)] → W p l e room_1 s m #[Value.ref b] below meth c H locs (c0 + 1) (s0 + 6) (lw_Z below #[Value.ref b] s) (F0 m 350 ls [.int q12, .int v8, .ref (ad 48)]) := by
      intro H locs ls hP hS hl
      obtain ⟨q14, h13, hf⟩ := bd_e hf
      refine r_ci hS (va_runV (As := [.int v8, .int q12]) (rest := []) ⟨hx, hb, hml, hown, hts⟩ (m_X6_drop l D ca ad hj v8 q12 q7.2 _ h13 H.size) (cwV 2 hts gL_law_X6_drop rfl rfl rfl (by decide +kernel) ⟨Nat.le_of_ble_eq_true rfl, Nat.le_of_ble_eq_true rfl⟩) (r_preV hKK hP (show qk 48 = 6 from rfl) rfl) rfl rfl hl.1 rfl (lv_room (Nat.le_of_ble_eq_true rfl)) dL_law_350 ⟨by show (c0 + 1) + 0 ≤ 601024; omega, by show (s0 + 6) + 0 ≤ 7293034; omega⟩) (fun H locs hP hS => ?_)
      refine lv_istore (lv' := [(6, .int q14.1), (0, .ref b), (1, .ref (ad 0)), (2, .ref (ad 48)), (3, .ref (ad 67)), (4, .int vi), (5, .int q7.1)]) hx hb dL_law_353 hl (by decide) rfl (fun ls hl => ?_)
      refine lv_aload_n hx hb dL_law_355 rfl (lv_at hl 3 rfl) ?_
      obtain ⟨v16, h15, hf⟩ := bd_e hf
      refine r_ci hS (va_runV (As := []) (rest := []) ⟨hx, hb, hml, hown, hts⟩ (m_X6_thrown l D ca ad hj q14.2 _ h15 H.size) (cwV 0 hts gL_law_X6_thrown rfl rfl rfl (by decide +kernel) ⟨Nat.le_of_ble_eq_true rfl, Nat.le_of_ble_eq_true rfl⟩) (r_preV hKK hP (show qk 48 = 6 from rfl) rfl) rfl rfl hl.1 rfl (lv_room (Nat.le_of_ble_eq_true rfl)) dL_law_356 ⟨by show (c0 + 1) + 0 ≤ 601024; omega, by show (s0 + 6) + 0 ≤ 7293034; omega⟩) (fun H locs hP hS => ?_)
      refine lv_iload hx hb dL_law_359 (lv_at hl 6 rfl) ?_
      refine lv_icmp_eq (tgt := 366) hx hb dL_law_361 (by decide) (fun w => ?_) (fun w => ?_)
      · have hf := if_t w hf
        refine lv_iload hx hb dL_law_366 (lv_at hl 6 rfl) ?_
        refine lv_if_ne (tgt := 390) hx hb dL_law_368 (by decide) (fun w => ?_) (fun w => ?_)
        · have hf := if_f w hf
          refine lv_goto (tgt := 1032) hx hb dL_law_390 (by decide) ?_
          obtain rfl := Option.some.inj hf
          exact kk _ _ _ hP hS (lv_sub hl [1, 2, 3, 4, 5] rfl)
        · have hf := if_t w hf
          refine lv_aload_n hx hb dL_law_371 rfl (lv_at hl 4 rfl) ?_
          refine lv_iconst (v := 0) hx hb dL_law_372 (by decide) ?_
          refine r_lald hx hb hKK hP dL_law_373 ?_
          refine lv_iload hx hb dL_law_374 (lv_at hl 0 rfl) ?_
          obtain ⟨q17, hq17, hf⟩ := bd_e hf
          have J3 : ∀ (H : Heap) (locs : List Loc) (ls : Array Slot), va_P D vwCl (wd ca ad q14.2) H → va_S (Aq ad s.heap.size) s.heap H locs → lv_has ls 7 [(0, .ref b), (1, .ref (ad 0)), (2, .ref (ad 48)), (3, .ref (ad 67)), (4, .int vi)] → W p l e room_1 s m #[Value.ref b] below meth c H locs (c0 + 1) (s0 + 6) (lw_Z below #[Value.ref b] s) (F0 m 384 ls [.long q17, .long (q14.2.2 67)]) := by
            intro H locs ls hP hS hl
            refine W.lcmp hx hb dL_law_384 ?_
            refine lv_if_eq (tgt := 390) hx hb dL_law_385 (by decide) (fun w => ?_) (fun w => ?_)
            · have hf := if_t w hf
              refine lv_goto (tgt := 1032) hx hb dL_law_390 (by decide) ?_
              obtain rfl := Option.some.inj hf
              exact kk _ _ _ hP hS (lv_sub hl [0, 1, 2, 3, 4] rfl)
            · have hf := if_f w hf
              refine lv_iconst (v := 0) hx hb dL_law_388 (by decide) ?_
              cases hf
          replace hf := hq17
          refine lv_if_eq (tgt := 383) hx hb dL_law_376 (by decide) (fun w => ?_) (fun w => ?_)
          · have hf := if_t w hf
            refine lv_lconst (v := 0) hx hb dL_law_383 rfl ?_
            obtain rfl := Option.some.inj hf
            exact J3 _ _ _ hP hS (lv_sub hl [1, 2, 3, 4, 5] rfl)
          · have hf := if_f w hf
            refine lv_lconst (v := 1) hx hb dL_law_379 rfl ?_
            refine lv_goto (tgt := 384) hx hb dL_law_380 (by decide) ?_
            obtain rfl := Option.some.inj hf
            exact J3 _ _ _ hP hS (lv_sub hl [1, 2, 3, 4, 5] rfl)
      · have hf := if_f w hf
        refine lv_iconst (v := 0) hx hb dL_law_364 (by decide) ?_
        cases hf
    replace hf := hq12
    refine lv_if_eq (tgt := 349) hx hb dL_law_342 (by decide) (fun w => ?_) (fun w => ?_)
    · have hf := if_t w hf
      refine lv_iconst (v := 0) hx hb dL_law_349 (by decide) ?_
      obtain rfl := Option.some.inj hf
      exact J2 _ _ _ hP hS (lv_sub hl [1, 2, 3, 4, 5, 0] rfl)
    · have hf := if_f w hf
      refine lv_iconst (v := 1) hx hb dL_law_345 (by decide) ?_
      refine lv_goto (tgt := 350) hx hb dL_law_346 (by decide) ?_
      obtain rfl := Option.some.inj hf
      exact J2 _ _ _ hP hS (lv_sub hl [1, 2, 3, 4, 5, 0] rfl)
  replace hf := hq5
  refine lv_if_eq (tgt := 322) hx hb dL_law_315 (by decide) (fun w => ?_) (fun w => ?_)
  · have hf := if_t w hf
    refine lv_iconst (v := 0) hx hb dL_law_322 (by decide) ?_
    obtain rfl := Option.some.inj hf
    exact J1 _ _ _ hP hS (lv_sub hl [0, 1, 2, 3, 4] rfl)
  · have hf := if_f w hf
    refine lv_iconst (v := 1) hx hb dL_law_318 (by decide) ?_
    refine lv_goto (tgt := 323) hx hb dL_law_319 (by decide) ?_
    obtain rfl := Option.some.inj hf
    exact J1 _ _ _ hP hS (lv_sub hl [0, 1, 2, 3, 4] rfl)
set_option maxRecDepth 100000 in
set_option maxHeartbeats 4000000 in
theorem law_c3 (hst : l.stackTraces = false) (hj : Inj ad) (hx : p.tables.exec = Jvm.exec) (hb : c.code = cL_law) (hml : c.maxLocals = 7) (hown : s.vm.findClass RL = some m.cls) (hts : ∀ w ∈ wzL_law, w.before #[Value.ref b] s = true) (hX : va_X b L xs s s.heap) (hbl : b < s.heap.size) (hbA : ¬ Aq ad s.heap.size b) (hKK : KK D ca s) (hE : EX (Aq ad s.heap.size) s s.heap) (hN : NC s) {c0 s0 : Nat} (hC : c0 + 16 ≤ 601024) (hSl : s0 + 96 ≤ 7293034) (vi : Int32) (S o : QS) (hf : st_law_3 L xs vi S = some o)
    (kk : ∀ (H : Heap) (locs : List Loc) (ls : Array Slot), va_P D vwCl (wd ca ad o) H → va_S (Aq ad s.heap.size) s.heap H locs → lv_has ls 7 [(0, .ref b), (1, .ref (ad 0)), (2, .ref (ad 48)), (3, .ref (ad 67)), (4, .int vi)] → W p l e room_1 s m #[Value.ref b] below meth c H locs (c0 + 4) (s0 + 24) (lw_Z below #[Value.ref b] s) (F0 m 1032 ls []))
    (H : Heap) (locs : List Loc) (ls : Array Slot) (hP : va_P D vwCl (wd ca ad S) H) (hS : va_S (Aq ad s.heap.size) s.heap H locs) (hl : lv_has ls 7 [(0, .ref b), (1, .ref (ad 0)), (2, .ref (ad 48)), (3, .ref (ad 67)), (4, .int vi)]) : W p l e room_1 s m #[Value.ref b] below meth c H locs c0 s0 (lw_Z below #[Value.ref b] s) (F0 m 393 ls []) := by
  unfold st_law_3 at hf
  refine lv_aload_n hx hb dL_law_393 rfl (lv_at hl 1 rfl) ?_
  refine lv_aload_n hx hb dL_law_394 rfl (lv_at hl 0 rfl) ?_
  refine lv_iload hx hb dL_law_395 (lv_at hl 4 rfl) ?_
  refine lv_iconst (v := 1) hx hb dL_law_397 (by decide) ?_
  refine lv_iadd hx hb dL_law_398 ?_
  obtain ⟨v1, h2, hf⟩ := bd_e hf
  obtain ⟨h2z, h2e⟩ := q_rdX h2
  refine va_sld hx hb hX hbl hbA hS h2z dL_law_399 ?_
  rw [← h2e]
  refine lv_aload_n hx hb dL_law_400 rfl (lv_at hl 0 rfl) ?_
  refine lv_iload hx hb dL_law_401 (lv_at hl 4 rfl) ?_
  refine lv_iconst (v := 2) hx hb dL_law_403 (by decide) ?_
  refine lv_iadd hx hb dL_law_404 ?_
  obtain ⟨v3, h4, hf⟩ := bd_e hf
  obtain ⟨h4z, h4e⟩ := q_rdX h4
  refine va_sld hx hb hX hbl hbA hS h4z dL_law_405 ?_
  rw [← h4e]
  refine lv_aload_n hx hb dL_law_406 rfl (lv_at hl 0 rfl) ?_
  refine lv_iload hx hb dL_law_407 (lv_at hl 4 rfl) ?_
  refine lv_iconst (v := 3) hx hb dL_law_409 (by decide) ?_
  refine lv_iadd hx hb dL_law_410 ?_
  obtain ⟨v5, h6, hf⟩ := bd_e hf
  obtain ⟨h6z, h6e⟩ := q_rdX h6
  refine va_sld hx hb hX hbl hbA hS h6z dL_law_411 ?_
  rw [← h6e]
  refine lv_aload_n hx hb dL_law_412 rfl (lv_at hl 0 rfl) ?_
  refine lv_iload hx hb dL_law_413 (lv_at hl 4 rfl) ?_
  refine lv_iconst (v := 4) hx hb dL_law_415 (by decide) ?_
  refine lv_iadd hx hb dL_law_416 ?_
  obtain ⟨v7, h8, hf⟩ := bd_e hf
  obtain ⟨h8z, h8e⟩ := q_rdX h8
  refine va_sld hx hb hX hbl hbA hS h8z dL_law_417 ?_
  rw [← h8e]
  obtain ⟨q10, h9, hf⟩ := bd_e hf
  refine r_cq hS (vx_runSW (As := [.ref (ad 0), .int v1, .int v3, .int v5, .int v7]) (rest := []) ⟨hx, hb, hml, hown, hts⟩ (m_L_sure l hst D ca ad hj v1 v3 v5 v7 S _ h9 H.size) (vx_cwSW 5 hts gL_law_L_sure rfl rfl rfl (by decide +kernel) ⟨Nat.le_of_ble_eq_true rfl, Nat.le_of_ble_eq_true rfl⟩) (l_pre hN hE hS hKK hP) rfl rfl hl.1 rfl (lv_room (Nat.le_of_ble_eq_true rfl)) dL_law_418 ⟨by show c0 + 4 ≤ 601024; omega, by show s0 + 24 ≤ 7293034; omega⟩) (fun H locs hP hS => ?_)
  refine lv_istore (lv' := [(5, .int q10.1), (0, .ref b), (1, .ref (ad 0)), (2, .ref (ad 48)), (3, .ref (ad 67)), (4, .int vi)]) hx hb dL_law_421 hl (by decide) rfl (fun ls hl => ?_)
  refine lv_aload_n hx hb dL_law_423 rfl (lv_at hl 3 rfl) ?_
  refine lv_aload_n hx hb dL_law_424 rfl (lv_at hl 1 rfl) ?_
  refine lv_iload hx hb dL_law_425 (lv_at hl 5 rfl) ?_
  refine lv_iconst (v := 1) hx hb dL_law_427 (by decide) ?_
  refine lv_iadd hx hb dL_law_428 ?_
  obtain ⟨v11, h12, hf⟩ := bd_e hf
  obtain ⟨h12z, h12e⟩ := q_rdX h12
  refine va_sld hx hb hX hbl hbA hS h12z dL_law_429 ?_
  rw [← h12e]
  refine lv_aload_n hx hb dL_law_430 rfl (lv_at hl 1 rfl) ?_
  refine lv_iload hx hb dL_law_431 (lv_at hl 5 rfl) ?_
  refine lv_iconst (v := 2) hx hb dL_law_433 (by decide) ?_
  refine lv_iadd hx hb dL_law_434 ?_
  obtain ⟨v13, h14, hf⟩ := bd_e hf
  obtain ⟨h14z, h14e⟩ := q_rdX h14
  refine va_sld hx hb hX hbl hbA hS h14z dL_law_435 ?_
  rw [← h14e]
  refine lv_aload_n hx hb dL_law_436 rfl (lv_at hl 1 rfl) ?_
  refine lv_iload hx hb dL_law_437 (lv_at hl 5 rfl) ?_
  refine lv_iconst (v := 3) hx hb dL_law_439 (by decide) ?_
  refine lv_iadd hx hb dL_law_440 ?_
  obtain ⟨v15, h16, hf⟩ := bd_e hf
  obtain ⟨h16z, h16e⟩ := q_rdX h16
  refine va_sld hx hb hX hbl hbA hS h16z dL_law_441 ?_
  rw [← h16e]
  refine lv_aload_n hx hb dL_law_442 rfl (lv_at hl 1 rfl) ?_
  refine lv_iload hx hb dL_law_443 (lv_at hl 5 rfl) ?_
  refine lv_iconst (v := 4) hx hb dL_law_445 (by decide) ?_
  refine lv_iadd hx hb dL_law_446 ?_
  obtain ⟨v17, h18, hf⟩ := bd_e hf
  obtain ⟨h18z, h18e⟩ := q_rdX h18
  refine va_sld hx hb hX hbl hbA hS h18z dL_law_447 ?_
  rw [← h18e]
  obtain ⟨S20, h19, hf⟩ := bd_e hf
  refine r_cv hS (va_runV (As := [.int v11, .int v13, .int v15, .int v17]) (rest := []) ⟨hx, hb, hml, hown, hts⟩ (m_X6_sure l D ca ad hj v11 v13 v15 v17 q10.2 _ h19 H.size) (cwV 4 hts gL_law_X6_sure rfl rfl rfl (by decide +kernel) ⟨Nat.le_of_ble_eq_true rfl, Nat.le_of_ble_eq_true rfl⟩) (r_preV hKK hP (show qk 48 = 6 from rfl) rfl) rfl rfl hl.1 rfl (lv_room (Nat.le_of_ble_eq_true rfl)) dL_law_448 ⟨by show (c0 + 4) + 0 ≤ 601024; omega, by show (s0 + 24) + 0 ≤ 7293034; omega⟩) (fun H locs hP hS => ?_)
  refine lv_aload_n hx hb dL_law_451 rfl (lv_at hl 3 rfl) ?_
  obtain ⟨v22, h21, hf⟩ := bd_e hf
  refine r_ci hS (va_runV (As := []) (rest := []) ⟨hx, hb, hml, hown, hts⟩ (m_X6_thrown l D ca ad hj S20 _ h21 H.size) (cwV 0 hts gL_law_X6_thrown rfl rfl rfl (by decide +kernel) ⟨Nat.le_of_ble_eq_true rfl, Nat.le_of_ble_eq_true rfl⟩) (r_preV hKK hP (show qk 48 = 6 from rfl) rfl) rfl rfl hl.1 rfl (lv_room (Nat.le_of_ble_eq_true rfl)) dL_law_452 ⟨by show (c0 + 4) + 0 ≤ 601024; omega, by show (s0 + 24) + 0 ≤ 7293034; omega⟩) (fun H locs hP hS => ?_)
  refine lv_iload hx hb dL_law_455 (lv_at hl 0 rfl) ?_
  refine lv_icmp_eq (tgt := 462) hx hb dL_law_457 (by decide) (fun w => ?_) (fun w => ?_)
  · have hf := if_t w hf
    refine lv_goto (tgt := 1032) hx hb dL_law_462 (by decide) ?_
    obtain rfl := Option.some.inj hf
    exact kk _ _ _ hP hS (lv_sub hl [1, 2, 3, 4, 5] rfl)
  · have hf := if_f w hf
    refine lv_iconst (v := 0) hx hb dL_law_460 (by decide) ?_
    cases hf
set_option maxRecDepth 100000 in
set_option maxHeartbeats 4000000 in
theorem law_c4 (hst : l.stackTraces = false) (hj : Inj ad) (hx : p.tables.exec = Jvm.exec) (hb : c.code = cL_law) (hml : c.maxLocals = 7) (hown : s.vm.findClass RL = some m.cls) (hts : ∀ w ∈ wzL_law, w.before #[Value.ref b] s = true) (hX : va_X b L xs s s.heap) (hbl : b < s.heap.size) (hbA : ¬ Aq ad s.heap.size b) (hKK : KK D ca s) (hE : EX (Aq ad s.heap.size) s s.heap) (hN : NC s) {c0 s0 : Nat} (hC : c0 + 16 ≤ 601024) (hSl : s0 + 96 ≤ 7293034) (vi : Int32) (S o : QS) (hf : st_law_4 L xs vi S = some o)
    (kk : ∀ (H : Heap) (locs : List Loc) (ls : Array Slot), va_P D vwCl (wd ca ad o) H → va_S (Aq ad s.heap.size) s.heap H locs → lv_has ls 7 [(0, .ref b), (1, .ref (ad 0)), (2, .ref (ad 48)), (3, .ref (ad 67)), (4, .int vi)] → W p l e room_1 s m #[Value.ref b] below meth c H locs (c0 + 4) (s0 + 24) (lw_Z below #[Value.ref b] s) (F0 m 1032 ls []))
    (H : Heap) (locs : List Loc) (ls : Array Slot) (hP : va_P D vwCl (wd ca ad S) H) (hS : va_S (Aq ad s.heap.size) s.heap H locs) (hl : lv_has ls 7 [(0, .ref b), (1, .ref (ad 0)), (2, .ref (ad 48)), (3, .ref (ad 67)), (4, .int vi)]) : W p l e room_1 s m #[Value.ref b] below meth c H locs c0 s0 (lw_Z below #[Value.ref b] s) (F0 m 465 ls []) := by
  unfold st_law_4 at hf
  refine lv_aload_n hx hb dL_law_465 rfl (lv_at hl 1 rfl) ?_
  refine lv_aload_n hx hb dL_law_466 rfl (lv_at hl 0 rfl) ?_
  refine lv_iload hx hb dL_law_467 (lv_at hl 4 rfl) ?_
  refine lv_iconst (v := 1) hx hb dL_law_469 (by decide) ?_
  refine lv_iadd hx hb dL_law_470 ?_
  obtain ⟨v1, h2, hf⟩ := bd_e hf
  obtain ⟨h2z, h2e⟩ := q_rdX h2
  refine va_sld hx hb hX hbl hbA hS h2z dL_law_471 ?_
  rw [← h2e]
  refine lv_aload_n hx hb dL_law_472 rfl (lv_at hl 0 rfl) ?_
  refine lv_iload hx hb dL_law_473 (lv_at hl 4 rfl) ?_
  refine lv_iconst (v := 2) hx hb dL_law_475 (by decide) ?_
  refine lv_iadd hx hb dL_law_476 ?_
  obtain ⟨v3, h4, hf⟩ := bd_e hf
  obtain ⟨h4z, h4e⟩ := q_rdX h4
  refine va_sld hx hb hX hbl hbA hS h4z dL_law_477 ?_
  rw [← h4e]
  refine lv_aload_n hx hb dL_law_478 rfl (lv_at hl 0 rfl) ?_
  refine lv_iload hx hb dL_law_479 (lv_at hl 4 rfl) ?_
  refine lv_iconst (v := 3) hx hb dL_law_481 (by decide) ?_
  refine lv_iadd hx hb dL_law_482 ?_
  obtain ⟨v5, h6, hf⟩ := bd_e hf
  obtain ⟨h6z, h6e⟩ := q_rdX h6
  refine va_sld hx hb hX hbl hbA hS h6z dL_law_483 ?_
  rw [← h6e]
  refine lv_aload_n hx hb dL_law_484 rfl (lv_at hl 0 rfl) ?_
  refine lv_iload hx hb dL_law_485 (lv_at hl 4 rfl) ?_
  refine lv_iconst (v := 4) hx hb dL_law_487 (by decide) ?_
  refine lv_iadd hx hb dL_law_488 ?_
  obtain ⟨v7, h8, hf⟩ := bd_e hf
  obtain ⟨h8z, h8e⟩ := q_rdX h8
  refine va_sld hx hb hX hbl hbA hS h8z dL_law_489 ?_
  rw [← h8e]
  refine lv_aload_n hx hb dL_law_490 rfl (lv_at hl 3 rfl) ?_
  obtain ⟨q10, h9, hf⟩ := bd_e hf
  refine r_cq hS (vx_runSW (As := [.ref (ad 0), .int v1, .int v3, .int v5, .int v7, .ref (ad 67)]) (rest := []) ⟨hx, hb, hml, hown, hts⟩ (m_L_tale l hst D ca ad hj v1 v3 v5 v7 S _ h9 H.size) (vx_cwSW 6 hts gL_law_L_tale rfl rfl rfl (by decide +kernel) ⟨Nat.le_of_ble_eq_true rfl, Nat.le_of_ble_eq_true rfl⟩) (l_pre hN hE hS hKK hP) rfl rfl hl.1 rfl (lv_room (Nat.le_of_ble_eq_true rfl)) dL_law_491 ⟨by show c0 + 4 ≤ 601024; omega, by show s0 + 24 ≤ 7293034; omega⟩) (fun H locs hP hS => ?_)
  refine lv_istore (lv' := [(5, .int q10.1), (0, .ref b), (1, .ref (ad 0)), (2, .ref (ad 48)), (3, .ref (ad 67)), (4, .int vi)]) hx hb dL_law_494 hl (by decide) rfl (fun ls hl => ?_)
  refine lv_aload_n hx hb dL_law_496 rfl (lv_at hl 3 rfl) ?_
  refine lv_aload_n hx hb dL_law_497 rfl (lv_at hl 1 rfl) ?_
  refine lv_iload hx hb dL_law_498 (lv_at hl 5 rfl) ?_
  refine lv_iconst (v := 1) hx hb dL_law_500 (by decide) ?_
  refine lv_iadd hx hb dL_law_501 ?_
  obtain ⟨v11, h12, hf⟩ := bd_e hf
  obtain ⟨h12z, h12e⟩ := q_rdX h12
  refine va_sld hx hb hX hbl hbA hS h12z dL_law_502 ?_
  rw [← h12e]
  refine lv_aload_n hx hb dL_law_503 rfl (lv_at hl 1 rfl) ?_
  refine lv_iload hx hb dL_law_504 (lv_at hl 5 rfl) ?_
  refine lv_iconst (v := 2) hx hb dL_law_506 (by decide) ?_
  refine lv_iadd hx hb dL_law_507 ?_
  obtain ⟨v13, h14, hf⟩ := bd_e hf
  obtain ⟨h14z, h14e⟩ := q_rdX h14
  refine va_sld hx hb hX hbl hbA hS h14z dL_law_508 ?_
  rw [← h14e]
  refine lv_aload_n hx hb dL_law_509 rfl (lv_at hl 1 rfl) ?_
  refine lv_iload hx hb dL_law_510 (lv_at hl 5 rfl) ?_
  refine lv_iconst (v := 3) hx hb dL_law_512 (by decide) ?_
  refine lv_iadd hx hb dL_law_513 ?_
  obtain ⟨v15, h16, hf⟩ := bd_e hf
  obtain ⟨h16z, h16e⟩ := q_rdX h16
  refine va_sld hx hb hX hbl hbA hS h16z dL_law_514 ?_
  rw [← h16e]
  refine lv_aload_n hx hb dL_law_515 rfl (lv_at hl 1 rfl) ?_
  refine lv_iload hx hb dL_law_516 (lv_at hl 5 rfl) ?_
  refine lv_iconst (v := 4) hx hb dL_law_518 (by decide) ?_
  refine lv_iadd hx hb dL_law_519 ?_
  obtain ⟨v17, h18, hf⟩ := bd_e hf
  obtain ⟨h18z, h18e⟩ := q_rdX h18
  refine va_sld hx hb hX hbl hbA hS h18z dL_law_520 ?_
  rw [← h18e]
  obtain ⟨q20, h19, hf⟩ := bd_e hf
  refine r_ci hS (va_runV (As := [.int v11, .int v13, .int v15, .int v17]) (rest := []) ⟨hx, hb, hml, hown, hts⟩ (m_X6_tale l D ca ad hj v11 v13 v15 v17 q10.2 _ h19 H.size) (cwV 4 hts gL_law_X6_tale rfl rfl rfl (by decide +kernel) ⟨Nat.le_of_ble_eq_true rfl, Nat.le_of_ble_eq_true rfl⟩) (r_preV hKK hP (show qk 48 = 6 from rfl) rfl) rfl rfl hl.1 rfl (lv_room (Nat.le_of_ble_eq_true rfl)) dL_law_521 ⟨by show (c0 + 4) + 0 ≤ 601024; omega, by show (s0 + 24) + 0 ≤ 7293034; omega⟩) (fun H locs hP hS => ?_)
  refine lv_istore (lv' := [(6, .int q20.1), (5, .int q10.1), (0, .ref b), (1, .ref (ad 0)), (2, .ref (ad 48)), (3, .ref (ad 67)), (4, .int vi)]) hx hb dL_law_524 hl (by decide) rfl (fun ls hl => ?_)
  refine lv_aload_n hx hb dL_law_526 rfl (lv_at hl 4 rfl) ?_
  obtain ⟨v22, h21, hf⟩ := bd_e hf
  refine r_ci hS (va_runV (As := []) (rest := []) ⟨hx, hb, hml, hown, hts⟩ (m_X6_thrown l D ca ad hj q20.2 _ h21 H.size) (cwV 0 hts gL_law_X6_thrown rfl rfl rfl (by decide +kernel) ⟨Nat.le_of_ble_eq_true rfl, Nat.le_of_ble_eq_true rfl⟩) (r_preV hKK hP (show qk 48 = 6 from rfl) rfl) rfl rfl hl.1 rfl (lv_room (Nat.le_of_ble_eq_true rfl)) dL_law_527 ⟨by show (c0 + 4) + 0 ≤ 601024; omega, by show (s0 + 24) + 0 ≤ 7293034; omega⟩) (fun H locs hP hS => ?_)
  refine lv_iload hx hb dL_law_530 (lv_at hl 1 rfl) ?_
  refine lv_icmp_eq (tgt := 537) hx hb dL_law_532 (by decide) (fun w => ?_) (fun w => ?_)
  · have hf := if_t w hf
    refine lv_iload hx hb dL_law_537 (lv_at hl 1 rfl) ?_
    refine lv_if_ne (tgt := 554) hx hb dL_law_539 (by decide) (fun w => ?_) (fun w => ?_)
    · have hf := if_f w hf
      refine lv_goto (tgt := 1032) hx hb dL_law_554 (by decide) ?_
      obtain rfl := Option.some.inj hf
      exact kk _ _ _ hP hS (lv_sub hl [2, 3, 4, 5, 6] rfl)
    · have hf := if_t w hf
      refine lv_aload_n hx hb dL_law_542 rfl (lv_at hl 5 rfl) ?_
      refine lv_iconst (v := 0) hx hb dL_law_543 (by decide) ?_
      refine r_lald hx hb hKK hP dL_law_544 ?_
      refine lv_iload hx hb dL_law_545 (lv_at hl 0 rfl) ?_
      refine lv_i2l (v := q20.1.toInt64) hx hb dL_law_547 rfl ?_
      refine W.lcmp hx hb dL_law_548 ?_
      refine lv_if_eq (tgt := 554) hx hb dL_law_549 (by decide) (fun w => ?_) (fun w => ?_)
      · have hf := if_t w hf
        refine lv_goto (tgt := 1032) hx hb dL_law_554 (by decide) ?_
        obtain rfl := Option.some.inj hf
        exact kk _ _ _ hP hS (lv_sub hl [2, 3, 4, 5, 6] rfl)
      · have hf := if_f w hf
        refine lv_iconst (v := 0) hx hb dL_law_552 (by decide) ?_
        cases hf
  · have hf := if_f w hf
    refine lv_iconst (v := 0) hx hb dL_law_535 (by decide) ?_
    cases hf
set_option maxRecDepth 100000 in
set_option maxHeartbeats 4000000 in
theorem law_c5 (hst : l.stackTraces = false) (hj : Inj ad) (hx : p.tables.exec = Jvm.exec) (hb : c.code = cL_law) (hml : c.maxLocals = 7) (hown : s.vm.findClass RL = some m.cls) (hts : ∀ w ∈ wzL_law, w.before #[Value.ref b] s = true) (hX : va_X b L xs s s.heap) (hbl : b < s.heap.size) (hbA : ¬ Aq ad s.heap.size b) (hKK : KK D ca s) (hE : EX (Aq ad s.heap.size) s s.heap) (hN : NC s) {c0 s0 : Nat} (hC : c0 + 16 ≤ 601024) (hSl : s0 + 96 ≤ 7293034) (vi : Int32) (S o : QS) (hf : st_law_5 L xs vi S = some o)
    (kk : ∀ (H : Heap) (locs : List Loc) (ls : Array Slot), va_P D vwCl (wd ca ad o) H → va_S (Aq ad s.heap.size) s.heap H locs → lv_has ls 7 [(0, .ref b), (1, .ref (ad 0)), (2, .ref (ad 48)), (3, .ref (ad 67)), (4, .int vi)] → W p l e room_1 s m #[Value.ref b] below meth c H locs c0 s0 (lw_Z below #[Value.ref b] s) (F0 m 1032 ls []))
    (H : Heap) (locs : List Loc) (ls : Array Slot) (hP : va_P D vwCl (wd ca ad S) H) (hS : va_S (Aq ad s.heap.size) s.heap H locs) (hl : lv_has ls 7 [(0, .ref b), (1, .ref (ad 0)), (2, .ref (ad 48)), (3, .ref (ad 67)), (4, .int vi)]) : W p l e room_1 s m #[Value.ref b] below meth c H locs c0 s0 (lw_Z below #[Value.ref b] s) (F0 m 557 ls []) := by
  unfold st_law_5 at hf
  refine lv_aload_n hx hb dL_law_557 rfl (lv_at hl 1 rfl) ?_
  obtain ⟨q2, h1, hf⟩ := bd_e hf
  refine r_ci hS (va_runV (As := []) (rest := []) ⟨hx, hb, hml, hown, hts⟩ (m_X5_hush l D ca ad hj S _ h1 H.size) (cwV 0 hts gL_law_X5_hush rfl rfl rfl (by decide +kernel) ⟨Nat.le_of_ble_eq_true rfl, Nat.le_of_ble_eq_true rfl⟩) (r_preV hKK hP (show qk 0 = 5 from rfl) rfl) rfl rfl hl.1 rfl (lv_room (Nat.le_of_ble_eq_true rfl)) dL_law_558 ⟨by show c0 + 0 ≤ 601024; omega, by show s0 + 0 ≤ 7293034; omega⟩) (fun H locs hP hS => ?_)
  refine lv_aload_n hx hb dL_law_561 rfl (lv_at hl 2 rfl) ?_
  obtain ⟨q4, h3, hf⟩ := bd_e hf
  refine r_ci hS (va_runV (As := []) (rest := [.int q2.1]) ⟨hx, hb, hml, hown, hts⟩ (m_X6_hush l D ca ad hj q2.2 _ h3 H.size) (cwV 0 hts gL_law_X6_hush rfl rfl rfl (by decide +kernel) ⟨Nat.le_of_ble_eq_true rfl, Nat.le_of_ble_eq_true rfl⟩) (r_preV hKK hP (show qk 48 = 6 from rfl) rfl) rfl rfl hl.1 rfl (lv_room (Nat.le_of_ble_eq_true rfl)) dL_law_562 ⟨by show c0 + 0 ≤ 601024; omega, by show s0 + 0 ≤ 7293034; omega⟩) (fun H locs hP hS => ?_)
  refine lv_icmp_eq (tgt := 1032) hx hb dL_law_565 (by decide) (fun w => ?_) (fun w => ?_)
  · have hf := if_t w hf
    obtain rfl := Option.some.inj hf
    exact kk _ _ _ hP hS (lv_sub hl [0, 1, 2, 3, 4] rfl)
  · have hf := if_f w hf
    refine lv_iconst (v := 0) hx hb dL_law_568 (by decide) ?_
    cases hf
set_option maxRecDepth 100000 in
set_option maxHeartbeats 4000000 in
theorem law_c6 (hst : l.stackTraces = false) (hj : Inj ad) (hx : p.tables.exec = Jvm.exec) (hb : c.code = cL_law) (hml : c.maxLocals = 7) (hown : s.vm.findClass RL = some m.cls) (hts : ∀ w ∈ wzL_law, w.before #[Value.ref b] s = true) (hX : va_X b L xs s s.heap) (hbl : b < s.heap.size) (hbA : ¬ Aq ad s.heap.size b) (hKK : KK D ca s) (hE : EX (Aq ad s.heap.size) s s.heap) (hN : NC s) {c0 s0 : Nat} (hC : c0 + 16 ≤ 601024) (hSl : s0 + 96 ≤ 7293034) (vi : Int32) (S o : QS) (hf : st_law_6 L xs vi S = some o)
    (kk : ∀ (H : Heap) (locs : List Loc) (ls : Array Slot), va_P D vwCl (wd ca ad o) H → va_S (Aq ad s.heap.size) s.heap H locs → lv_has ls 7 [(0, .ref b), (1, .ref (ad 0)), (2, .ref (ad 48)), (3, .ref (ad 67)), (4, .int vi)] → W p l e room_1 s m #[Value.ref b] below meth c H locs c0 s0 (lw_Z below #[Value.ref b] s) (F0 m 1032 ls []))
    (H : Heap) (locs : List Loc) (ls : Array Slot) (hP : va_P D vwCl (wd ca ad S) H) (hS : va_S (Aq ad s.heap.size) s.heap H locs) (hl : lv_has ls 7 [(0, .ref b), (1, .ref (ad 0)), (2, .ref (ad 48)), (3, .ref (ad 67)), (4, .int vi)]) : W p l e room_1 s m #[Value.ref b] below meth c H locs c0 s0 (lw_Z below #[Value.ref b] s) (F0 m 570 ls []) := by
  unfold st_law_6 at hf
  refine lv_aload_n hx hb dL_law_570 rfl (lv_at hl 1 rfl) ?_
  obtain ⟨q2, h1, hf⟩ := bd_e hf
  refine r_cl hS (va_runV (As := []) (rest := []) ⟨hx, hb, hml, hown, hts⟩ (m_X5_ways l D ca ad hj S _ h1 H.size) (cwV 0 hts gL_law_X5_ways rfl rfl rfl (by decide +kernel) ⟨Nat.le_of_ble_eq_true rfl, Nat.le_of_ble_eq_true rfl⟩) (r_preV hKK hP (show qk 0 = 5 from rfl) rfl) rfl rfl hl.1 rfl (lv_room (Nat.le_of_ble_eq_true rfl)) dL_law_571 ⟨by show c0 + 0 ≤ 601024; omega, by show s0 + 0 ≤ 7293034; omega⟩) (fun H locs hP hS => ?_)
  refine lv_aload_n hx hb dL_law_574 rfl (lv_at hl 2 rfl) ?_
  obtain ⟨q4, h3, hf⟩ := bd_e hf
  refine r_cl hS (va_runV (As := []) (rest := [.long q2.1]) ⟨hx, hb, hml, hown, hts⟩ (m_X6_ways l D ca ad hj q2.2 _ h3 H.size) (cwV 0 hts gL_law_X6_ways rfl rfl rfl (by decide +kernel) ⟨Nat.le_of_ble_eq_true rfl, Nat.le_of_ble_eq_true rfl⟩) (r_preV hKK hP (show qk 48 = 6 from rfl) rfl) rfl rfl hl.1 rfl (lv_room (Nat.le_of_ble_eq_true rfl)) dL_law_575 ⟨by show c0 + 0 ≤ 601024; omega, by show s0 + 0 ≤ 7293034; omega⟩) (fun H locs hP hS => ?_)
  refine W.lcmp hx hb dL_law_578 ?_
  refine lv_if_eq (tgt := 1032) hx hb dL_law_579 (by decide) (fun w => ?_) (fun w => ?_)
  · have hf := if_t w hf
    obtain rfl := Option.some.inj hf
    exact kk _ _ _ hP hS (lv_sub hl [0, 1, 2, 3, 4] rfl)
  · have hf := if_f w hf
    refine lv_iconst (v := 0) hx hb dL_law_582 (by decide) ?_
    cases hf
set_option maxRecDepth 100000 in
set_option maxHeartbeats 4000000 in
theorem law_c7 (hst : l.stackTraces = false) (hj : Inj ad) (hx : p.tables.exec = Jvm.exec) (hb : c.code = cL_law) (hml : c.maxLocals = 7) (hown : s.vm.findClass RL = some m.cls) (hts : ∀ w ∈ wzL_law, w.before #[Value.ref b] s = true) (hX : va_X b L xs s s.heap) (hbl : b < s.heap.size) (hbA : ¬ Aq ad s.heap.size b) (hKK : KK D ca s) (hE : EX (Aq ad s.heap.size) s s.heap) (hN : NC s) {c0 s0 : Nat} (hC : c0 + 16 ≤ 601024) (hSl : s0 + 96 ≤ 7293034) (vi : Int32) (S o : QS) (hf : st_law_7 L xs vi S = some o)
    (kk : ∀ (H : Heap) (locs : List Loc) (ls : Array Slot), va_P D vwCl (wd ca ad o) H → va_S (Aq ad s.heap.size) s.heap H locs → lv_has ls 7 [(0, .ref b), (1, .ref (ad 0)), (2, .ref (ad 48)), (3, .ref (ad 67)), (4, .int vi)] → W p l e room_1 s m #[Value.ref b] below meth c H locs (c0 + 4) (s0 + 24) (lw_Z below #[Value.ref b] s) (F0 m 1032 ls []))
    (H : Heap) (locs : List Loc) (ls : Array Slot) (hP : va_P D vwCl (wd ca ad S) H) (hS : va_S (Aq ad s.heap.size) s.heap H locs) (hl : lv_has ls 7 [(0, .ref b), (1, .ref (ad 0)), (2, .ref (ad 48)), (3, .ref (ad 67)), (4, .int vi)]) : W p l e room_1 s m #[Value.ref b] below meth c H locs c0 s0 (lw_Z below #[Value.ref b] s) (F0 m 584 ls []) := by
  unfold st_law_7 at hf
  refine lv_aload_n hx hb dL_law_584 rfl (lv_at hl 1 rfl) ?_
  refine lv_aload_n hx hb dL_law_585 rfl (lv_at hl 0 rfl) ?_
  refine lv_iload hx hb dL_law_586 (lv_at hl 4 rfl) ?_
  refine lv_iconst (v := 1) hx hb dL_law_588 (by decide) ?_
  refine lv_iadd hx hb dL_law_589 ?_
  obtain ⟨v1, h2, hf⟩ := bd_e hf
  obtain ⟨h2z, h2e⟩ := q_rdX h2
  refine va_sld hx hb hX hbl hbA hS h2z dL_law_590 ?_
  rw [← h2e]
  refine lv_aload_n hx hb dL_law_591 rfl (lv_at hl 0 rfl) ?_
  refine lv_iload hx hb dL_law_592 (lv_at hl 4 rfl) ?_
  refine lv_iconst (v := 2) hx hb dL_law_594 (by decide) ?_
  refine lv_iadd hx hb dL_law_595 ?_
  obtain ⟨v3, h4, hf⟩ := bd_e hf
  obtain ⟨h4z, h4e⟩ := q_rdX h4
  refine va_sld hx hb hX hbl hbA hS h4z dL_law_596 ?_
  rw [← h4e]
  refine lv_aload_n hx hb dL_law_597 rfl (lv_at hl 0 rfl) ?_
  refine lv_iload hx hb dL_law_598 (lv_at hl 4 rfl) ?_
  refine lv_iconst (v := 3) hx hb dL_law_600 (by decide) ?_
  refine lv_iadd hx hb dL_law_601 ?_
  obtain ⟨v5, h6, hf⟩ := bd_e hf
  obtain ⟨h6z, h6e⟩ := q_rdX h6
  refine va_sld hx hb hX hbl hbA hS h6z dL_law_602 ?_
  rw [← h6e]
  obtain ⟨q7, hq7, hf⟩ := bd_e hf
  have J1 : ∀ (H : Heap) (locs : List Loc) (ls : Array Slot), va_P D vwCl (wd ca ad S) H → va_S (Aq ad s.heap.size) s.heap H locs → lv_has ls 7 [(0, .ref b), (1, .ref (ad 0)), (2, .ref (ad 48)), (3, .ref (ad 67)), (4, .int vi)] → W p l e room_1 s m #[Value.ref b] below meth c H locs c0 s0 (lw_Z below #[Value.ref b] s) (F0 m 611 ls [.int q7, .int v3, .int v1, .ref (ad 0)]) := by
    intro H locs ls hP hS hl
    refine lv_aload_n hx hb dL_law_611 rfl (lv_at hl 0 rfl) ?_
    refine lv_iload hx hb dL_law_612 (lv_at hl 4 rfl) ?_
    refine lv_iconst (v := 4) hx hb dL_law_614 (by decide) ?_
    refine lv_iadd hx hb dL_law_615 ?_
    obtain ⟨v8, h9, hf⟩ := bd_e hf
    obtain ⟨h9z, h9e⟩ := q_rdX h9
    refine va_sld hx hb hX hbl hbA hS h9z dL_law_616 ?_
    rw [← h9e]
    obtain ⟨q10, hq10, hf⟩ := bd_e hf
    have J2 : ∀ (H : Heap) (locs : List Loc) (ls : Array Slot), va_P D vwCl (wd ca ad S) H → va_S (Aq ad s.heap.size) s.heap H locs → lv_has ls 7 [(0, .ref b), (1, .ref (ad 0)), (2, .ref (ad 48)), (3, .ref (ad 67)), (4, .int vi)] → W p l e room_1 s m #[Value.ref b] below meth c H locs c0 s0 (lw_Z below #[Value.ref b] s) (F0 m 625 ls [.int q10, .int q7, .int v3, .int v1, .ref (ad 0)]) := by
      intro H locs ls hP hS hl
      refine lv_aload_n hx hb dL_law_625 rfl (lv_at hl 3 rfl) ?_
      obtain ⟨q12, h11, hf⟩ := bd_e hf
      refine r_cq hS (vx_runSW (As := [.ref (ad 0), .int v1, .int v3, .int q7, .int q10, .ref (ad 67)]) (rest := []) ⟨hx, hb, hml, hown, hts⟩ (m_L_span l hst D ca ad hj v1 v3 q7 q10 S _ h11 H.size) (vx_cwSW 6 hts gL_law_L_span rfl rfl rfl (by decide +kernel) ⟨Nat.le_of_ble_eq_true rfl, Nat.le_of_ble_eq_true rfl⟩) (l_pre hN hE hS hKK hP) rfl rfl hl.1 rfl (lv_room (Nat.le_of_ble_eq_true rfl)) dL_law_626 ⟨by show c0 + 4 ≤ 601024; omega, by show s0 + 24 ≤ 7293034; omega⟩) (fun H locs hP hS => ?_)
      refine lv_istore (lv' := [(5, .int q12.1), (0, .ref b), (1, .ref (ad 0)), (2, .ref (ad 48)), (3, .ref (ad 67)), (4, .int vi)]) hx hb dL_law_629 hl (by decide) rfl (fun ls hl => ?_)
      refine lv_aload_n hx hb dL_law_631 rfl (lv_at hl 3 rfl) ?_
      refine lv_aload_n hx hb dL_law_632 rfl (lv_at hl 1 rfl) ?_
      refine lv_iload hx hb dL_law_633 (lv_at hl 5 rfl) ?_
      refine lv_iconst (v := 1) hx hb dL_law_635 (by decide) ?_
      refine lv_iadd hx hb dL_law_636 ?_
      obtain ⟨v13, h14, hf⟩ := bd_e hf
      obtain ⟨h14z, h14e⟩ := q_rdX h14
      refine va_sld hx hb hX hbl hbA hS h14z dL_law_637 ?_
      rw [← h14e]
      refine lv_aload_n hx hb dL_law_638 rfl (lv_at hl 1 rfl) ?_
      refine lv_iload hx hb dL_law_639 (lv_at hl 5 rfl) ?_
      refine lv_iconst (v := 2) hx hb dL_law_641 (by decide) ?_
      refine lv_iadd hx hb dL_law_642 ?_
      obtain ⟨v15, h16, hf⟩ := bd_e hf
      obtain ⟨h16z, h16e⟩ := q_rdX h16
      refine va_sld hx hb hX hbl hbA hS h16z dL_law_643 ?_
      rw [← h16e]
      refine lv_aload_n hx hb dL_law_644 rfl (lv_at hl 1 rfl) ?_
      refine lv_iload hx hb dL_law_645 (lv_at hl 5 rfl) ?_
      refine lv_iconst (v := 3) hx hb dL_law_647 (by decide) ?_
      refine lv_iadd hx hb dL_law_648 ?_
      obtain ⟨v17, h18, hf⟩ := bd_e hf
      obtain ⟨h18z, h18e⟩ := q_rdX h18
      refine va_sld hx hb hX hbl hbA hS h18z dL_law_649 ?_
      rw [← h18e]
      obtain ⟨q19, hq19, hf⟩ := bd_e hf
      have J3 : ∀ (H : Heap) (locs : List Loc) (ls : Array Slot), va_P D vwCl (wd ca ad q12.2) H → va_S (Aq ad s.heap.size) s.heap H locs → lv_has ls 7 [(0, .ref b), (1, .ref (ad 0)), (2, .ref (ad 48)), (3, .ref (ad 67)), (4, .int vi), (5, .int q12.1)] → W p l e room_1 s m #[Value.ref b] below meth c H locs (c0 + 4) (s0 + 24) (lw_Z below #[Value.ref b] s) (F0 m 658 ls [.int q19, .int v15, .int v13, .ref (ad 48)]) := by
        intro H locs ls hP hS hl
        refine lv_aload_n hx hb dL_law_658 rfl (lv_at hl 0 rfl) ?_
        refine lv_iload hx hb dL_law_659 (lv_at hl 4 rfl) ?_
        refine lv_iconst (v := 4) hx hb dL_law_661 (by decide) ?_
        refine lv_iadd hx hb dL_law_662 ?_
        obtain ⟨v20, h21, hf⟩ := bd_e hf
        obtain ⟨h21z, h21e⟩ := q_rdX h21
        refine va_sld hx hb hX hbl hbA hS h21z dL_law_663 ?_
        rw [← h21e]
        obtain ⟨q22, hq22, hf⟩ := bd_e hf
        have J4 : ∀ (H : Heap) (locs : List Loc) (ls : Array Slot), va_P D vwCl (wd ca ad q12.2) H → va_S (Aq ad s.heap.size) s.heap H locs → lv_has ls 7 [(0, .ref b), (1, .ref (ad 0)), (2, .ref (ad 48)), (3, .ref (ad 67)), (4, .int vi), (5, .int q12.1)] → W p l e room_1 s m #[Value.ref b] below meth c H locs (c0 + 4) (s0 + 24) (lw_Z below #[Value.ref b] s) (F0 m 672 ls [.int q22, .int q19, .int v15, .int v13, .ref (ad 48)]) := by
          intro H locs ls hP hS hl
          obtain ⟨q24, h23, hf⟩ := bd_e hf
          refine r_ci hS (va_runV (As := [.int v13, .int v15, .int q19, .int q22]) (rest := []) ⟨hx, hb, hml, hown, hts⟩ (m_X6_span l D ca ad hj v13 v15 q19 q22 q12.2 _ h23 H.size) (cwV 4 hts gL_law_X6_span rfl rfl rfl (by decide +kernel) ⟨Nat.le_of_ble_eq_true rfl, Nat.le_of_ble_eq_true rfl⟩) (r_preV hKK hP (show qk 48 = 6 from rfl) rfl) rfl rfl hl.1 rfl (lv_room (Nat.le_of_ble_eq_true rfl)) dL_law_672 ⟨by show (c0 + 4) + 0 ≤ 601024; omega, by show (s0 + 24) + 0 ≤ 7293034; omega⟩) (fun H locs hP hS => ?_)
          refine lv_istore (lv' := [(6, .int q24.1), (0, .ref b), (1, .ref (ad 0)), (2, .ref (ad 48)), (3, .ref (ad 67)), (4, .int vi), (5, .int q12.1)]) hx hb dL_law_675 hl (by decide) rfl (fun ls hl => ?_)
          refine lv_aload_n hx hb dL_law_677 rfl (lv_at hl 3 rfl) ?_
          obtain ⟨v26, h25, hf⟩ := bd_e hf
          refine r_ci hS (va_runV (As := []) (rest := []) ⟨hx, hb, hml, hown, hts⟩ (m_X6_thrown l D ca ad hj q24.2 _ h25 H.size) (cwV 0 hts gL_law_X6_thrown rfl rfl rfl (by decide +kernel) ⟨Nat.le_of_ble_eq_true rfl, Nat.le_of_ble_eq_true rfl⟩) (r_preV hKK hP (show qk 48 = 6 from rfl) rfl) rfl rfl hl.1 rfl (lv_room (Nat.le_of_ble_eq_true rfl)) dL_law_678 ⟨by show (c0 + 4) + 0 ≤ 601024; omega, by show (s0 + 24) + 0 ≤ 7293034; omega⟩) (fun H locs hP hS => ?_)
          refine lv_iload hx hb dL_law_681 (lv_at hl 6 rfl) ?_
          refine lv_icmp_eq (tgt := 688) hx hb dL_law_683 (by decide) (fun w => ?_) (fun w => ?_)
          · have hf := if_t w hf
            refine lv_iload hx hb dL_law_688 (lv_at hl 6 rfl) ?_
            refine lv_if_ne (tgt := 705) hx hb dL_law_690 (by decide) (fun w => ?_) (fun w => ?_)
            · have hf := if_f w hf
              refine lv_goto (tgt := 1032) hx hb dL_law_705 (by decide) ?_
              obtain rfl := Option.some.inj hf
              exact kk _ _ _ hP hS (lv_sub hl [1, 2, 3, 4, 5] rfl)
            · have hf := if_t w hf
              refine lv_aload_n hx hb dL_law_693 rfl (lv_at hl 4 rfl) ?_
              refine lv_iconst (v := 0) hx hb dL_law_694 (by decide) ?_
              refine r_lald hx hb hKK hP dL_law_695 ?_
              refine lv_iload hx hb dL_law_696 (lv_at hl 0 rfl) ?_
              refine lv_i2l (v := q24.1.toInt64) hx hb dL_law_698 rfl ?_
              refine W.lcmp hx hb dL_law_699 ?_
              refine lv_if_eq (tgt := 705) hx hb dL_law_700 (by decide) (fun w => ?_) (fun w => ?_)
              · have hf := if_t w hf
                refine lv_goto (tgt := 1032) hx hb dL_law_705 (by decide) ?_
                obtain rfl := Option.some.inj hf
                exact kk _ _ _ hP hS (lv_sub hl [1, 2, 3, 4, 5] rfl)
              · have hf := if_f w hf
                refine lv_iconst (v := 0) hx hb dL_law_703 (by decide) ?_
                cases hf
          · have hf := if_f w hf
            refine lv_iconst (v := 0) hx hb dL_law_686 (by decide) ?_
            cases hf
        replace hf := hq22
        refine lv_if_eq (tgt := 671) hx hb dL_law_664 (by decide) (fun w => ?_) (fun w => ?_)
        · have hf := if_t w hf
          refine lv_iconst (v := 0) hx hb dL_law_671 (by decide) ?_
          obtain rfl := Option.some.inj hf
          exact J4 _ _ _ hP hS (lv_sub hl [0, 1, 2, 3, 4, 5] rfl)
        · have hf := if_f w hf
          refine lv_iconst (v := 1) hx hb dL_law_667 (by decide) ?_
          refine lv_goto (tgt := 672) hx hb dL_law_668 (by decide) ?_
          obtain rfl := Option.some.inj hf
          exact J4 _ _ _ hP hS (lv_sub hl [0, 1, 2, 3, 4, 5] rfl)
      replace hf := hq19
      refine lv_if_eq (tgt := 657) hx hb dL_law_650 (by decide) (fun w => ?_) (fun w => ?_)
      · have hf := if_t w hf
        refine lv_iconst (v := 0) hx hb dL_law_657 (by decide) ?_
        obtain rfl := Option.some.inj hf
        exact J3 _ _ _ hP hS (lv_sub hl [1, 2, 3, 4, 5, 0] rfl)
      · have hf := if_f w hf
        refine lv_iconst (v := 1) hx hb dL_law_653 (by decide) ?_
        refine lv_goto (tgt := 658) hx hb dL_law_654 (by decide) ?_
        obtain rfl := Option.some.inj hf
        exact J3 _ _ _ hP hS (lv_sub hl [1, 2, 3, 4, 5, 0] rfl)
    replace hf := hq10
    refine lv_if_eq (tgt := 624) hx hb dL_law_617 (by decide) (fun w => ?_) (fun w => ?_)
    · have hf := if_t w hf
      refine lv_iconst (v := 0) hx hb dL_law_624 (by decide) ?_
      obtain rfl := Option.some.inj hf
      exact J2 _ _ _ hP hS (lv_sub hl [0, 1, 2, 3, 4] rfl)
    · have hf := if_f w hf
      refine lv_iconst (v := 1) hx hb dL_law_620 (by decide) ?_
      refine lv_goto (tgt := 625) hx hb dL_law_621 (by decide) ?_
      obtain rfl := Option.some.inj hf
      exact J2 _ _ _ hP hS (lv_sub hl [0, 1, 2, 3, 4] rfl)
  replace hf := hq7
  refine lv_if_eq (tgt := 610) hx hb dL_law_603 (by decide) (fun w => ?_) (fun w => ?_)
  · have hf := if_t w hf
    refine lv_iconst (v := 0) hx hb dL_law_610 (by decide) ?_
    obtain rfl := Option.some.inj hf
    exact J1 _ _ _ hP hS (lv_sub hl [0, 1, 2, 3, 4] rfl)
  · have hf := if_f w hf
    refine lv_iconst (v := 1) hx hb dL_law_606 (by decide) ?_
    refine lv_goto (tgt := 611) hx hb dL_law_607 (by decide) ?_
    obtain rfl := Option.some.inj hf
    exact J1 _ _ _ hP hS (lv_sub hl [0, 1, 2, 3, 4] rfl)
set_option maxRecDepth 100000 in
set_option maxHeartbeats 4000000 in
theorem law_c8 (hst : l.stackTraces = false) (hj : Inj ad) (hx : p.tables.exec = Jvm.exec) (hb : c.code = cL_law) (hml : c.maxLocals = 7) (hown : s.vm.findClass RL = some m.cls) (hts : ∀ w ∈ wzL_law, w.before #[Value.ref b] s = true) (hX : va_X b L xs s s.heap) (hbl : b < s.heap.size) (hbA : ¬ Aq ad s.heap.size b) (hKK : KK D ca s) (hE : EX (Aq ad s.heap.size) s s.heap) (hN : NC s) {c0 s0 : Nat} (hC : c0 + 16 ≤ 601024) (hSl : s0 + 96 ≤ 7293034) (vi : Int32) (S o : QS) (hf : st_law_8 L xs vi S = some o)
    (kk : ∀ (H : Heap) (locs : List Loc) (ls : Array Slot), va_P D vwCl (wd ca ad o) H → va_S (Aq ad s.heap.size) s.heap H locs → lv_has ls 7 [(0, .ref b), (1, .ref (ad 0)), (2, .ref (ad 48)), (3, .ref (ad 67)), (4, .int vi)] → W p l e room_1 s m #[Value.ref b] below meth c H locs c0 s0 (lw_Z below #[Value.ref b] s) (F0 m 1032 ls []))
    (H : Heap) (locs : List Loc) (ls : Array Slot) (hP : va_P D vwCl (wd ca ad S) H) (hS : va_S (Aq ad s.heap.size) s.heap H locs) (hl : lv_has ls 7 [(0, .ref b), (1, .ref (ad 0)), (2, .ref (ad 48)), (3, .ref (ad 67)), (4, .int vi)]) : W p l e room_1 s m #[Value.ref b] below meth c H locs c0 s0 (lw_Z below #[Value.ref b] s) (F0 m 708 ls []) := by
  unfold st_law_8 at hf
  refine lv_aload_n hx hb dL_law_708 rfl (lv_at hl 1 rfl) ?_
  refine lv_aload_n hx hb dL_law_709 rfl (lv_at hl 0 rfl) ?_
  refine lv_iload hx hb dL_law_710 (lv_at hl 4 rfl) ?_
  refine lv_iconst (v := 1) hx hb dL_law_712 (by decide) ?_
  refine lv_iadd hx hb dL_law_713 ?_
  obtain ⟨v1, h2, hf⟩ := bd_e hf
  obtain ⟨h2z, h2e⟩ := q_rdX h2
  refine va_sld hx hb hX hbl hbA hS h2z dL_law_714 ?_
  rw [← h2e]
  obtain ⟨q4, h3, hf⟩ := bd_e hf
  refine r_ci hS (va_runV (As := [.int v1]) (rest := []) ⟨hx, hb, hml, hown, hts⟩ (m_X5_fit l D ca ad hj v1 S _ h3 H.size) (cwV 1 hts gL_law_X5_fit rfl rfl rfl (by decide +kernel) ⟨Nat.le_of_ble_eq_true rfl, Nat.le_of_ble_eq_true rfl⟩) (r_preV hKK hP (show qk 0 = 5 from rfl) rfl) rfl rfl hl.1 rfl (lv_room (Nat.le_of_ble_eq_true rfl)) dL_law_715 ⟨by show c0 + 0 ≤ 601024; omega, by show s0 + 0 ≤ 7293034; omega⟩) (fun H locs hP hS => ?_)
  refine lv_aload_n hx hb dL_law_718 rfl (lv_at hl 2 rfl) ?_
  refine lv_aload_n hx hb dL_law_719 rfl (lv_at hl 0 rfl) ?_
  refine lv_iload hx hb dL_law_720 (lv_at hl 4 rfl) ?_
  refine lv_iconst (v := 1) hx hb dL_law_722 (by decide) ?_
  refine lv_iadd hx hb dL_law_723 ?_
  obtain ⟨v5, h6, hf⟩ := bd_e hf
  obtain ⟨h6z, h6e⟩ := q_rdX h6
  refine va_sld hx hb hX hbl hbA hS h6z dL_law_724 ?_
  rw [← h6e]
  obtain ⟨q8, h7, hf⟩ := bd_e hf
  refine r_ci hS (va_runV (As := [.int v5]) (rest := [.int q4.1]) ⟨hx, hb, hml, hown, hts⟩ (m_X6_fit l D ca ad hj v5 q4.2 _ h7 H.size) (cwV 1 hts gL_law_X6_fit rfl rfl rfl (by decide +kernel) ⟨Nat.le_of_ble_eq_true rfl, Nat.le_of_ble_eq_true rfl⟩) (r_preV hKK hP (show qk 48 = 6 from rfl) rfl) rfl rfl hl.1 rfl (lv_room (Nat.le_of_ble_eq_true rfl)) dL_law_725 ⟨by show c0 + 0 ≤ 601024; omega, by show s0 + 0 ≤ 7293034; omega⟩) (fun H locs hP hS => ?_)
  refine lv_icmp_eq (tgt := 1032) hx hb dL_law_728 (by decide) (fun w => ?_) (fun w => ?_)
  · have hf := if_t w hf
    obtain rfl := Option.some.inj hf
    exact kk _ _ _ hP hS (lv_sub hl [0, 1, 2, 3, 4] rfl)
  · have hf := if_f w hf
    refine lv_iconst (v := 0) hx hb dL_law_731 (by decide) ?_
    cases hf
set_option maxRecDepth 100000 in
set_option maxHeartbeats 4000000 in
theorem law_c9 (hst : l.stackTraces = false) (hj : Inj ad) (hx : p.tables.exec = Jvm.exec) (hb : c.code = cL_law) (hml : c.maxLocals = 7) (hown : s.vm.findClass RL = some m.cls) (hts : ∀ w ∈ wzL_law, w.before #[Value.ref b] s = true) (hX : va_X b L xs s s.heap) (hbl : b < s.heap.size) (hbA : ¬ Aq ad s.heap.size b) (hKK : KK D ca s) (hE : EX (Aq ad s.heap.size) s s.heap) (hN : NC s) {c0 s0 : Nat} (hC : c0 + 16 ≤ 601024) (hSl : s0 + 96 ≤ 7293034) (vi : Int32) (S o : QS) (hf : st_law_9 L xs vi S = some o)
    (kk : ∀ (H : Heap) (locs : List Loc) (ls : Array Slot), va_P D vwCl (wd ca ad o) H → va_S (Aq ad s.heap.size) s.heap H locs → lv_has ls 7 [(0, .ref b), (1, .ref (ad 0)), (2, .ref (ad 48)), (3, .ref (ad 67)), (4, .int vi)] → W p l e room_1 s m #[Value.ref b] below meth c H locs c0 s0 (lw_Z below #[Value.ref b] s) (F0 m 1032 ls []))
    (H : Heap) (locs : List Loc) (ls : Array Slot) (hP : va_P D vwCl (wd ca ad S) H) (hS : va_S (Aq ad s.heap.size) s.heap H locs) (hl : lv_has ls 7 [(0, .ref b), (1, .ref (ad 0)), (2, .ref (ad 48)), (3, .ref (ad 67)), (4, .int vi)]) : W p l e room_1 s m #[Value.ref b] below meth c H locs c0 s0 (lw_Z below #[Value.ref b] s) (F0 m 733 ls []) := by
  unfold st_law_9 at hf
  refine lv_aload_n hx hb dL_law_733 rfl (lv_at hl 1 rfl) ?_
  obtain ⟨q2, h1, hf⟩ := bd_e hf
  refine r_ci hS (va_runV (As := []) (rest := []) ⟨hx, hb, hml, hown, hts⟩ (m_X5_wrong l D ca ad hj S _ h1 H.size) (cwV 0 hts gL_law_X5_wrong rfl rfl rfl (by decide +kernel) ⟨Nat.le_of_ble_eq_true rfl, Nat.le_of_ble_eq_true rfl⟩) (r_preV hKK hP (show qk 0 = 5 from rfl) rfl) rfl rfl hl.1 rfl (lv_room (Nat.le_of_ble_eq_true rfl)) dL_law_734 ⟨by show c0 + 0 ≤ 601024; omega, by show s0 + 0 ≤ 7293034; omega⟩) (fun H locs hP hS => ?_)
  refine lv_aload_n hx hb dL_law_737 rfl (lv_at hl 2 rfl) ?_
  obtain ⟨q4, h3, hf⟩ := bd_e hf
  refine r_ci hS (va_runV (As := []) (rest := [.int q2.1]) ⟨hx, hb, hml, hown, hts⟩ (m_X6_wrong l D ca ad hj q2.2 _ h3 H.size) (cwV 0 hts gL_law_X6_wrong rfl rfl rfl (by decide +kernel) ⟨Nat.le_of_ble_eq_true rfl, Nat.le_of_ble_eq_true rfl⟩) (r_preV hKK hP (show qk 48 = 6 from rfl) rfl) rfl rfl hl.1 rfl (lv_room (Nat.le_of_ble_eq_true rfl)) dL_law_738 ⟨by show c0 + 0 ≤ 601024; omega, by show s0 + 0 ≤ 7293034; omega⟩) (fun H locs hP hS => ?_)
  refine lv_icmp_eq (tgt := 1032) hx hb dL_law_741 (by decide) (fun w => ?_) (fun w => ?_)
  · have hf := if_t w hf
    obtain rfl := Option.some.inj hf
    exact kk _ _ _ hP hS (lv_sub hl [0, 1, 2, 3, 4] rfl)
  · have hf := if_f w hf
    refine lv_iconst (v := 0) hx hb dL_law_744 (by decide) ?_
    cases hf
set_option maxRecDepth 100000 in
set_option maxHeartbeats 4000000 in
theorem law_c10 (hst : l.stackTraces = false) (hj : Inj ad) (hx : p.tables.exec = Jvm.exec) (hb : c.code = cL_law) (hml : c.maxLocals = 7) (hown : s.vm.findClass RL = some m.cls) (hts : ∀ w ∈ wzL_law, w.before #[Value.ref b] s = true) (hX : va_X b L xs s s.heap) (hbl : b < s.heap.size) (hbA : ¬ Aq ad s.heap.size b) (hKK : KK D ca s) (hE : EX (Aq ad s.heap.size) s s.heap) (hN : NC s) {c0 s0 : Nat} (hC : c0 + 16 ≤ 601024) (hSl : s0 + 96 ≤ 7293034) (vi : Int32) (S o : QS) (hf : st_law_10 L xs vi S = some o)
    (kk : ∀ (H : Heap) (locs : List Loc) (ls : Array Slot), va_P D vwCl (wd ca ad o) H → va_S (Aq ad s.heap.size) s.heap H locs → lv_has ls 7 [(0, .ref b), (1, .ref (ad 0)), (2, .ref (ad 48)), (3, .ref (ad 67)), (4, .int vi)] → W p l e room_1 s m #[Value.ref b] below meth c H locs c0 s0 (lw_Z below #[Value.ref b] s) (F0 m 1032 ls []))
    (H : Heap) (locs : List Loc) (ls : Array Slot) (hP : va_P D vwCl (wd ca ad S) H) (hS : va_S (Aq ad s.heap.size) s.heap H locs) (hl : lv_has ls 7 [(0, .ref b), (1, .ref (ad 0)), (2, .ref (ad 48)), (3, .ref (ad 67)), (4, .int vi)]) : W p l e room_1 s m #[Value.ref b] below meth c H locs c0 s0 (lw_Z below #[Value.ref b] s) (F0 m 746 ls []) := by
  unfold st_law_10 at hf
  refine lv_aload_n hx hb dL_law_746 rfl (lv_at hl 1 rfl) ?_
  obtain ⟨q2, h1, hf⟩ := bd_e hf
  refine r_ci hS (va_runV (As := []) (rest := []) ⟨hx, hb, hml, hown, hts⟩ (m_X5_which l D ca ad hj S _ h1 H.size) (cwV 0 hts gL_law_X5_which rfl rfl rfl (by decide +kernel) ⟨Nat.le_of_ble_eq_true rfl, Nat.le_of_ble_eq_true rfl⟩) (r_preV hKK hP (show qk 0 = 5 from rfl) rfl) rfl rfl hl.1 rfl (lv_room (Nat.le_of_ble_eq_true rfl)) dL_law_747 ⟨by show c0 + 0 ≤ 601024; omega, by show s0 + 0 ≤ 7293034; omega⟩) (fun H locs hP hS => ?_)
  refine lv_aload_n hx hb dL_law_750 rfl (lv_at hl 2 rfl) ?_
  obtain ⟨q4, h3, hf⟩ := bd_e hf
  refine r_ci hS (va_runV (As := []) (rest := [.int q2.1]) ⟨hx, hb, hml, hown, hts⟩ (m_X6_which l D ca ad hj q2.2 _ h3 H.size) (cwV 0 hts gL_law_X6_which rfl rfl rfl (by decide +kernel) ⟨Nat.le_of_ble_eq_true rfl, Nat.le_of_ble_eq_true rfl⟩) (r_preV hKK hP (show qk 48 = 6 from rfl) rfl) rfl rfl hl.1 rfl (lv_room (Nat.le_of_ble_eq_true rfl)) dL_law_751 ⟨by show c0 + 0 ≤ 601024; omega, by show s0 + 0 ≤ 7293034; omega⟩) (fun H locs hP hS => ?_)
  refine lv_icmp_eq (tgt := 1032) hx hb dL_law_754 (by decide) (fun w => ?_) (fun w => ?_)
  · have hf := if_t w hf
    obtain rfl := Option.some.inj hf
    exact kk _ _ _ hP hS (lv_sub hl [0, 1, 2, 3, 4] rfl)
  · have hf := if_f w hf
    refine lv_iconst (v := 0) hx hb dL_law_757 (by decide) ?_
    cases hf
set_option maxRecDepth 100000 in
set_option maxHeartbeats 4000000 in
theorem law_c11 (hst : l.stackTraces = false) (hj : Inj ad) (hx : p.tables.exec = Jvm.exec) (hb : c.code = cL_law) (hml : c.maxLocals = 7) (hown : s.vm.findClass RL = some m.cls) (hts : ∀ w ∈ wzL_law, w.before #[Value.ref b] s = true) (hX : va_X b L xs s s.heap) (hbl : b < s.heap.size) (hbA : ¬ Aq ad s.heap.size b) (hKK : KK D ca s) (hE : EX (Aq ad s.heap.size) s s.heap) (hN : NC s) {c0 s0 : Nat} (hC : c0 + 16 ≤ 601024) (hSl : s0 + 96 ≤ 7293034) (vi : Int32) (S o : QS) (hf : st_law_11 L xs vi S = some o)
    (kk : ∀ (H : Heap) (locs : List Loc) (ls : Array Slot), va_P D vwCl (wd ca ad o) H → va_S (Aq ad s.heap.size) s.heap H locs → lv_has ls 7 [(0, .ref b), (1, .ref (ad 0)), (2, .ref (ad 48)), (3, .ref (ad 67)), (4, .int vi)] → W p l e room_1 s m #[Value.ref b] below meth c H locs c0 s0 (lw_Z below #[Value.ref b] s) (F0 m 1032 ls []))
    (H : Heap) (locs : List Loc) (ls : Array Slot) (hP : va_P D vwCl (wd ca ad S) H) (hS : va_S (Aq ad s.heap.size) s.heap H locs) (hl : lv_has ls 7 [(0, .ref b), (1, .ref (ad 0)), (2, .ref (ad 48)), (3, .ref (ad 67)), (4, .int vi)]) : W p l e room_1 s m #[Value.ref b] below meth c H locs c0 s0 (lw_Z below #[Value.ref b] s) (F0 m 759 ls []) := by
  unfold st_law_11 at hf
  refine lv_aload_n hx hb dL_law_759 rfl (lv_at hl 1 rfl) ?_
  obtain ⟨q2, h1, hf⟩ := bd_e hf
  refine r_ci hS (va_runV (As := []) (rest := []) ⟨hx, hb, hml, hown, hts⟩ (m_X5_odds l D ca ad hj S _ h1 H.size) (cwV 0 hts gL_law_X5_odds rfl rfl rfl (by decide +kernel) ⟨Nat.le_of_ble_eq_true rfl, Nat.le_of_ble_eq_true rfl⟩) (r_preV hKK hP (show qk 0 = 5 from rfl) rfl) rfl rfl hl.1 rfl (lv_room (Nat.le_of_ble_eq_true rfl)) dL_law_760 ⟨by show c0 + 0 ≤ 601024; omega, by show s0 + 0 ≤ 7293034; omega⟩) (fun H locs hP hS => ?_)
  refine lv_aload_n hx hb dL_law_763 rfl (lv_at hl 2 rfl) ?_
  obtain ⟨q4, h3, hf⟩ := bd_e hf
  refine r_ci hS (va_runV (As := []) (rest := [.int q2.1]) ⟨hx, hb, hml, hown, hts⟩ (m_X6_odds l D ca ad hj q2.2 _ h3 H.size) (cwV 0 hts gL_law_X6_odds rfl rfl rfl (by decide +kernel) ⟨Nat.le_of_ble_eq_true rfl, Nat.le_of_ble_eq_true rfl⟩) (r_preV hKK hP (show qk 48 = 6 from rfl) rfl) rfl rfl hl.1 rfl (lv_room (Nat.le_of_ble_eq_true rfl)) dL_law_764 ⟨by show c0 + 0 ≤ 601024; omega, by show s0 + 0 ≤ 7293034; omega⟩) (fun H locs hP hS => ?_)
  refine lv_icmp_eq (tgt := 1032) hx hb dL_law_767 (by decide) (fun w => ?_) (fun w => ?_)
  · have hf := if_t w hf
    obtain rfl := Option.some.inj hf
    exact kk _ _ _ hP hS (lv_sub hl [0, 1, 2, 3, 4] rfl)
  · have hf := if_f w hf
    refine lv_iconst (v := 0) hx hb dL_law_770 (by decide) ?_
    cases hf
set_option maxRecDepth 100000 in
set_option maxHeartbeats 4000000 in
theorem law_c12 (hst : l.stackTraces = false) (hj : Inj ad) (hx : p.tables.exec = Jvm.exec) (hb : c.code = cL_law) (hml : c.maxLocals = 7) (hown : s.vm.findClass RL = some m.cls) (hts : ∀ w ∈ wzL_law, w.before #[Value.ref b] s = true) (hX : va_X b L xs s s.heap) (hbl : b < s.heap.size) (hbA : ¬ Aq ad s.heap.size b) (hKK : KK D ca s) (hE : EX (Aq ad s.heap.size) s s.heap) (hN : NC s) {c0 s0 : Nat} (hC : c0 + 16 ≤ 601024) (hSl : s0 + 96 ≤ 7293034) (vi : Int32) (S o : QS) (hf : st_law_12 L xs vi S = some o)
    (kk : ∀ (H : Heap) (locs : List Loc) (ls : Array Slot), va_P D vwCl (wd ca ad o) H → va_S (Aq ad s.heap.size) s.heap H locs → lv_has ls 7 [(0, .ref b), (1, .ref (ad 0)), (2, .ref (ad 48)), (3, .ref (ad 67)), (4, .int vi)] → W p l e room_1 s m #[Value.ref b] below meth c H locs (c0 + 4) (s0 + 24) (lw_Z below #[Value.ref b] s) (F0 m 1032 ls []))
    (H : Heap) (locs : List Loc) (ls : Array Slot) (hP : va_P D vwCl (wd ca ad S) H) (hS : va_S (Aq ad s.heap.size) s.heap H locs) (hl : lv_has ls 7 [(0, .ref b), (1, .ref (ad 0)), (2, .ref (ad 48)), (3, .ref (ad 67)), (4, .int vi)]) : W p l e room_1 s m #[Value.ref b] below meth c H locs c0 s0 (lw_Z below #[Value.ref b] s) (F0 m 772 ls []) := by
  unfold st_law_12 at hf
  refine lv_aload_n hx hb dL_law_772 rfl (lv_at hl 1 rfl) ?_
  refine lv_aload_n hx hb dL_law_773 rfl (lv_at hl 0 rfl) ?_
  refine lv_iload hx hb dL_law_774 (lv_at hl 4 rfl) ?_
  refine lv_iconst (v := 1) hx hb dL_law_776 (by decide) ?_
  refine lv_iadd hx hb dL_law_777 ?_
  obtain ⟨v1, h2, hf⟩ := bd_e hf
  obtain ⟨h2z, h2e⟩ := q_rdX h2
  refine va_sld hx hb hX hbl hbA hS h2z dL_law_778 ?_
  rw [← h2e]
  refine lv_aload_n hx hb dL_law_779 rfl (lv_at hl 0 rfl) ?_
  refine lv_iload hx hb dL_law_780 (lv_at hl 4 rfl) ?_
  refine lv_iconst (v := 2) hx hb dL_law_782 (by decide) ?_
  refine lv_iadd hx hb dL_law_783 ?_
  obtain ⟨v3, h4, hf⟩ := bd_e hf
  obtain ⟨h4z, h4e⟩ := q_rdX h4
  refine va_sld hx hb hX hbl hbA hS h4z dL_law_784 ?_
  rw [← h4e]
  refine lv_aload_n hx hb dL_law_785 rfl (lv_at hl 0 rfl) ?_
  refine lv_iload hx hb dL_law_786 (lv_at hl 4 rfl) ?_
  refine lv_iconst (v := 3) hx hb dL_law_788 (by decide) ?_
  refine lv_iadd hx hb dL_law_789 ?_
  obtain ⟨v5, h6, hf⟩ := bd_e hf
  obtain ⟨h6z, h6e⟩ := q_rdX h6
  refine va_sld hx hb hX hbl hbA hS h6z dL_law_790 ?_
  rw [← h6e]
  refine lv_aload_n hx hb dL_law_791 rfl (lv_at hl 3 rfl) ?_
  obtain ⟨q8, h7, hf⟩ := bd_e hf
  refine r_cq hS (vx_runSW (As := [.ref (ad 0), .int v1, .int v3, .int v5, .ref (ad 67)]) (rest := []) ⟨hx, hb, hml, hown, hts⟩ (m_L_avoided l hst D ca ad hj v1 v3 v5 S _ h7 H.size) (vx_cwSW 5 hts gL_law_L_avoided rfl rfl rfl (by decide +kernel) ⟨Nat.le_of_ble_eq_true rfl, Nat.le_of_ble_eq_true rfl⟩) (l_pre hN hE hS hKK hP) rfl rfl hl.1 rfl (lv_room (Nat.le_of_ble_eq_true rfl)) dL_law_792 ⟨by show c0 + 4 ≤ 601024; omega, by show s0 + 24 ≤ 7293034; omega⟩) (fun H locs hP hS => ?_)
  refine lv_istore (lv' := [(5, .int q8.1), (0, .ref b), (1, .ref (ad 0)), (2, .ref (ad 48)), (3, .ref (ad 67)), (4, .int vi)]) hx hb dL_law_795 hl (by decide) rfl (fun ls hl => ?_)
  refine lv_aload_n hx hb dL_law_797 rfl (lv_at hl 3 rfl) ?_
  refine lv_aload_n hx hb dL_law_798 rfl (lv_at hl 1 rfl) ?_
  refine lv_iload hx hb dL_law_799 (lv_at hl 5 rfl) ?_
  refine lv_iconst (v := 1) hx hb dL_law_801 (by decide) ?_
  refine lv_iadd hx hb dL_law_802 ?_
  obtain ⟨v9, h10, hf⟩ := bd_e hf
  obtain ⟨h10z, h10e⟩ := q_rdX h10
  refine va_sld hx hb hX hbl hbA hS h10z dL_law_803 ?_
  rw [← h10e]
  refine lv_aload_n hx hb dL_law_804 rfl (lv_at hl 1 rfl) ?_
  refine lv_iload hx hb dL_law_805 (lv_at hl 5 rfl) ?_
  refine lv_iconst (v := 2) hx hb dL_law_807 (by decide) ?_
  refine lv_iadd hx hb dL_law_808 ?_
  obtain ⟨v11, h12, hf⟩ := bd_e hf
  obtain ⟨h12z, h12e⟩ := q_rdX h12
  refine va_sld hx hb hX hbl hbA hS h12z dL_law_809 ?_
  rw [← h12e]
  refine lv_aload_n hx hb dL_law_810 rfl (lv_at hl 1 rfl) ?_
  refine lv_iload hx hb dL_law_811 (lv_at hl 5 rfl) ?_
  refine lv_iconst (v := 3) hx hb dL_law_813 (by decide) ?_
  refine lv_iadd hx hb dL_law_814 ?_
  obtain ⟨v13, h14, hf⟩ := bd_e hf
  obtain ⟨h14z, h14e⟩ := q_rdX h14
  refine va_sld hx hb hX hbl hbA hS h14z dL_law_815 ?_
  rw [← h14e]
  obtain ⟨q16, h15, hf⟩ := bd_e hf
  refine r_ci hS (va_runV (As := [.int v9, .int v11, .int v13]) (rest := []) ⟨hx, hb, hml, hown, hts⟩ (m_X6_avoided l D ca ad hj v9 v11 v13 q8.2 _ h15 H.size) (cwV 3 hts gL_law_X6_avoided rfl rfl rfl (by decide +kernel) ⟨Nat.le_of_ble_eq_true rfl, Nat.le_of_ble_eq_true rfl⟩) (r_preV hKK hP (show qk 48 = 6 from rfl) rfl) rfl rfl hl.1 rfl (lv_room (Nat.le_of_ble_eq_true rfl)) dL_law_816 ⟨by show (c0 + 4) + 0 ≤ 601024; omega, by show (s0 + 24) + 0 ≤ 7293034; omega⟩) (fun H locs hP hS => ?_)
  refine lv_istore (lv' := [(6, .int q16.1), (5, .int q8.1), (0, .ref b), (1, .ref (ad 0)), (2, .ref (ad 48)), (3, .ref (ad 67)), (4, .int vi)]) hx hb dL_law_819 hl (by decide) rfl (fun ls hl => ?_)
  refine lv_aload_n hx hb dL_law_821 rfl (lv_at hl 4 rfl) ?_
  obtain ⟨v18, h17, hf⟩ := bd_e hf
  refine r_ci hS (va_runV (As := []) (rest := []) ⟨hx, hb, hml, hown, hts⟩ (m_X6_thrown l D ca ad hj q16.2 _ h17 H.size) (cwV 0 hts gL_law_X6_thrown rfl rfl rfl (by decide +kernel) ⟨Nat.le_of_ble_eq_true rfl, Nat.le_of_ble_eq_true rfl⟩) (r_preV hKK hP (show qk 48 = 6 from rfl) rfl) rfl rfl hl.1 rfl (lv_room (Nat.le_of_ble_eq_true rfl)) dL_law_822 ⟨by show (c0 + 4) + 0 ≤ 601024; omega, by show (s0 + 24) + 0 ≤ 7293034; omega⟩) (fun H locs hP hS => ?_)
  refine lv_iload hx hb dL_law_825 (lv_at hl 1 rfl) ?_
  refine lv_icmp_eq (tgt := 832) hx hb dL_law_827 (by decide) (fun w => ?_) (fun w => ?_)
  · have hf := if_t w hf
    refine lv_iload hx hb dL_law_832 (lv_at hl 1 rfl) ?_
    refine lv_if_ne (tgt := 849) hx hb dL_law_834 (by decide) (fun w => ?_) (fun w => ?_)
    · have hf := if_f w hf
      refine lv_goto (tgt := 1032) hx hb dL_law_849 (by decide) ?_
      obtain rfl := Option.some.inj hf
      exact kk _ _ _ hP hS (lv_sub hl [2, 3, 4, 5, 6] rfl)
    · have hf := if_t w hf
      refine lv_aload_n hx hb dL_law_837 rfl (lv_at hl 5 rfl) ?_
      refine lv_iconst (v := 0) hx hb dL_law_838 (by decide) ?_
      refine r_lald hx hb hKK hP dL_law_839 ?_
      refine lv_iload hx hb dL_law_840 (lv_at hl 0 rfl) ?_
      refine lv_i2l (v := q16.1.toInt64) hx hb dL_law_842 rfl ?_
      refine W.lcmp hx hb dL_law_843 ?_
      refine lv_if_eq (tgt := 849) hx hb dL_law_844 (by decide) (fun w => ?_) (fun w => ?_)
      · have hf := if_t w hf
        refine lv_goto (tgt := 1032) hx hb dL_law_849 (by decide) ?_
        obtain rfl := Option.some.inj hf
        exact kk _ _ _ hP hS (lv_sub hl [2, 3, 4, 5, 6] rfl)
      · have hf := if_f w hf
        refine lv_iconst (v := 0) hx hb dL_law_847 (by decide) ?_
        cases hf
  · have hf := if_f w hf
    refine lv_iconst (v := 0) hx hb dL_law_830 (by decide) ?_
    cases hf
set_option maxRecDepth 100000 in
set_option maxHeartbeats 4000000 in
theorem law_c13 (hst : l.stackTraces = false) (hj : Inj ad) (hx : p.tables.exec = Jvm.exec) (hb : c.code = cL_law) (hml : c.maxLocals = 7) (hown : s.vm.findClass RL = some m.cls) (hts : ∀ w ∈ wzL_law, w.before #[Value.ref b] s = true) (hX : va_X b L xs s s.heap) (hbl : b < s.heap.size) (hbA : ¬ Aq ad s.heap.size b) (hKK : KK D ca s) (hE : EX (Aq ad s.heap.size) s s.heap) (hN : NC s) {c0 s0 : Nat} (hC : c0 + 16 ≤ 601024) (hSl : s0 + 96 ≤ 7293034) (vi : Int32) (S o : QS) (hf : st_law_13 L xs vi S = some o)
    (kk : ∀ (H : Heap) (locs : List Loc) (ls : Array Slot), va_P D vwCl (wd ca ad o) H → va_S (Aq ad s.heap.size) s.heap H locs → lv_has ls 7 [(0, .ref b), (1, .ref (ad 0)), (2, .ref (ad 48)), (3, .ref (ad 67)), (4, .int vi)] → W p l e room_1 s m #[Value.ref b] below meth c H locs (c0 + 2) (s0 + 12) (lw_Z below #[Value.ref b] s) (F0 m 1032 ls []))
    (H : Heap) (locs : List Loc) (ls : Array Slot) (hP : va_P D vwCl (wd ca ad S) H) (hS : va_S (Aq ad s.heap.size) s.heap H locs) (hl : lv_has ls 7 [(0, .ref b), (1, .ref (ad 0)), (2, .ref (ad 48)), (3, .ref (ad 67)), (4, .int vi)]) : W p l e room_1 s m #[Value.ref b] below meth c H locs c0 s0 (lw_Z below #[Value.ref b] s) (F0 m 852 ls []) := by
  unfold st_law_13 at hf
  refine lv_aload_n hx hb dL_law_852 rfl (lv_at hl 1 rfl) ?_
  refine lv_aload_n hx hb dL_law_853 rfl (lv_at hl 0 rfl) ?_
  refine lv_iload hx hb dL_law_854 (lv_at hl 4 rfl) ?_
  refine lv_iconst (v := 1) hx hb dL_law_856 (by decide) ?_
  refine lv_iadd hx hb dL_law_857 ?_
  obtain ⟨v1, h2, hf⟩ := bd_e hf
  obtain ⟨h2z, h2e⟩ := q_rdX h2
  refine va_sld hx hb hX hbl hbA hS h2z dL_law_858 ?_
  rw [← h2e]
  refine lv_aload_n hx hb dL_law_859 rfl (lv_at hl 0 rfl) ?_
  refine lv_iload hx hb dL_law_860 (lv_at hl 4 rfl) ?_
  refine lv_iconst (v := 2) hx hb dL_law_862 (by decide) ?_
  refine lv_iadd hx hb dL_law_863 ?_
  obtain ⟨v3, h4, hf⟩ := bd_e hf
  obtain ⟨h4z, h4e⟩ := q_rdX h4
  refine va_sld hx hb hX hbl hbA hS h4z dL_law_864 ?_
  rw [← h4e]
  refine lv_aload_n hx hb dL_law_865 rfl (lv_at hl 3 rfl) ?_
  obtain ⟨q6, h5, hf⟩ := bd_e hf
  refine r_cq hS (vx_runSW (As := [.ref (ad 0), .int v1, .int v3, .ref (ad 67)]) (rest := []) ⟨hx, hb, hml, hown, hts⟩ (m_L_look l hst D ca ad hj v1 v3 S _ h5 H.size) (vx_cwSW 4 hts gL_law_L_look rfl rfl rfl (by decide +kernel) ⟨Nat.le_of_ble_eq_true rfl, Nat.le_of_ble_eq_true rfl⟩) (l_pre hN hE hS hKK hP) rfl rfl hl.1 rfl (lv_room (Nat.le_of_ble_eq_true rfl)) dL_law_866 ⟨by show c0 + 2 ≤ 601024; omega, by show s0 + 12 ≤ 7293034; omega⟩) (fun H locs hP hS => ?_)
  refine lv_istore (lv' := [(5, .int q6.1), (0, .ref b), (1, .ref (ad 0)), (2, .ref (ad 48)), (3, .ref (ad 67)), (4, .int vi)]) hx hb dL_law_869 hl (by decide) rfl (fun ls hl => ?_)
  refine lv_aload_n hx hb dL_law_871 rfl (lv_at hl 3 rfl) ?_
  refine lv_aload_n hx hb dL_law_872 rfl (lv_at hl 1 rfl) ?_
  refine lv_iload hx hb dL_law_873 (lv_at hl 5 rfl) ?_
  refine lv_iconst (v := 1) hx hb dL_law_875 (by decide) ?_
  refine lv_iadd hx hb dL_law_876 ?_
  obtain ⟨v7, h8, hf⟩ := bd_e hf
  obtain ⟨h8z, h8e⟩ := q_rdX h8
  refine va_sld hx hb hX hbl hbA hS h8z dL_law_877 ?_
  rw [← h8e]
  refine lv_aload_n hx hb dL_law_878 rfl (lv_at hl 1 rfl) ?_
  refine lv_iload hx hb dL_law_879 (lv_at hl 5 rfl) ?_
  refine lv_iconst (v := 2) hx hb dL_law_881 (by decide) ?_
  refine lv_iadd hx hb dL_law_882 ?_
  obtain ⟨v9, h10, hf⟩ := bd_e hf
  obtain ⟨h10z, h10e⟩ := q_rdX h10
  refine va_sld hx hb hX hbl hbA hS h10z dL_law_883 ?_
  rw [← h10e]
  obtain ⟨q12, h11, hf⟩ := bd_e hf
  refine r_ci hS (va_runV (As := [.int v7, .int v9]) (rest := []) ⟨hx, hb, hml, hown, hts⟩ (m_X6_look l D ca ad hj v7 v9 q6.2 _ h11 H.size) (cwV 2 hts gL_law_X6_look rfl rfl rfl (by decide +kernel) ⟨Nat.le_of_ble_eq_true rfl, Nat.le_of_ble_eq_true rfl⟩) (r_preV hKK hP (show qk 48 = 6 from rfl) rfl) rfl rfl hl.1 rfl (lv_room (Nat.le_of_ble_eq_true rfl)) dL_law_884 ⟨by show (c0 + 2) + 0 ≤ 601024; omega, by show (s0 + 12) + 0 ≤ 7293034; omega⟩) (fun H locs hP hS => ?_)
  refine lv_istore (lv' := [(6, .int q12.1), (5, .int q6.1), (0, .ref b), (1, .ref (ad 0)), (2, .ref (ad 48)), (3, .ref (ad 67)), (4, .int vi)]) hx hb dL_law_887 hl (by decide) rfl (fun ls hl => ?_)
  refine lv_aload_n hx hb dL_law_889 rfl (lv_at hl 4 rfl) ?_
  obtain ⟨v14, h13, hf⟩ := bd_e hf
  refine r_ci hS (va_runV (As := []) (rest := []) ⟨hx, hb, hml, hown, hts⟩ (m_X6_thrown l D ca ad hj q12.2 _ h13 H.size) (cwV 0 hts gL_law_X6_thrown rfl rfl rfl (by decide +kernel) ⟨Nat.le_of_ble_eq_true rfl, Nat.le_of_ble_eq_true rfl⟩) (r_preV hKK hP (show qk 48 = 6 from rfl) rfl) rfl rfl hl.1 rfl (lv_room (Nat.le_of_ble_eq_true rfl)) dL_law_890 ⟨by show (c0 + 2) + 0 ≤ 601024; omega, by show (s0 + 12) + 0 ≤ 7293034; omega⟩) (fun H locs hP hS => ?_)
  refine lv_iload hx hb dL_law_893 (lv_at hl 1 rfl) ?_
  refine lv_icmp_eq (tgt := 900) hx hb dL_law_895 (by decide) (fun w => ?_) (fun w => ?_)
  · have hf := if_t w hf
    refine lv_iload hx hb dL_law_900 (lv_at hl 1 rfl) ?_
    refine lv_if_ne (tgt := 917) hx hb dL_law_902 (by decide) (fun w => ?_) (fun w => ?_)
    · have hf := if_f w hf
      refine lv_goto (tgt := 1032) hx hb dL_law_917 (by decide) ?_
      obtain rfl := Option.some.inj hf
      exact kk _ _ _ hP hS (lv_sub hl [2, 3, 4, 5, 6] rfl)
    · have hf := if_t w hf
      refine lv_aload_n hx hb dL_law_905 rfl (lv_at hl 5 rfl) ?_
      refine lv_iconst (v := 0) hx hb dL_law_906 (by decide) ?_
      refine r_lald hx hb hKK hP dL_law_907 ?_
      refine lv_iload hx hb dL_law_908 (lv_at hl 0 rfl) ?_
      refine lv_i2l (v := q12.1.toInt64) hx hb dL_law_910 rfl ?_
      refine W.lcmp hx hb dL_law_911 ?_
      refine lv_if_eq (tgt := 917) hx hb dL_law_912 (by decide) (fun w => ?_) (fun w => ?_)
      · have hf := if_t w hf
        refine lv_goto (tgt := 1032) hx hb dL_law_917 (by decide) ?_
        obtain rfl := Option.some.inj hf
        exact kk _ _ _ hP hS (lv_sub hl [2, 3, 4, 5, 6] rfl)
      · have hf := if_f w hf
        refine lv_iconst (v := 0) hx hb dL_law_915 (by decide) ?_
        cases hf
  · have hf := if_f w hf
    refine lv_iconst (v := 0) hx hb dL_law_898 (by decide) ?_
    cases hf
set_option maxRecDepth 100000 in
set_option maxHeartbeats 4000000 in
theorem law_c14 (hst : l.stackTraces = false) (hj : Inj ad) (hx : p.tables.exec = Jvm.exec) (hb : c.code = cL_law) (hml : c.maxLocals = 7) (hown : s.vm.findClass RL = some m.cls) (hts : ∀ w ∈ wzL_law, w.before #[Value.ref b] s = true) (hX : va_X b L xs s s.heap) (hbl : b < s.heap.size) (hbA : ¬ Aq ad s.heap.size b) (hKK : KK D ca s) (hE : EX (Aq ad s.heap.size) s s.heap) (hN : NC s) {c0 s0 : Nat} (hC : c0 + 16 ≤ 601024) (hSl : s0 + 96 ≤ 7293034) (vi : Int32) (S o : QS) (hf : st_law_14 L xs vi S = some o)
    (kk : ∀ (H : Heap) (locs : List Loc) (ls : Array Slot), va_P D vwCl (wd ca ad o) H → va_S (Aq ad s.heap.size) s.heap H locs → lv_has ls 7 [(0, .ref b), (1, .ref (ad 0)), (2, .ref (ad 48)), (3, .ref (ad 67)), (4, .int vi)] → W p l e room_1 s m #[Value.ref b] below meth c H locs (c0 + 3) (s0 + 18) (lw_Z below #[Value.ref b] s) (F0 m 1032 ls []))
    (H : Heap) (locs : List Loc) (ls : Array Slot) (hP : va_P D vwCl (wd ca ad S) H) (hS : va_S (Aq ad s.heap.size) s.heap H locs) (hl : lv_has ls 7 [(0, .ref b), (1, .ref (ad 0)), (2, .ref (ad 48)), (3, .ref (ad 67)), (4, .int vi)]) : W p l e room_1 s m #[Value.ref b] below meth c H locs c0 s0 (lw_Z below #[Value.ref b] s) (F0 m 920 ls []) := by
  unfold st_law_14 at hf
  refine lv_aload_n hx hb dL_law_920 rfl (lv_at hl 1 rfl) ?_
  refine lv_aload_n hx hb dL_law_921 rfl (lv_at hl 0 rfl) ?_
  refine lv_iload hx hb dL_law_922 (lv_at hl 4 rfl) ?_
  refine lv_iconst (v := 1) hx hb dL_law_924 (by decide) ?_
  refine lv_iadd hx hb dL_law_925 ?_
  obtain ⟨v1, h2, hf⟩ := bd_e hf
  obtain ⟨h2z, h2e⟩ := q_rdX h2
  refine va_sld hx hb hX hbl hbA hS h2z dL_law_926 ?_
  rw [← h2e]
  refine lv_aload_n hx hb dL_law_927 rfl (lv_at hl 0 rfl) ?_
  refine lv_iload hx hb dL_law_928 (lv_at hl 4 rfl) ?_
  refine lv_iconst (v := 2) hx hb dL_law_930 (by decide) ?_
  refine lv_iadd hx hb dL_law_931 ?_
  obtain ⟨v3, h4, hf⟩ := bd_e hf
  obtain ⟨h4z, h4e⟩ := q_rdX h4
  refine va_sld hx hb hX hbl hbA hS h4z dL_law_932 ?_
  rw [← h4e]
  refine lv_aload_n hx hb dL_law_933 rfl (lv_at hl 0 rfl) ?_
  refine lv_iload hx hb dL_law_934 (lv_at hl 4 rfl) ?_
  refine lv_iconst (v := 3) hx hb dL_law_936 (by decide) ?_
  refine lv_iadd hx hb dL_law_937 ?_
  obtain ⟨v5, h6, hf⟩ := bd_e hf
  obtain ⟨h6z, h6e⟩ := q_rdX h6
  refine va_sld hx hb hX hbl hbA hS h6z dL_law_938 ?_
  rw [← h6e]
  refine lv_aload_n hx hb dL_law_939 rfl (lv_at hl 3 rfl) ?_
  obtain ⟨q8, h7, hf⟩ := bd_e hf
  refine r_cq hS (vx_runSW (As := [.ref (ad 0), .int v1, .int v3, .int v5, .ref (ad 67)]) (rest := []) ⟨hx, hb, hml, hown, hts⟩ (m_L_can l hst D ca ad hj v1 v3 v5 S _ h7 H.size) (vx_cwSW 5 hts gL_law_L_can rfl rfl rfl (by decide +kernel) ⟨Nat.le_of_ble_eq_true rfl, Nat.le_of_ble_eq_true rfl⟩) (l_pre hN hE hS hKK hP) rfl rfl hl.1 rfl (lv_room (Nat.le_of_ble_eq_true rfl)) dL_law_940 ⟨by show c0 + 3 ≤ 601024; omega, by show s0 + 18 ≤ 7293034; omega⟩) (fun H locs hP hS => ?_)
  refine lv_istore (lv' := [(5, .int q8.1), (0, .ref b), (1, .ref (ad 0)), (2, .ref (ad 48)), (3, .ref (ad 67)), (4, .int vi)]) hx hb dL_law_943 hl (by decide) rfl (fun ls hl => ?_)
  refine lv_aload_n hx hb dL_law_945 rfl (lv_at hl 3 rfl) ?_
  refine lv_aload_n hx hb dL_law_946 rfl (lv_at hl 1 rfl) ?_
  refine lv_iload hx hb dL_law_947 (lv_at hl 5 rfl) ?_
  refine lv_iconst (v := 1) hx hb dL_law_949 (by decide) ?_
  refine lv_iadd hx hb dL_law_950 ?_
  obtain ⟨v9, h10, hf⟩ := bd_e hf
  obtain ⟨h10z, h10e⟩ := q_rdX h10
  refine va_sld hx hb hX hbl hbA hS h10z dL_law_951 ?_
  rw [← h10e]
  refine lv_aload_n hx hb dL_law_952 rfl (lv_at hl 1 rfl) ?_
  refine lv_iload hx hb dL_law_953 (lv_at hl 5 rfl) ?_
  refine lv_iconst (v := 2) hx hb dL_law_955 (by decide) ?_
  refine lv_iadd hx hb dL_law_956 ?_
  obtain ⟨v11, h12, hf⟩ := bd_e hf
  obtain ⟨h12z, h12e⟩ := q_rdX h12
  refine va_sld hx hb hX hbl hbA hS h12z dL_law_957 ?_
  rw [← h12e]
  refine lv_aload_n hx hb dL_law_958 rfl (lv_at hl 1 rfl) ?_
  refine lv_iload hx hb dL_law_959 (lv_at hl 5 rfl) ?_
  refine lv_iconst (v := 3) hx hb dL_law_961 (by decide) ?_
  refine lv_iadd hx hb dL_law_962 ?_
  obtain ⟨v13, h14, hf⟩ := bd_e hf
  obtain ⟨h14z, h14e⟩ := q_rdX h14
  refine va_sld hx hb hX hbl hbA hS h14z dL_law_963 ?_
  rw [← h14e]
  obtain ⟨q16, h15, hf⟩ := bd_e hf
  refine r_ci hS (va_runV (As := [.int v9, .int v11, .int v13]) (rest := []) ⟨hx, hb, hml, hown, hts⟩ (m_X6_can l D ca ad hj v9 v11 v13 q8.2 _ h15 H.size) (cwV 3 hts gL_law_X6_can rfl rfl rfl (by decide +kernel) ⟨Nat.le_of_ble_eq_true rfl, Nat.le_of_ble_eq_true rfl⟩) (r_preV hKK hP (show qk 48 = 6 from rfl) rfl) rfl rfl hl.1 rfl (lv_room (Nat.le_of_ble_eq_true rfl)) dL_law_964 ⟨by show (c0 + 3) + 0 ≤ 601024; omega, by show (s0 + 18) + 0 ≤ 7293034; omega⟩) (fun H locs hP hS => ?_)
  refine lv_istore (lv' := [(6, .int q16.1), (5, .int q8.1), (0, .ref b), (1, .ref (ad 0)), (2, .ref (ad 48)), (3, .ref (ad 67)), (4, .int vi)]) hx hb dL_law_967 hl (by decide) rfl (fun ls hl => ?_)
  refine lv_aload_n hx hb dL_law_969 rfl (lv_at hl 4 rfl) ?_
  obtain ⟨v18, h17, hf⟩ := bd_e hf
  refine r_ci hS (va_runV (As := []) (rest := []) ⟨hx, hb, hml, hown, hts⟩ (m_X6_thrown l D ca ad hj q16.2 _ h17 H.size) (cwV 0 hts gL_law_X6_thrown rfl rfl rfl (by decide +kernel) ⟨Nat.le_of_ble_eq_true rfl, Nat.le_of_ble_eq_true rfl⟩) (r_preV hKK hP (show qk 48 = 6 from rfl) rfl) rfl rfl hl.1 rfl (lv_room (Nat.le_of_ble_eq_true rfl)) dL_law_970 ⟨by show (c0 + 3) + 0 ≤ 601024; omega, by show (s0 + 18) + 0 ≤ 7293034; omega⟩) (fun H locs hP hS => ?_)
  refine lv_iload hx hb dL_law_973 (lv_at hl 1 rfl) ?_
  refine lv_icmp_eq (tgt := 980) hx hb dL_law_975 (by decide) (fun w => ?_) (fun w => ?_)
  · have hf := if_t w hf
    refine lv_iload hx hb dL_law_980 (lv_at hl 1 rfl) ?_
    refine lv_if_ne (tgt := 1004) hx hb dL_law_982 (by decide) (fun w => ?_) (fun w => ?_)
    · have hf := if_f w hf
      refine lv_goto (tgt := 1032) hx hb dL_law_1004 (by decide) ?_
      obtain rfl := Option.some.inj hf
      exact kk _ _ _ hP hS (lv_sub hl [2, 3, 4, 5, 6] rfl)
    · have hf := if_t w hf
      refine lv_aload_n hx hb dL_law_985 rfl (lv_at hl 5 rfl) ?_
      refine lv_iconst (v := 0) hx hb dL_law_986 (by decide) ?_
      refine r_lald hx hb hKK hP dL_law_987 ?_
      refine lv_iload hx hb dL_law_988 (lv_at hl 0 rfl) ?_
      obtain ⟨q19, hq19, hf⟩ := bd_e hf
      have J1 : ∀ (H : Heap) (locs : List Loc) (ls : Array Slot), va_P D vwCl (wd ca ad q16.2) H → va_S (Aq ad s.heap.size) s.heap H locs → lv_has ls 7 [(0, .ref b), (1, .ref (ad 0)), (2, .ref (ad 48)), (3, .ref (ad 67)), (4, .int vi)] → W p l e room_1 s m #[Value.ref b] below meth c H locs (c0 + 3) (s0 + 18) (lw_Z below #[Value.ref b] s) (F0 m 998 ls [.long q19, .long (q16.2.2 67)]) := by
        intro H locs ls hP hS hl
        refine W.lcmp hx hb dL_law_998 ?_
        refine lv_if_eq (tgt := 1004) hx hb dL_law_999 (by decide) (fun w => ?_) (fun w => ?_)
        · have hf := if_t w hf
          refine lv_goto (tgt := 1032) hx hb dL_law_1004 (by decide) ?_
          obtain rfl := Option.some.inj hf
          exact kk _ _ _ hP hS (lv_sub hl [0, 1, 2, 3, 4] rfl)
        · have hf := if_f w hf
          refine lv_iconst (v := 0) hx hb dL_law_1002 (by decide) ?_
          cases hf
      replace hf := hq19
      refine lv_if_eq (tgt := 997) hx hb dL_law_990 (by decide) (fun w => ?_) (fun w => ?_)
      · have hf := if_t w hf
        refine lv_lconst (v := 0) hx hb dL_law_997 rfl ?_
        obtain rfl := Option.some.inj hf
        exact J1 _ _ _ hP hS (lv_sub hl [2, 3, 4, 5, 6] rfl)
      · have hf := if_f w hf
        refine lv_lconst (v := 1) hx hb dL_law_993 rfl ?_
        refine lv_goto (tgt := 998) hx hb dL_law_994 (by decide) ?_
        obtain rfl := Option.some.inj hf
        exact J1 _ _ _ hP hS (lv_sub hl [2, 3, 4, 5, 6] rfl)
  · have hf := if_f w hf
    refine lv_iconst (v := 0) hx hb dL_law_978 (by decide) ?_
    cases hf
set_option maxRecDepth 100000 in
set_option maxHeartbeats 4000000 in
theorem law_c15 (hst : l.stackTraces = false) (hj : Inj ad) (hx : p.tables.exec = Jvm.exec) (hb : c.code = cL_law) (hml : c.maxLocals = 7) (hown : s.vm.findClass RL = some m.cls) (hts : ∀ w ∈ wzL_law, w.before #[Value.ref b] s = true) (hX : va_X b L xs s s.heap) (hbl : b < s.heap.size) (hbA : ¬ Aq ad s.heap.size b) (hKK : KK D ca s) (hE : EX (Aq ad s.heap.size) s s.heap) (hN : NC s) {c0 s0 : Nat} (hC : c0 + 16 ≤ 601024) (hSl : s0 + 96 ≤ 7293034) (vi : Int32) (S o : QS) (hf : st_law_15 L xs vi S = some o)
    (kk : ∀ (H : Heap) (locs : List Loc) (ls : Array Slot), va_P D vwCl (wd ca ad o) H → va_S (Aq ad s.heap.size) s.heap H locs → lv_has ls 7 [(0, .ref b), (1, .ref (ad 0)), (2, .ref (ad 48)), (3, .ref (ad 67)), (4, .int vi)] → W p l e room_1 s m #[Value.ref b] below meth c H locs c0 s0 (lw_Z below #[Value.ref b] s) (F0 m 1032 ls []))
    (H : Heap) (locs : List Loc) (ls : Array Slot) (hP : va_P D vwCl (wd ca ad S) H) (hS : va_S (Aq ad s.heap.size) s.heap H locs) (hl : lv_has ls 7 [(0, .ref b), (1, .ref (ad 0)), (2, .ref (ad 48)), (3, .ref (ad 67)), (4, .int vi)]) : W p l e room_1 s m #[Value.ref b] below meth c H locs c0 s0 (lw_Z below #[Value.ref b] s) (F0 m 1007 ls []) := by
  unfold st_law_15 at hf
  refine lv_aload_n hx hb dL_law_1007 rfl (lv_at hl 1 rfl) ?_
  refine lv_aload_n hx hb dL_law_1008 rfl (lv_at hl 0 rfl) ?_
  refine lv_iload hx hb dL_law_1009 (lv_at hl 4 rfl) ?_
  refine lv_iconst (v := 1) hx hb dL_law_1011 (by decide) ?_
  refine lv_iadd hx hb dL_law_1012 ?_
  obtain ⟨v1, h2, hf⟩ := bd_e hf
  obtain ⟨h2z, h2e⟩ := q_rdX h2
  refine va_sld hx hb hX hbl hbA hS h2z dL_law_1013 ?_
  rw [← h2e]
  obtain ⟨v4, h3, hf⟩ := bd_e hf
  refine r_ci hS (va_runV (As := [.int v1]) (rest := []) ⟨hx, hb, hml, hown, hts⟩ (m_X5_count l D ca ad hj v1 S _ h3 H.size) (cwV 1 hts gL_law_X5_count rfl rfl rfl (by decide +kernel) ⟨Nat.le_of_ble_eq_true rfl, Nat.le_of_ble_eq_true rfl⟩) (r_preV hKK hP (show qk 0 = 5 from rfl) rfl) rfl rfl hl.1 rfl (lv_room (Nat.le_of_ble_eq_true rfl)) dL_law_1014 ⟨by show c0 + 0 ≤ 601024; omega, by show s0 + 0 ≤ 7293034; omega⟩) (fun H locs hP hS => ?_)
  refine lv_aload_n hx hb dL_law_1017 rfl (lv_at hl 2 rfl) ?_
  refine lv_aload_n hx hb dL_law_1018 rfl (lv_at hl 0 rfl) ?_
  refine lv_iload hx hb dL_law_1019 (lv_at hl 4 rfl) ?_
  refine lv_iconst (v := 1) hx hb dL_law_1021 (by decide) ?_
  refine lv_iadd hx hb dL_law_1022 ?_
  obtain ⟨v5, h6, hf⟩ := bd_e hf
  obtain ⟨h6z, h6e⟩ := q_rdX h6
  refine va_sld hx hb hX hbl hbA hS h6z dL_law_1023 ?_
  rw [← h6e]
  obtain ⟨q8, h7, hf⟩ := bd_e hf
  refine r_ci hS (va_runV (As := [.int v5]) (rest := [.int v4]) ⟨hx, hb, hml, hown, hts⟩ (m_X6_count l D ca ad hj v5 S _ h7 H.size) (cwV 1 hts gL_law_X6_count rfl rfl rfl (by decide +kernel) ⟨Nat.le_of_ble_eq_true rfl, Nat.le_of_ble_eq_true rfl⟩) (r_preV hKK hP (show qk 48 = 6 from rfl) rfl) rfl rfl hl.1 rfl (lv_room (Nat.le_of_ble_eq_true rfl)) dL_law_1024 ⟨by show c0 + 0 ≤ 601024; omega, by show s0 + 0 ≤ 7293034; omega⟩) (fun H locs hP hS => ?_)
  refine lv_icmp_eq (tgt := 1032) hx hb dL_law_1027 (by decide) (fun w => ?_) (fun w => ?_)
  · have hf := if_t w hf
    obtain rfl := Option.some.inj hf
    exact kk _ _ _ hP hS (lv_sub hl [0, 1, 2, 3, 4] rfl)
  · have hf := if_f w hf
    refine lv_iconst (v := 0) hx hb dL_law_1030 (by decide) ?_
    cases hf
end
section
variable {p : Program} {l : Launch} {e : Env} {s : State} {m : MethodId} {below : List Frame} {meth : Method} {c : Code} {D : va_G} {ca : Nat → ClassId} {ad : Nat → Nat} {b L : Nat} {xs : Nat → Int32}

theorem law_lt {L i : Nat} (hL : L ≤ 3584) (hi : i ≤ 3600) : (Int32.ofNat L - 7 < nI i) ↔ L < i + 7 := by
  have e1 : (Int32.ofNat L).toInt = L := nI_toInt (by omega)
  have e2 : (7 : Int32).toInt = 7 := by decide
  have e3 : (nI i).toInt = i := nI_toInt (by omega)
  have e4 : (Int32.ofNat L - 7).toInt = L - 7 := by rw [Int32.toInt_sub, e1, e2]; exact Int.bmod_eq_of_le (by omega) (by omega)
  rw [Int32.lt_iff_toInt_lt, e3, e4]
  omega
set_option maxRecDepth 100000 in
set_option maxHeartbeats 4000000 in
theorem law_loop (hst : l.stackTraces = false) (hj : Inj ad) (hx : p.tables.exec = Jvm.exec) (hb : c.code = cL_law) (hml : c.maxLocals = 7) (hown : s.vm.findClass RL = some m.cls) (hts : ∀ w ∈ wzL_law, w.before #[Value.ref b] s = true) (hX : va_X b L xs s s.heap) (hbl : b < s.heap.size) (hbA : ¬ Aq ad s.heap.size b) (hKK : KK D ca s) (hE : EX (Aq ad s.heap.size) s s.heap) (hN : NC s) (hr : meth.sig.returnType = ret) (hlocks : meth.locks = false) (hL : L ≤ 3584) (hnew : ∀ q, Aq ad s.heap.size q → s.heap.size ≤ q) : ∀ (fuel i r c0 s0 : Nat) (S : QS), lp_law L xs fuel (nI i) S = some () → i ≤ L → L ≤ i + 7 * r + 6 → c0 + 16 * r ≤ 601024 → s0 + 96 * r ≤ 7293034 → ∀ (vi : Int32), vi = nI i → ∀ (H : Heap) (locs : List Loc) (ls : Array Slot), va_P D vwCl (wd ca ad S) H → va_S (Aq ad s.heap.size) s.heap H locs → lv_has ls 7 [(0, .ref b), (1, .ref (ad 0)), (2, .ref (ad 48)), (3, .ref (ad 67)), (4, .int vi)] → W p l e room_1 s m #[Value.ref b] below meth c H locs c0 s0 (lw_Z below #[Value.ref b] s) (F0 m 23 ls []) := by
  intro fuel
  induction fuel with
  | zero =>
    intro i r c0 s0 S hf
    simp [lp_law] at hf
  | succ fuel ih =>
    intro i r c0 s0 S hf hi hir hC hSl vi e4 H locs ls hP hS hl
    rw [lp_law, ← e4] at hf
    refine lv_iload hx hb dL_law_23 (lv_at hl 4 rfl) ?_
    refine lv_aload_n hx hb dL_law_25 rfl (lv_at hl 0 rfl) ?_
    refine va_slen hx hb hX hbl hbA hS dL_law_26 ?_
    refine lv_bipush (v := 7) hx hb dL_law_27 (by decide) ?_
    refine lv_isub hx hb dL_law_29 ?_
    refine lv_icmp_gt (tgt := 1038) hx hb dL_law_30 (by decide) (fun w => ?_) (fun w => ?_)
    · refine lv_iconst (v := 1) hx hb dL_law_1038 (by decide) ?_
      refine va_forget (fun q hq => hnew _ (hS.2.2 q hq)) ?_
      refine W.widen (k := 601024) (n := 7293034) (by omega) (by omega) ?_
      exact lw_ret hx hb hr hlocks dL_law_1039
    · have hf := if_f w hf
      have hi7 : i + 7 ≤ L := by rw [e4, law_lt hL (by omega)] at w; omega
      have next : ∀ (k : Nat), k ≤ 16 → ∀ (S1 : QS), lp_law L xs fuel (vi + 7) S1 = some () → ∀ (H : Heap) (locs : List Loc) (ls : Array Slot), va_P D vwCl (wd ca ad S1) H → va_S (Aq ad s.heap.size) s.heap H locs → lv_has ls 7 [(0, .ref b), (1, .ref (ad 0)), (2, .ref (ad 48)), (3, .ref (ad 67)), (4, .int vi)] → W p l e room_1 s m #[Value.ref b] below meth c H locs (c0 + k) (s0 + 6 * k) (lw_Z below #[Value.ref b] s) (F0 m 1032 ls []) := by
        intro k hk S1 hf H locs ls hP hS hl
        have e7 : vi + 7 = nI (i + 7) := by rw [e4]; exact nI_add i 7
        refine lv_iinc (v := (vi + 7)) (lv' := [(4, .int (vi + 7)), (0, .ref b), (1, .ref (ad 0)), (2, .ref (ad 48)), (3, .ref (ad 67))]) hx hb dL_law_1032 hl (k := 4) rfl rfl (by decide) rfl (fun ls hl => ?_)
        refine lv_goto (tgt := 23) hx hb dL_law_1035 (by decide) ?_
        obtain ⟨r, rfl⟩ : ∃ r1, r = r1 + 1 := ⟨r - 1, by omega⟩
        exact ih (i + 7) r (c0 + k) (s0 + 6 * k) S1 (by rw [← e7]; exact hf) (by omega) (by omega) (by omega) (by omega) (vi + 7) e7 _ _ _ hP hS (lv_sub hl [1, 2, 3, 4, 0] rfl)
      have hC1 : c0 + 16 ≤ 601024 := by omega
      have hSl1 : s0 + 96 ≤ 7293034 := by omega
      obtain ⟨v, h1, hf⟩ := bd_e hf
      obtain ⟨h1z, h1e⟩ := q_rdX h1
      refine lv_aload_n hx hb dL_law_33 rfl (lv_at hl 0 rfl) ?_
      refine lv_iload hx hb dL_law_34 (lv_at hl 4 rfl) ?_
      refine va_sld hx hb hX hbl hbA hS h1z dL_law_36 ?_
      rw [← h1e]
      refine lv_bipush (v := 15) hx hb dL_law_37 (by decide) ?_
      refine lv_iand hx hb dL_law_39 ?_
      obtain ⟨S1, h2, hf⟩ := bd_e hf
      unfold st_law at h2
      generalize v &&& 15 = y at h2 ⊢
      by_cases w0 : y = 0
      · have h2 := if_t w0 h2
        rw [w0]
        refine lv_tableIn (off := 80) (tgt := 120) hx hb dL_law_40 (by decide) (by decide) (by decide) (by decide) ?_
        exact law_c0 hst hj hx hb hml hown hts hX hbl hbA hKK hE hN hC1 hSl1 vi S S1 h2 (fun H locs ls hP hS hl => next 2 (by decide) S1 hf H locs ls hP hS hl) H locs ls hP hS hl
      · have h2 := if_f w0 h2
        by_cases w1 : y = 1
        · have h2 := if_t w1 h2
          rw [w1]
          refine lv_tableIn (off := 128) (tgt := 168) hx hb dL_law_40 (by decide) (by decide) (by decide) (by decide) ?_
          exact law_c1 hst hj hx hb hml hown hts hX hbl hbA hKK hE hN hC1 hSl1 vi S S1 h2 (fun H locs ls hP hS hl => next 4 (by decide) S1 hf H locs ls hP hS hl) H locs ls hP hS hl
        · have h2 := if_f w1 h2
          by_cases w2 : y = 2
          · have h2 := if_t w2 h2
            rw [w2]
            refine lv_tableIn (off := 262) (tgt := 302) hx hb dL_law_40 (by decide) (by decide) (by decide) (by decide) ?_
            exact law_c2 hst hj hx hb hml hown hts hX hbl hbA hKK hE hN hC1 hSl1 vi S S1 h2 (fun H locs ls hP hS hl => next 1 (by decide) S1 hf H locs ls hP hS hl) H locs ls hP hS hl
          · have h2 := if_f w2 h2
            by_cases w3 : y = 3
            · have h2 := if_t w3 h2
              rw [w3]
              refine lv_tableIn (off := 353) (tgt := 393) hx hb dL_law_40 (by decide) (by decide) (by decide) (by decide) ?_
              exact law_c3 hst hj hx hb hml hown hts hX hbl hbA hKK hE hN hC1 hSl1 vi S S1 h2 (fun H locs ls hP hS hl => next 4 (by decide) S1 hf H locs ls hP hS hl) H locs ls hP hS hl
            · have h2 := if_f w3 h2
              by_cases w4 : y = 4
              · have h2 := if_t w4 h2
                rw [w4]
                refine lv_tableIn (off := 425) (tgt := 465) hx hb dL_law_40 (by decide) (by decide) (by decide) (by decide) ?_
                exact law_c4 hst hj hx hb hml hown hts hX hbl hbA hKK hE hN hC1 hSl1 vi S S1 h2 (fun H locs ls hP hS hl => next 4 (by decide) S1 hf H locs ls hP hS hl) H locs ls hP hS hl
              · have h2 := if_f w4 h2
                by_cases w5 : y = 5
                · have h2 := if_t w5 h2
                  rw [w5]
                  refine lv_tableIn (off := 517) (tgt := 557) hx hb dL_law_40 (by decide) (by decide) (by decide) (by decide) ?_
                  exact law_c5 hst hj hx hb hml hown hts hX hbl hbA hKK hE hN hC1 hSl1 vi S S1 h2 (fun H locs ls hP hS hl => next 0 (by decide) S1 hf H locs ls hP hS hl) H locs ls hP hS hl
                · have h2 := if_f w5 h2
                  by_cases w6 : y = 6
                  · have h2 := if_t w6 h2
                    rw [w6]
                    refine lv_tableIn (off := 530) (tgt := 570) hx hb dL_law_40 (by decide) (by decide) (by decide) (by decide) ?_
                    exact law_c6 hst hj hx hb hml hown hts hX hbl hbA hKK hE hN hC1 hSl1 vi S S1 h2 (fun H locs ls hP hS hl => next 0 (by decide) S1 hf H locs ls hP hS hl) H locs ls hP hS hl
                  · have h2 := if_f w6 h2
                    by_cases w7 : y = 7
                    · have h2 := if_t w7 h2
                      rw [w7]
                      refine lv_tableIn (off := 544) (tgt := 584) hx hb dL_law_40 (by decide) (by decide) (by decide) (by decide) ?_
                      exact law_c7 hst hj hx hb hml hown hts hX hbl hbA hKK hE hN hC1 hSl1 vi S S1 h2 (fun H locs ls hP hS hl => next 4 (by decide) S1 hf H locs ls hP hS hl) H locs ls hP hS hl
                    · have h2 := if_f w7 h2
                      by_cases w8 : y = 8
                      · have h2 := if_t w8 h2
                        rw [w8]
                        refine lv_tableIn (off := 668) (tgt := 708) hx hb dL_law_40 (by decide) (by decide) (by decide) (by decide) ?_
                        exact law_c8 hst hj hx hb hml hown hts hX hbl hbA hKK hE hN hC1 hSl1 vi S S1 h2 (fun H locs ls hP hS hl => next 0 (by decide) S1 hf H locs ls hP hS hl) H locs ls hP hS hl
                      · have h2 := if_f w8 h2
                        by_cases w9 : y = 9
                        · have h2 := if_t w9 h2
                          rw [w9]
                          refine lv_tableIn (off := 693) (tgt := 733) hx hb dL_law_40 (by decide) (by decide) (by decide) (by decide) ?_
                          exact law_c9 hst hj hx hb hml hown hts hX hbl hbA hKK hE hN hC1 hSl1 vi S S1 h2 (fun H locs ls hP hS hl => next 0 (by decide) S1 hf H locs ls hP hS hl) H locs ls hP hS hl
                        · have h2 := if_f w9 h2
                          by_cases w10 : y = 10
                          · have h2 := if_t w10 h2
                            rw [w10]
                            refine lv_tableIn (off := 706) (tgt := 746) hx hb dL_law_40 (by decide) (by decide) (by decide) (by decide) ?_
                            exact law_c10 hst hj hx hb hml hown hts hX hbl hbA hKK hE hN hC1 hSl1 vi S S1 h2 (fun H locs ls hP hS hl => next 0 (by decide) S1 hf H locs ls hP hS hl) H locs ls hP hS hl
                          · have h2 := if_f w10 h2
                            by_cases w11 : y = 11
                            · have h2 := if_t w11 h2
                              rw [w11]
                              refine lv_tableIn (off := 719) (tgt := 759) hx hb dL_law_40 (by decide) (by decide) (by decide) (by decide) ?_
                              exact law_c11 hst hj hx hb hml hown hts hX hbl hbA hKK hE hN hC1 hSl1 vi S S1 h2 (fun H locs ls hP hS hl => next 0 (by decide) S1 hf H locs ls hP hS hl) H locs ls hP hS hl
                            · have h2 := if_f w11 h2
                              by_cases w12 : y = 12
                              · have h2 := if_t w12 h2
                                rw [w12]
                                refine lv_tableIn (off := 732) (tgt := 772) hx hb dL_law_40 (by decide) (by decide) (by decide) (by decide) ?_
                                exact law_c12 hst hj hx hb hml hown hts hX hbl hbA hKK hE hN hC1 hSl1 vi S S1 h2 (fun H locs ls hP hS hl => next 4 (by decide) S1 hf H locs ls hP hS hl) H locs ls hP hS hl
                              · have h2 := if_f w12 h2
                                by_cases w13 : y = 13
                                · have h2 := if_t w13 h2
                                  rw [w13]
                                  refine lv_tableIn (off := 812) (tgt := 852) hx hb dL_law_40 (by decide) (by decide) (by decide) (by decide) ?_
                                  exact law_c13 hst hj hx hb hml hown hts hX hbl hbA hKK hE hN hC1 hSl1 vi S S1 h2 (fun H locs ls hP hS hl => next 2 (by decide) S1 hf H locs ls hP hS hl) H locs ls hP hS hl
                                · have h2 := if_f w13 h2
                                  by_cases w14 : y = 14
                                  · have h2 := if_t w14 h2
                                    rw [w14]
                                    refine lv_tableIn (off := 880) (tgt := 920) hx hb dL_law_40 (by decide) (by decide) (by decide) (by decide) ?_
                                    exact law_c14 hst hj hx hb hml hown hts hX hbl hbA hKK hE hN hC1 hSl1 vi S S1 h2 (fun H locs ls hP hS hl => next 3 (by decide) S1 hf H locs ls hP hS hl) H locs ls hP hS hl
                                  · have h2 := if_f w14 h2
                                    by_cases w15 : y = 15
                                    · have h2 := if_t w15 h2
                                      rw [w15]
                                      refine lv_tableIn (off := 967) (tgt := 1007) hx hb dL_law_40 (by decide) (by decide) (by decide) (by decide) ?_
                                      exact law_c15 hst hj hx hb hml hown hts hX hbl hbA hKK hE hN hC1 hSl1 vi S S1 h2 (fun H locs ls hP hS hl => next 0 (by decide) S1 hf H locs ls hP hS hl) H locs ls hP hS hl
                                    · have h2 := if_f w15 h2
                                      refine lv_tableOut (tgt := 1032) hx hb dL_law_40 (q_out16 w0 w1 w2 w3 w4 w5 w6 w7 w8 w9 w10 w11 w12 w13 w14 w15) (by decide) ?_
                                      obtain rfl := Option.some.inj h2
                                      exact next 0 (by decide) S hf H locs ls hP hS hl
end
