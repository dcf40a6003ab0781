def rm_L_mass : Room := { frames := 9, cells := 2, slots := 12, locals := 154 }
set_option maxRecDepth 100000 in
set_option maxHeartbeats 4000000 in
theorem m_L_mass (l : Launch) (hst : l.stackTraces = false) (D : va_G) (ca : Nat → ClassId) (ad : Nat → Nat) (hj : Inj ad) (a2 : Int32) (a3 : Int32) (S : QS) (o : Int32 × QS) (hf : f_L_mass a2 a3 S = some o) : Cq l D ca ad yL_mass wsL_mass rm_L_mass [.ref (ad 0), .int a2, .int a3] S o.1 o.2 2 12 := by
  intro sz
  refine va_MetW (cc := cL_mass) (maxL := 4) (ret := (some .int)) (by decide) rfl ?_
  intro p e s m args below meth c s₁ B hml hv
  obtain ⟨hav, ⟨⟨hsz, hP, hKK⟩, hE⟩, hN⟩ := hv
  have hx := B.exec
  have hb := B.bytes
  have hr := B.returns
  have hts := atoms_spec (ws := wsL_mass) B.pre
  have hown : s.vm.findClass RL = some m.cls := findClass_of_methodNamed B.named
  have hlocks := B.notSynchronized
  have hT : c.exceptionTable.toList = [⟨0, 6, 9, 13⟩, ⟨0, 6, 12, 15⟩] := vx_table (x := yL_mass) B (hts _ List.mem_cons_self)
  subst hsz
  have K13 := hts (Cond.classLink RL 13 "java/lang/IndexOutOfBoundsException") (List.mem_cons_of_mem _ (List.mem_append_left _ (List.mem_append_left _ (List.mem_append_left _ (List.mem_append_left _ (List.mem_append_left _ (List.mem_append_left _ (List.mem_of_getElem? (i := 0) rfl))))))))
  have K15 := hts (Cond.classLink RL 15 "java/lang/IllegalArgumentException") (List.mem_cons_of_mem _ (List.mem_append_left _ (List.mem_append_left _ (List.mem_append_left _ (List.mem_append_left _ (List.mem_append_left _ (List.mem_append_left _ (List.mem_of_getElem? (i := 1) rfl))))))))
  have hl := lv_entry [.ref (ad 0), .int a2, .int a3] (n := 4) (Nat.le_of_ble_eq_true rfl)
  rw [show entryFrame m args 4 = entryFrame m ([.ref (ad 0), .int a2, .int a3] : List Value).toArray 4 by rw [hav], lg_entry_eq]
  generalize (lg_sl [.ref (ad 0), .int a2, .int a3] ++ List.replicate (4 - (lg_sl [.ref (ad 0), .int a2, .int a3]).length) Slot.unset).toArray = ls at hl ⊢
  have hl : lv_has ls 4 [(0, .ref (ad 0)), (1, .int a2), (2, .int a3)] := hl
  have main : ∀ (H : Heap) (locs : List Loc) (ls : Array Slot), va_P D vwCl (wd ca ad S) H → va_S (Aq ad s.heap.size) s.heap H locs → lv_has ls 4 [(0, .ref (ad 0)), (1, .int a2), (2, .int a3)] → W p l e rm_L_mass s m args below meth c H locs 0 0 (Zq below D ca ad args s 2 12 o.1 o.2) (F0 m 0 ls []) := by
    intro H locs ls hP hS hl
    unfold f_L_mass at hf
    refine lv_aload_n hx hb dL_mass_0 rfl (lv_at hl 0 rfl) ?_
    refine lv_iload_n hx hb dL_mass_1 rfl (lv_at hl 1 rfl) ?_
    refine lv_iload_n hx hb dL_mass_2 rfl (lv_at hl 2 rfl) ?_
    obtain ⟨o3, ho3⟩ := bh_e hf
    refine y_v hS (vx_runV (As := [.int a2, .int a3]) (rest := []) ⟨hx, hb, hml, hown, hts⟩ (m_X5_mass l hst D ca ad hj a2 a3 S o3 ho3 H.size) (cwV 2 hts gL_mass_X5_mass rfl rfl rfl (by decide +kernel) ⟨Nat.le_of_ble_eq_true rfl, Nat.le_of_ble_eq_true rfl⟩) (x_preV hE hS hKK hP (show qk 0 = 5 from rfl) rfl) rfl rfl hl.1 rfl (lv_room (Nat.le_of_ble_eq_true rfl)) dL_mass_3 ⟨Nat.le_of_ble_eq_true rfl, Nat.le_of_ble_eq_true rfl⟩) (fun E ce q9 S9 H locs hu hP hS h1 h2 h3 => ?_) (fun S2 H locs hu hP hS => ?_)
    · have hf := bh_q hf ho3 hu
      by_cases w0 : E = "java/lang/IndexOutOfBoundsException"
      · have hf := if_t w0 hf
        subst w0
        refine vx_catch hown [] (⟨0, 6, 9, 13⟩ : ExceptionTableEntry) [(⟨0, 6, 12, 15⟩ : ExceptionTableEntry)] hT (fun _ h => nomatch h) rfl (by decide) K13 (va_Nw.use rfl (hE.2.2.2 _ (List.mem_of_getElem? (i := 3) rfl))) h1 h2 h3 ?_
        refine lv_astore_n (lv' := [(3, .ref q9), (0, .ref (ad 0)), (1, .int a2), (2, .int a3)]) hx hb dL_mass_9 rfl hl (by decide) rfl (fun ls hl => ?_)
        refine lv_iconst (v := 1) hx hb dL_mass_10 (by decide) ?_
        obtain rfl := Option.some.inj hf
        exact W.widen (Nat.le_of_ble_eq_true rfl) (Nat.le_of_ble_eq_true rfl) (r_iret hx hb hr hP hS dL_mass_11 hlocks)
      · have hf := if_f w0 hf
        by_cases w1 : E = "java/lang/IllegalArgumentException"
        · have hf := if_t w1 hf
          subst w1
          refine vx_catch hown [(⟨0, 6, 9, 13⟩ : ExceptionTableEntry)] (⟨0, 6, 12, 15⟩ : ExceptionTableEntry) [] hT (List.forall_mem_cons.mpr ⟨Or.inr ⟨by decide, _, K13, hN ("java/lang/IllegalArgumentException", "java/lang/IndexOutOfBoundsException") (by decide)⟩, (fun _ h => nomatch h)⟩) rfl (by decide) K15 (va_Nw.use rfl (hE.2.2.2 _ (List.mem_of_getElem? (i := 4) rfl))) h1 h2 h3 ?_
          refine lv_astore_n (lv' := [(3, .ref q9), (0, .ref (ad 0)), (1, .int a2), (2, .int a3)]) hx hb dL_mass_12 rfl hl (by decide) rfl (fun ls hl => ?_)
          refine lv_iconst (v := 2) hx hb dL_mass_13 (by decide) ?_
          obtain rfl := Option.some.inj hf
          exact W.widen (Nat.le_of_ble_eq_true rfl) (Nat.le_of_ble_eq_true rfl) (r_iret hx hb hr hP hS dL_mass_14 hlocks)
        · have hf := if_f w1 hf
          cases hf
    · have hf := bh_r hf ho3 hu
      refine lv_goto (tgt := 15) hx hb dL_mass_6 (by decide) ?_
      refine lv_iconst (v := 0) hx hb dL_mass_15 (by decide) ?_
      obtain rfl := Option.some.inj hf
      exact W.widen (Nat.le_of_ble_eq_true rfl) (Nat.le_of_ble_eq_true rfl) (r_iret hx hb hr hP hS dL_mass_16 hlocks)
  exact main s.heap [] ls hP va_S.rf hl
def rm_L_skid : Room := { frames := 8, cells := 4, slots := 24, locals := 140 }
set_option maxRecDepth 100000 in
set_option maxHeartbeats 4000000 in
theorem m_L_skid (l : Launch) (hst : l.stackTraces = false) (D : va_G) (ca : Nat → ClassId) (ad : Nat → Nat) (hj : Inj ad) (a2 : Int32) (a3 : Int32) (a4 : Int32) (a5 : Int32) (a6 : Int32) (a7 : Int32) (S : QS) (o : Int32 × QS) (hf : f_L_skid a2 a3 a4 a5 a6 a7 S = some o) : Cq l D ca ad yL_skid wsL_skid rm_L_skid [.ref (ad 0), .int a2, .int a3, .int a4, .int a5, .int a6, .int a7, .ref (ad 67)] S o.1 o.2 4 24 := by
  intro sz
  refine va_MetW (cc := cL_skid) (maxL := 9) (ret := (some .int)) (by decide) rfl ?_
  intro p e s m args below meth c s₁ B hml hv
  obtain ⟨hav, ⟨⟨hsz, hP, hKK⟩, hE⟩, hN⟩ := hv
  have hx := B.exec
  have hb := B.bytes
  have hr := B.returns
  have hts := atoms_spec (ws := wsL_skid) B.pre
  have hown : s.vm.findClass RL = some m.cls := findClass_of_methodNamed B.named
  have hlocks := B.notSynchronized
  have hT : c.exceptionTable.toList = [⟨0, 18, 21, 13⟩, ⟨0, 18, 25, 15⟩, ⟨0, 18, 29, 21⟩] := vx_table (x := yL_skid) B (hts _ List.mem_cons_self)
  subst hsz
  have K13 := hts (Cond.classLink RL 13 "java/lang/IndexOutOfBoundsException") (List.mem_cons_of_mem _ (List.mem_append_left _ (List.mem_append_left _ (List.mem_append_left _ (List.mem_append_left _ (List.mem_append_left _ (List.mem_append_left _ (List.mem_of_getElem? (i := 0) rfl))))))))
  have K15 := hts (Cond.classLink RL 15 "java/lang/IllegalArgumentException") (List.mem_cons_of_mem _ (List.mem_append_left _ (List.mem_append_left _ (List.mem_append_left _ (List.mem_append_left _ (List.mem_append_left _ (List.mem_append_left _ (List.mem_of_getElem? (i := 1) rfl))))))))
  have K21 := hts (Cond.classLink RL 21 "java/lang/UnsupportedOperationException") (List.mem_cons_of_mem _ (List.mem_append_left _ (List.mem_append_left _ (List.mem_append_left _ (List.mem_append_left _ (List.mem_append_left _ (List.mem_append_left _ (List.mem_of_getElem? (i := 2) rfl))))))))
  have hl := lv_entry [.ref (ad 0), .int a2, .int a3, .int a4, .int a5, .int a6, .int a7, .ref (ad 67)] (n := 9) (Nat.le_of_ble_eq_true rfl)
  rw [show entryFrame m args 9 = entryFrame m ([.ref (ad 0), .int a2, .int a3, .int a4, .int a5, .int a6, .int a7, .ref (ad 67)] : List Value).toArray 9 by rw [hav], lg_entry_eq]
  generalize (lg_sl [.ref (ad 0), .int a2, .int a3, .int a4, .int a5, .int a6, .int a7, .ref (ad 67)] ++ List.replicate (9 - (lg_sl [.ref (ad 0), .int a2, .int a3, .int a4, .int a5, .int a6, .int a7, .ref (ad 67)]).length) Slot.unset).toArray = ls at hl ⊢
  have hl : lv_has ls 9 [(0, .ref (ad 0)), (1, .int a2), (2, .int a3), (3, .int a4), (4, .int a5), (5, .int a6), (6, .int a7), (7, .ref (ad 67))] := hl
  have main : ∀ (H : Heap) (locs : List Loc) (ls : Array Slot), va_P D vwCl (wd ca ad S) H → va_S (Aq ad s.heap.size) s.heap H locs → lv_has ls 9 [(0, .ref (ad 0)), (1, .int a2), (2, .int a3), (3, .int a4), (4, .int a5), (5, .int a6), (6, .int a7), (7, .ref (ad 67))] → W p l e rm_L_skid s m args below meth c H locs 0 0 (Zq below D ca ad args s 4 24 o.1 o.2) (F0 m 0 ls []) := by
    intro H locs ls hP hS hl
    unfold f_L_skid at hf
    refine lv_aload hx hb dL_skid_0 (lv_at hl 7 rfl) ?_
    refine lv_iconst (v := 0) hx hb dL_skid_2 (by decide) ?_
    refine lv_aload_n hx hb dL_skid_3 rfl (lv_at hl 0 rfl) ?_
    refine lv_iload_n hx hb dL_skid_4 rfl (lv_at hl 1 rfl) ?_
    refine lv_iload_n hx hb dL_skid_5 rfl (lv_at hl 2 rfl) ?_
    refine lv_iload_n hx hb dL_skid_6 rfl (lv_at hl 3 rfl) ?_
    refine lv_iload hx hb dL_skid_7 (lv_at hl 4 rfl) ?_
    refine lv_iload hx hb dL_skid_9 (lv_at hl 5 rfl) ?_
    refine lv_iload hx hb dL_skid_11 (lv_at hl 6 rfl) ?_
    obtain ⟨o3, ho3⟩ := bh_e hf
    refine y_i hS (vx_runV (As := [.int a2, .int a3, .int a4, .int a5, .int a6, .int a7]) (rest := [.int 0, .ref (ad 67)]) ⟨hx, hb, hml, hown, hts⟩ (m_X5_skid l hst D ca ad hj a2 a3 a4 a5 a6 a7 S o3 ho3 H.size) (cwV 6 hts gL_skid_X5_skid rfl rfl rfl (by decide +kernel) ⟨Nat.le_of_ble_eq_true rfl, Nat.le_of_ble_eq_true rfl⟩) (x_preV hE hS hKK hP (show qk 0 = 5 from rfl) rfl) rfl rfl hl.1 rfl (lv_room (Nat.le_of_ble_eq_true rfl)) dL_skid_13 ⟨Nat.le_of_ble_eq_true rfl, Nat.le_of_ble_eq_true rfl⟩) (fun E ce q9 S9 H locs hu hP hS h1 h2 h3 => ?_) (fun q2 H locs hu hP hS => ?_)
    · have hf := bh_q hf ho3 hu
      by_cases w0 : E = "java/lang/IndexOutOfBoundsException"
      · have hf := if_t w0 hf
        subst w0
        refine vx_catch hown [] (⟨0, 18, 21, 13⟩ : ExceptionTableEntry) [(⟨0, 18, 25, 15⟩ : ExceptionTableEntry), (⟨0, 18, 29, 21⟩ : ExceptionTableEntry)] hT (fun _ h => nomatch h) rfl (by decide) K13 (va_Nw.use rfl (hE.2.2.2 _ (List.mem_of_getElem? (i := 3) rfl))) h1 h2 h3 ?_
        refine lv_astore (lv' := [(8, .ref q9), (0, .ref (ad 0)), (1, .int a2), (2, .int a3), (3, .int a4), (4, .int a5), (5, .int a6), (6, .int a7), (7, .ref (ad 67))]) hx hb dL_skid_21 hl (by decide) rfl (fun ls hl => ?_)
        refine lv_iconst (v := 1) hx hb dL_skid_23 (by decide) ?_
        obtain rfl := Option.some.inj hf
        exact W.widen (Nat.le_of_ble_eq_true rfl) (Nat.le_of_ble_eq_true rfl) (r_iret hx hb hr hP hS dL_skid_24 hlocks)
      · have hf := if_f w0 hf
        by_cases w1 : E = "java/lang/IllegalArgumentException"
        · have hf := if_t w1 hf
          subst w1
          refine vx_catch hown [(⟨0, 18, 21, 13⟩ : ExceptionTableEntry)] (⟨0, 18, 25, 15⟩ : ExceptionTableEntry) [(⟨0, 18, 29, 21⟩ : ExceptionTableEntry)] hT (List.forall_mem_cons.mpr ⟨Or.inr ⟨by decide, _, K13, hN ("java/lang/IllegalArgumentException", "java/lang/IndexOutOfBoundsException") (by decide)⟩, (fun _ h => nomatch h)⟩) rfl (by decide) K15 (va_Nw.use rfl (hE.2.2.2 _ (List.mem_of_getElem? (i := 4) rfl))) h1 h2 h3 ?_
          refine lv_astore (lv' := [(8, .ref q9), (0, .ref (ad 0)), (1, .int a2), (2, .int a3), (3, .int a4), (4, .int a5), (5, .int a6), (6, .int a7), (7, .ref (ad 67))]) hx hb dL_skid_25 hl (by decide) rfl (fun ls hl => ?_)
          refine lv_iconst (v := 2) hx hb dL_skid_27 (by decide) ?_
          obtain rfl := Option.some.inj hf
          exact W.widen (Nat.le_of_ble_eq_true rfl) (Nat.le_of_ble_eq_true rfl) (r_iret hx hb hr hP hS dL_skid_28 hlocks)
        · have hf := if_f w1 hf
          by_cases w2 : E = "java/lang/UnsupportedOperationException"
          · have hf := if_t w2 hf
            subst w2
            refine vx_catch hown [(⟨0, 18, 21, 13⟩ : ExceptionTableEntry), (⟨0, 18, 25, 15⟩ : ExceptionTableEntry)] (⟨0, 18, 29, 21⟩ : ExceptionTableEntry) [] hT (List.forall_mem_cons.mpr ⟨Or.inr ⟨by decide, _, K13, hN ("java/lang/UnsupportedOperationException", "java/lang/IndexOutOfBoundsException") (by decide)⟩, (List.forall_mem_cons.mpr ⟨Or.inr ⟨by decide, _, K15, hN ("java/lang/UnsupportedOperationException", "java/lang/IllegalArgumentException") (by decide)⟩, (fun _ h => nomatch h)⟩)⟩) rfl (by decide) K21 (va_Nw.use rfl (hE.2.2.2 _ (List.mem_of_getElem? (i := 5) rfl))) h1 h2 h3 ?_
            refine lv_astore (lv' := [(8, .ref q9), (0, .ref (ad 0)), (1, .int a2), (2, .int a3), (3, .int a4), (4, .int a5), (5, .int a6), (6, .int a7), (7, .ref (ad 67))]) hx hb dL_skid_29 hl (by decide) rfl (fun ls hl => ?_)
            refine lv_iconst (v := 3) hx hb dL_skid_31 (by decide) ?_
            obtain rfl := Option.some.inj hf
            exact W.widen (Nat.le_of_ble_eq_true rfl) (Nat.le_of_ble_eq_true rfl) (r_iret hx hb hr hP hS dL_skid_32 hlocks)
          · have hf := if_f w2 hf
            cases hf
    · have hf := bh_r hf ho3 hu
      refine lv_i2l (v := q2.1.toInt64) hx hb dL_skid_16 rfl ?_
      obtain ⟨S4, h5, hf⟩ := bd_e hf
      obtain rfl := Option.some.inj h5
      refine r_last hx hb hj hKK hP hS dL_skid_17 (fun H locs hP hS => ?_)
      refine lv_goto (tgt := 33) hx hb dL_skid_18 (by decide) ?_
      refine lv_iconst (v := 0) hx hb dL_skid_33 (by decide) ?_
      obtain rfl := Option.some.inj hf
      exact W.widen (Nat.le_of_ble_eq_true rfl) (Nat.le_of_ble_eq_true rfl) (r_iret hx hb hr hP hS dL_skid_34 hlocks)
  exact main s.heap [] ls hP va_S.rf hl
def rm_L_drop : Room := { frames := 8, cells := 1, slots := 6, locals := 134 }
set_option maxRecDepth 100000 in
set_option maxHeartbeats 4000000 in
theorem m_L_drop (l : Launch) (hst : l.stackTraces = false) (D : va_G) (ca : Nat → ClassId) (ad : Nat → Nat) (hj : Inj ad) (a2 : Int32) (a3 : Int32) (S : QS) (o : Int32 × QS) (hf : f_L_drop a2 a3 S = some o) : Cq l D ca ad yL_drop wsL_drop rm_L_drop [.ref (ad 0), .int a2, .int a3, .ref (ad 67)] S o.1 o.2 1 6 := by
  intro sz
  refine va_MetW (cc := cL_drop) (maxL := 5) (ret := (some .int)) (by decide) rfl ?_
  intro p e s m args below meth c s₁ B hml hv
  obtain ⟨hav, ⟨⟨hsz, hP, hKK⟩, hE⟩, hN⟩ := hv
  have hx := B.exec
  have hb := B.bytes
  have hr := B.returns
  have hts := atoms_spec (ws := wsL_drop) B.pre
  have hown : s.vm.findClass RL = some m.cls := findClass_of_methodNamed B.named
  have hlocks := B.notSynchronized
  have hT : c.exceptionTable.toList = [⟨0, 17, 20, 13⟩] := vx_table (x := yL_drop) B (hts _ List.mem_cons_self)
  subst hsz
  have K13 := hts (Cond.classLink RL 13 "java/lang/IndexOutOfBoundsException") (List.mem_cons_of_mem _ (List.mem_append_left _ (List.mem_append_left _ (List.mem_append_left _ (List.mem_of_getElem? (i := 0) rfl)))))
  have hl := lv_entry [.ref (ad 0), .int a2, .int a3, .ref (ad 67)] (n := 5) (Nat.le_of_ble_eq_true rfl)
  rw [show entryFrame m args 5 = entryFrame m ([.ref (ad 0), .int a2, .int a3, .ref (ad 67)] : List Value).toArray 5 by rw [hav], lg_entry_eq]
  generalize (lg_sl [.ref (ad 0), .int a2, .int a3, .ref (ad 67)] ++ List.replicate (5 - (lg_sl [.ref (ad 0), .int a2, .int a3, .ref (ad 67)]).length) Slot.unset).toArray = ls at hl ⊢
  have hl : lv_has ls 5 [(0, .ref (ad 0)), (1, .int a2), (2, .int a3), (3, .ref (ad 67))] := hl
  have main : ∀ (H : Heap) (locs : List Loc) (ls : Array Slot), va_P D vwCl (wd ca ad S) H → va_S (Aq ad s.heap.size) s.heap H locs → lv_has ls 5 [(0, .ref (ad 0)), (1, .int a2), (2, .int a3), (3, .ref (ad 67))] → W p l e rm_L_drop s m args below meth c H locs 0 0 (Zq below D ca ad args s 1 6 o.1 o.2) (F0 m 0 ls []) := by
    intro H locs ls hP hS hl
    unfold f_L_drop at hf
    refine lv_aload_n hx hb dL_drop_0 rfl (lv_at hl 3 rfl) ?_
    refine lv_iconst (v := 0) hx hb dL_drop_1 (by decide) ?_
    refine lv_aload_n hx hb dL_drop_2 rfl (lv_at hl 0 rfl) ?_
    refine lv_iload_n hx hb dL_drop_3 rfl (lv_at hl 1 rfl) ?_
    refine lv_iload_n hx hb dL_drop_4 rfl (lv_at hl 2 rfl) ?_
    obtain ⟨o3, ho3⟩ := bh_e hf
    refine y_i hS (vx_runV (As := [.int a2, .int a3]) (rest := [.int 0, .ref (ad 67)]) ⟨hx, hb, hml, hown, hts⟩ (m_X5_drop l hst D ca ad hj a2 a3 S o3 ho3 H.size) (cwV 2 hts gL_drop_X5_drop rfl rfl rfl (by decide +kernel) ⟨Nat.le_of_ble_eq_true rfl, Nat.le_of_ble_eq_true rfl⟩) (x_preV hE hS hKK hP (show qk 0 = 5 from rfl) rfl) rfl rfl hl.1 rfl (lv_room (Nat.le_of_ble_eq_true rfl)) dL_drop_5 ⟨Nat.le_of_ble_eq_true rfl, Nat.le_of_ble_eq_true rfl⟩) (fun E ce q9 S9 H locs hu hP hS h1 h2 h3 => ?_) (fun q2 H locs hu hP hS => ?_)
    · have hf := bh_q hf ho3 hu
      by_cases w0 : E = "java/lang/IndexOutOfBoundsException"
      · have hf := if_t w0 hf
        subst w0
        refine vx_catch hown [] (⟨0, 17, 20, 13⟩ : ExceptionTableEntry) [] hT (fun _ h => nomatch h) rfl (by decide) K13 (va_Nw.use rfl (hE.2.2.2 _ (List.mem_of_getElem? (i := 3) rfl))) h1 h2 h3 ?_
        refine lv_astore (lv' := [(4, .ref q9), (0, .ref (ad 0)), (1, .int a2), (2, .int a3), (3, .ref (ad 67))]) hx hb dL_drop_20 hl (by decide) rfl (fun ls hl => ?_)
        refine lv_iconst (v := 1) hx hb dL_drop_22 (by decide) ?_
        obtain rfl := Option.some.inj hf
        exact W.widen (Nat.le_of_ble_eq_true rfl) (Nat.le_of_ble_eq_true rfl) (r_iret hx hb hr hP hS dL_drop_23 hlocks)
      · have hf := if_f w0 hf
        cases hf
    · have hf := bh_r hf ho3 hu
      obtain ⟨q4, hq4, hf⟩ := bd_e hf
      have J1 : ∀ (H : Heap) (locs : List Loc) (ls : Array Slot), va_P D vwCl (wd ca ad q2.2) H → va_S (Aq ad s.heap.size) s.heap H locs → lv_has ls 5 [] → W p l e rm_L_drop s m args below meth c H locs 1 6 (Zq below D ca ad args s 1 6 o.1 o.2) (F0 m 16 ls [.long q4, .int 0, .ref (ad 67)]) := by
        intro H locs ls hP hS hl
        obtain ⟨S5, h6, hf⟩ := bd_e hf
        obtain rfl := Option.some.inj h6
        refine r_last hx hb hj hKK hP hS dL_drop_16 (fun H locs hP hS => ?_)
        refine lv_goto (tgt := 24) hx hb dL_drop_17 (by decide) ?_
        refine lv_iconst (v := 0) hx hb dL_drop_24 (by decide) ?_
        obtain rfl := Option.some.inj hf
        exact W.widen (Nat.le_of_ble_eq_true rfl) (Nat.le_of_ble_eq_true rfl) (r_iret hx hb hr hP hS dL_drop_25 hlocks)
      replace hf := hq4
      refine lv_if_eq (tgt := 15) hx hb dL_drop_8 (by decide) (fun w => ?_) (fun w => ?_)
      · have hf := if_t w hf
        refine lv_lconst (v := 0) hx hb dL_drop_15 rfl ?_
        obtain rfl := Option.some.inj hf
        exact J1 _ _ _ hP hS (lv_sub hl [] rfl)
      · have hf := if_f w hf
        refine lv_lconst (v := 1) hx hb dL_drop_11 rfl ?_
        refine lv_goto (tgt := 16) hx hb dL_drop_12 (by decide) ?_
        obtain rfl := Option.some.inj hf
        exact J1 _ _ _ hP hS (lv_sub hl [] rfl)
  exact main s.heap [] ls hP va_S.rf hl
def rm_L_sure : Room := { frames := 10, cells := 4, slots := 24, locals := 178 }
set_option maxRecDepth 100000 in
set_option maxHeartbeats 4000000 in
theorem m_L_sure (l : Launch) (hst : l.stackTraces = false) (D : va_G) (ca : Nat → ClassId) (ad : Nat → Nat) (hj : Inj ad) (a2 : Int32) (a3 : Int32) (a4 : Int32) (a5 : Int32) (S : QS) (o : Int32 × QS) (hf : f_L_sure a2 a3 a4 a5 S = some o) : Cq l D ca ad yL_sure wsL_sure rm_L_sure [.ref (ad 0), .int a2, .int a3, .int a4, .int a5] S o.1 o.2 4 24 := by
  intro sz
  refine va_MetW (cc := cL_sure) (maxL := 6) (ret := (some .int)) (by decide) rfl ?_
  intro p e s m args below meth c s₁ B hml hv
  obtain ⟨hav, ⟨⟨hsz, hP, hKK⟩, hE⟩, hN⟩ := hv
  have hx := B.exec
  have hb := B.bytes
  have hr := B.returns
  have hts := atoms_spec (ws := wsL_sure) B.pre
  have hown : s.vm.findClass RL = some m.cls := findClass_of_methodNamed B.named
  have hlocks := B.notSynchronized
  have hT : c.exceptionTable.toList = [⟨0, 9, 12, 13⟩, ⟨0, 9, 16, 15⟩] := vx_table (x := yL_sure) B (hts _ List.mem_cons_self)
  subst hsz
  have K13 := hts (Cond.classLink RL 13 "java/lang/IndexOutOfBoundsException") (List.mem_cons_of_mem _ (List.mem_append_left _ (List.mem_append_left _ (List.mem_append_left _ (List.mem_append_left _ (List.mem_append_left _ (List.mem_append_left _ (List.mem_append_left _ (List.mem_of_getElem? (i := 0) rfl)))))))))
  have K15 := hts (Cond.classLink RL 15 "java/lang/IllegalArgumentException") (List.mem_cons_of_mem _ (List.mem_append_left _ (List.mem_append_left _ (List.mem_append_left _ (List.mem_append_left _ (List.mem_append_left _ (List.mem_append_left _ (List.mem_append_left _ (List.mem_of_getElem? (i := 1) rfl)))))))))
  have hl := lv_entry [.ref (ad 0), .int a2, .int a3, .int a4, .int a5] (n := 6) (Nat.le_of_ble_eq_true rfl)
  rw [show entryFrame m args 6 = entryFrame m ([.ref (ad 0), .int a2, .int a3, .int a4, .int a5] : List Value).toArray 6 by rw [hav], lg_entry_eq]
  generalize (lg_sl [.ref (ad 0), .int a2, .int a3, .int a4, .int a5] ++ List.replicate (6 - (lg_sl [.ref (ad 0), .int a2, .int a3, .int a4, .int a5]).length) Slot.unset).toArray = ls at hl ⊢
  have hl : lv_has ls 6 [(0, .ref (ad 0)), (1, .int a2), (2, .int a3), (3, .int a4), (4, .int a5)] := hl
  have main : ∀ (H : Heap) (locs : List Loc) (ls : Array Slot), va_P D vwCl (wd ca ad S) H → va_S (Aq ad s.heap.size) s.heap H locs → lv_has ls 6 [(0, .ref (ad 0)), (1, .int a2), (2, .int a3), (3, .int a4), (4, .int a5)] → W p l e rm_L_sure s m args below meth c H locs 0 0 (Zq below D ca ad args s 4 24 o.1 o.2) (F0 m 0 ls []) := by
    intro H locs ls hP hS hl
    unfold f_L_sure at hf
    refine lv_aload_n hx hb dL_sure_0 rfl (lv_at hl 0 rfl) ?_
    refine lv_iload_n hx hb dL_sure_1 rfl (lv_at hl 1 rfl) ?_
    refine lv_iload_n hx hb dL_sure_2 rfl (lv_at hl 2 rfl) ?_
    refine lv_iload_n hx hb dL_sure_3 rfl (lv_at hl 3 rfl) ?_
    refine lv_iload hx hb dL_sure_4 (lv_at hl 4 rfl) ?_
    obtain ⟨o3, ho3⟩ := bh_e hf
    refine y_v hS (vx_runV (As := [.int a2, .int a3, .int a4, .int a5]) (rest := []) ⟨hx, hb, hml, hown, hts⟩ (m_X5_sure l hst D ca ad hj a2 a3 a4 a5 S o3 ho3 H.size) (cwV 4 hts gL_sure_X5_sure rfl rfl rfl (by decide +kernel) ⟨Nat.le_of_ble_eq_true rfl, Nat.le_of_ble_eq_true rfl⟩) (x_preV hE hS hKK hP (show qk 0 = 5 from rfl) rfl) rfl rfl hl.1 rfl (lv_room (Nat.le_of_ble_eq_true rfl)) dL_sure_6 ⟨Nat.le_of_ble_eq_true rfl, Nat.le_of_ble_eq_true rfl⟩) (fun E ce q9 S9 H locs hu hP hS h1 h2 h3 => ?_) (fun S2 H locs hu hP hS => ?_)
    · have hf := bh_q hf ho3 hu
      by_cases w0 : E = "java/lang/IndexOutOfBoundsException"
      · have hf := if_t w0 hf
        subst w0
        refine vx_catch hown [] (⟨0, 9, 12, 13⟩ : ExceptionTableEntry) [(⟨0, 9, 16, 15⟩ : ExceptionTableEntry)] hT (fun _ h => nomatch h) rfl (by decide) K13 (va_Nw.use rfl (hE.2.2.2 _ (List.mem_of_getElem? (i := 3) rfl))) h1 h2 h3 ?_
        refine lv_astore (lv' := [(5, .ref q9), (0, .ref (ad 0)), (1, .int a2), (2, .int a3), (3, .int a4), (4, .int a5)]) hx hb dL_sure_12 hl (by decide) rfl (fun ls hl => ?_)
        refine lv_iconst (v := 1) hx hb dL_sure_14 (by decide) ?_
        obtain rfl := Option.some.inj hf
        exact W.widen (Nat.le_of_ble_eq_true rfl) (Nat.le_of_ble_eq_true rfl) (r_iret hx hb hr hP hS dL_sure_15 hlocks)
      · have hf := if_f w0 hf
        by_cases w1 : E = "java/lang/IllegalArgumentException"
        · have hf := if_t w1 hf
          subst w1
          refine vx_catch hown [(⟨0, 9, 12, 13⟩ : ExceptionTableEntry)] (⟨0, 9, 16, 15⟩ : ExceptionTableEntry) [] hT (List.forall_mem_cons.mpr ⟨Or.inr ⟨by decide, _, K13, hN ("java/lang/IllegalArgumentException", "java/lang/IndexOutOfBoundsException") (by decide)⟩, (fun _ h => nomatch h)⟩) rfl (by decide) K15 (va_Nw.use rfl (hE.2.2.2 _ (List.mem_of_getElem? (i := 4) rfl))) h1 h2 h3 ?_
          refine lv_astore (lv' := [(5, .ref q9), (0, .ref (ad 0)), (1, .int a2), (2, .int a3), (3, .int a4), (4, .int a5)]) hx hb dL_sure_16 hl (by decide) rfl (fun ls hl => ?_)
          refine lv_iconst (v := 2) hx hb dL_sure_18 (by decide) ?_
          obtain rfl := Option.some.inj hf
          exact W.widen (Nat.le_of_ble_eq_true rfl) (Nat.le_of_ble_eq_true rfl) (r_iret hx hb hr hP hS dL_sure_19 hlocks)
        · have hf := if_f w1 hf
          cases hf
    · have hf := bh_r hf ho3 hu
      refine lv_goto (tgt := 20) hx hb dL_sure_9 (by decide) ?_
      refine lv_iconst (v := 0) hx hb dL_sure_20 (by decide) ?_
      obtain rfl := Option.some.inj hf
      exact W.widen (Nat.le_of_ble_eq_true rfl) (Nat.le_of_ble_eq_true rfl) (r_iret hx hb hr hP hS dL_sure_21 hlocks)
  exact main s.heap [] ls hP va_S.rf hl
def rm_L_tale : Room := { frames := 9, cells := 4, slots := 24, locals := 156 }
set_option maxRecDepth 100000 in
set_option maxHeartbeats 4000000 in
theorem m_L_tale (l : Launch) (hst : l.stackTraces = false) (D : va_G) (ca : Nat → ClassId) (ad : Nat → Nat) (hj : Inj ad) (a2 : Int32) (a3 : Int32) (a4 : Int32) (a5 : Int32) (S : QS) (o : Int32 × QS) (hf : f_L_tale a2 a3 a4 a5 S = some o) : Cq l D ca ad yL_tale wsL_tale rm_L_tale [.ref (ad 0), .int a2, .int a3, .int a4, .int a5, .ref (ad 67)] S o.1 o.2 4 24 := by
  intro sz
  refine va_MetW (cc := cL_tale) (maxL := 7) (ret := (some .int)) (by decide) rfl ?_
  intro p e s m args below meth c s₁ B hml hv
  obtain ⟨hav, ⟨⟨hsz, hP, hKK⟩, hE⟩, hN⟩ := hv
  have hx := B.exec
  have hb := B.bytes
  have hr := B.returns
  have hts := atoms_spec (ws := wsL_tale) B.pre
  have hown : s.vm.findClass RL = some m.cls := findClass_of_methodNamed B.named
  have hlocks := B.notSynchronized
  have hT : c.exceptionTable.toList = [⟨0, 14, 17, 13⟩, ⟨0, 14, 21, 15⟩, ⟨0, 14, 25, 21⟩] := vx_table (x := yL_tale) B (hts _ List.mem_cons_self)
  subst hsz
  have K13 := hts (Cond.classLink RL 13 "java/lang/IndexOutOfBoundsException") (List.mem_cons_of_mem _ (List.mem_append_left _ (List.mem_append_left _ (List.mem_append_left _ (List.mem_append_left _ (List.mem_append_left _ (List.mem_append_left _ (List.mem_of_getElem? (i := 0) rfl))))))))
  have K15 := hts (Cond.classLink RL 15 "java/lang/IllegalArgumentException") (List.mem_cons_of_mem _ (List.mem_append_left _ (List.mem_append_left _ (List.mem_append_left _ (List.mem_append_left _ (List.mem_append_left _ (List.mem_append_left _ (List.mem_of_getElem? (i := 1) rfl))))))))
  have K21 := hts (Cond.classLink RL 21 "java/lang/UnsupportedOperationException") (List.mem_cons_of_mem _ (List.mem_append_left _ (List.mem_append_left _ (List.mem_append_left _ (List.mem_append_left _ (List.mem_append_left _ (List.mem_append_left _ (List.mem_of_getElem? (i := 2) rfl))))))))
  have hl := lv_entry [.ref (ad 0), .int a2, .int a3, .int a4, .int a5, .ref (ad 67)] (n := 7) (Nat.le_of_ble_eq_true rfl)
  rw [show entryFrame m args 7 = entryFrame m ([.ref (ad 0), .int a2, .int a3, .int a4, .int a5, .ref (ad 67)] : List Value).toArray 7 by rw [hav], lg_entry_eq]
  generalize (lg_sl [.ref (ad 0), .int a2, .int a3, .int a4, .int a5, .ref (ad 67)] ++ List.replicate (7 - (lg_sl [.ref (ad 0), .int a2, .int a3, .int a4, .int a5, .ref (ad 67)]).length) Slot.unset).toArray = ls at hl ⊢
  have hl : lv_has ls 7 [(0, .ref (ad 0)), (1, .int a2), (2, .int a3), (3, .int a4), (4, .int a5), (5, .ref (ad 67))] := hl
  have main : ∀ (H : Heap) (locs : List Loc) (ls : Array Slot), va_P D vwCl (wd ca ad S) H → va_S (Aq ad s.heap.size) s.heap H locs → lv_has ls 7 [(0, .ref (ad 0)), (1, .int a2), (2, .int a3), (3, .int a4), (4, .int a5), (5, .ref (ad 67))] → W p l e rm_L_tale s m args below meth c H locs 0 0 (Zq below D ca ad args s 4 24 o.1 o.2) (F0 m 0 ls []) := by
    intro H locs ls hP hS hl
    unfold f_L_tale at hf
    refine lv_aload hx hb dL_tale_0 (lv_at hl 5 rfl) ?_
    refine lv_iconst (v := 0) hx hb dL_tale_2 (by decide) ?_
    refine lv_aload_n hx hb dL_tale_3 rfl (lv_at hl 0 rfl) ?_
    refine lv_iload_n hx hb dL_tale_4 rfl (lv_at hl 1 rfl) ?_
    refine lv_iload_n hx hb dL_tale_5 rfl (lv_at hl 2 rfl) ?_
    refine lv_iload_n hx hb dL_tale_6 rfl (lv_at hl 3 rfl) ?_
    refine lv_iload hx hb dL_tale_7 (lv_at hl 4 rfl) ?_
    obtain ⟨o3, ho3⟩ := bh_e hf
    refine y_i hS (vx_runV (As := [.int a2, .int a3, .int a4, .int a5]) (rest := [.int 0, .ref (ad 67)]) ⟨hx, hb, hml, hown, hts⟩ (m_X5_tale l hst D ca ad hj a2 a3 a4 a5 S o3 ho3 H.size) (cwV 4 hts gL_tale_X5_tale rfl rfl rfl (by decide +kernel) ⟨Nat.le_of_ble_eq_true rfl, Nat.le_of_ble_eq_true rfl⟩) (x_preV hE hS hKK hP (show qk 0 = 5 from rfl) rfl) rfl rfl hl.1 rfl (lv_room (Nat.le_of_ble_eq_true rfl)) dL_tale_9 ⟨Nat.le_of_ble_eq_true rfl, Nat.le_of_ble_eq_true rfl⟩) (fun E ce q9 S9 H locs hu hP hS h1 h2 h3 => ?_) (fun q2 H locs hu hP hS => ?_)
    · have hf := bh_q hf ho3 hu
      by_cases w0 : E = "java/lang/IndexOutOfBoundsException"
      · have hf := if_t w0 hf
        subst w0
        refine vx_catch hown [] (⟨0, 14, 17, 13⟩ : ExceptionTableEntry) [(⟨0, 14, 21, 15⟩ : ExceptionTableEntry), (⟨0, 14, 25, 21⟩ : ExceptionTableEntry)] hT (fun _ h => nomatch h) rfl (by decide) K13 (va_Nw.use rfl (hE.2.2.2 _ (List.mem_of_getElem? (i := 3) rfl))) h1 h2 h3 ?_
        refine lv_astore (lv' := [(6, .ref q9), (0, .ref (ad 0)), (1, .int a2), (2, .int a3), (3, .int a4), (4, .int a5), (5, .ref (ad 67))]) hx hb dL_tale_17 hl (by decide) rfl (fun ls hl => ?_)
        refine lv_iconst (v := 1) hx hb dL_tale_19 (by decide) ?_
        obtain rfl := Option.some.inj hf
        exact W.widen (Nat.le_of_ble_eq_true rfl) (Nat.le_of_ble_eq_true rfl) (r_iret hx hb hr hP hS dL_tale_20 hlocks)
      · have hf := if_f w0 hf
        by_cases w1 : E = "java/lang/IllegalArgumentException"
        · have hf := if_t w1 hf
          subst w1
          refine vx_catch hown [(⟨0, 14, 17, 13⟩ : ExceptionTableEntry)] (⟨0, 14, 21, 15⟩ : ExceptionTableEntry) [(⟨0, 14, 25, 21⟩ : ExceptionTableEntry)] hT (List.forall_mem_cons.mpr ⟨Or.inr ⟨by decide, _, K13, hN ("java/lang/IllegalArgumentException", "java/lang/IndexOutOfBoundsException") (by decide)⟩, (fun _ h => nomatch h)⟩) rfl (by decide) K15 (va_Nw.use rfl (hE.2.2.2 _ (List.mem_of_getElem? (i := 4) rfl))) h1 h2 h3 ?_
          refine lv_astore (lv' := [(6, .ref q9), (0, .ref (ad 0)), (1, .int a2), (2, .int a3), (3, .int a4), (4, .int a5), (5, .ref (ad 67))]) hx hb dL_tale_21 hl (by decide) rfl (fun ls hl => ?_)
          refine lv_iconst (v := 2) hx hb dL_tale_23 (by decide) ?_
          obtain rfl := Option.some.inj hf
          exact W.widen (Nat.le_of_ble_eq_true rfl) (Nat.le_of_ble_eq_true rfl) (r_iret hx hb hr hP hS dL_tale_24 hlocks)
        · have hf := if_f w1 hf
          by_cases w2 : E = "java/lang/UnsupportedOperationException"
          · have hf := if_t w2 hf
            subst w2
            refine vx_catch hown [(⟨0, 14, 17, 13⟩ : ExceptionTableEntry), (⟨0, 14, 21, 15⟩ : ExceptionTableEntry)] (⟨0, 14, 25, 21⟩ : ExceptionTableEntry) [] hT (List.forall_mem_cons.mpr ⟨Or.inr ⟨by decide, _, K13, hN ("java/lang/UnsupportedOperationException", "java/lang/IndexOutOfBoundsException") (by decide)⟩, (List.forall_mem_cons.mpr ⟨Or.inr ⟨by decide, _, K15, hN ("java/lang/UnsupportedOperationException", "java/lang/IllegalArgumentException") (by decide)⟩, (fun _ h => nomatch h)⟩)⟩) rfl (by decide) K21 (va_Nw.use rfl (hE.2.2.2 _ (List.mem_of_getElem? (i := 5) rfl))) h1 h2 h3 ?_
            refine lv_astore (lv' := [(6, .ref q9), (0, .ref (ad 0)), (1, .int a2), (2, .int a3), (3, .int a4), (4, .int a5), (5, .ref (ad 67))]) hx hb dL_tale_25 hl (by decide) rfl (fun ls hl => ?_)
            refine lv_iconst (v := 3) hx hb dL_tale_27 (by decide) ?_
            obtain rfl := Option.some.inj hf
            exact W.widen (Nat.le_of_ble_eq_true rfl) (Nat.le_of_ble_eq_true rfl) (r_iret hx hb hr hP hS dL_tale_28 hlocks)
          · have hf := if_f w2 hf
            cases hf
    · have hf := bh_r hf ho3 hu
      refine lv_i2l (v := q2.1.toInt64) hx hb dL_tale_12 rfl ?_
      obtain ⟨S4, h5, hf⟩ := bd_e hf
      obtain rfl := Option.some.inj h5
      refine r_last hx hb hj hKK hP hS dL_tale_13 (fun H locs hP hS => ?_)
      refine lv_goto (tgt := 29) hx hb dL_tale_14 (by decide) ?_
      refine lv_iconst (v := 0) hx hb dL_tale_29 (by decide) ?_
      obtain rfl := Option.some.inj hf
      exact W.widen (Nat.le_of_ble_eq_true rfl) (Nat.le_of_ble_eq_true rfl) (r_iret hx hb hr hP hS dL_tale_30 hlocks)
  exact main s.heap [] ls hP va_S.rf hl
def rm_L_span : Room := { frames := 10, cells := 4, slots := 24, locals := 178 }
set_option maxRecDepth 100000 in
set_option maxHeartbeats 4000000 in
theorem m_L_span (l : Launch) (hst : l.stackTraces = false) (D : va_G) (ca : Nat → ClassId) (ad : Nat → Nat) (hj : Inj ad) (a2 : Int32) (a3 : Int32) (a4 : Int32) (a5 : Int32) (S : QS) (o : Int32 × QS) (hf : f_L_span a2 a3 a4 a5 S = some o) : Cq l D ca ad yL_span wzL_span rm_L_span [.ref (ad 0), .int a2, .int a3, .int a4, .int a5, .ref (ad 67)] S o.1 o.2 4 24 := by
  intro sz
  refine va_MetW (cc := cL_span) (maxL := 7) (ret := (some .int)) (by decide) rfl ?_
  intro p e s m args below meth c s₁ B hml hv
  obtain ⟨hav, ⟨⟨hsz, hP, hKK⟩, hE⟩, hN⟩ := hv
  have hx := B.exec
  have hb := B.bytes
  have hr := B.returns
  have hts := atoms_spec (ws := wzL_span) B.pre
  have hown : s.vm.findClass RL = some m.cls := findClass_of_methodNamed B.named
  have hlocks := B.notSynchronized
  have hT : c.exceptionTable.toList = [⟨0, 14, 17, 13⟩, ⟨0, 14, 21, 39⟩] := vx_table (x := yL_span) B (hts _ List.mem_cons_self)
  subst hsz
  have K13 := hts (Cond.classLink RL 13 "java/lang/IndexOutOfBoundsException") (List.mem_cons_of_mem _ (List.mem_append_left _ (List.mem_append_left _ (List.mem_append_left _ (List.mem_append_left _ (List.mem_append_left _ (List.mem_append_left _ (List.mem_append_left _ (List.mem_append_left _ (List.mem_append_left _ (List.mem_of_getElem? (i := 0) rfl)))))))))))
  have K39 := hts (Cond.classLink RL 39 "java/util/NoSuchElementException") (List.mem_cons_of_mem _ (List.mem_append_left _ (List.mem_append_left _ (List.mem_append_left _ (List.mem_append_left _ (List.mem_append_left _ (List.mem_append_left _ (List.mem_append_left _ (List.mem_append_left _ (List.mem_append_left _ (List.mem_of_getElem? (i := 1) rfl)))))))))))
  have hl := lv_entry [.ref (ad 0), .int a2, .int a3, .int a4, .int a5, .ref (ad 67)] (n := 7) (Nat.le_of_ble_eq_true rfl)
  rw [show entryFrame m args 7 = entryFrame m ([.ref (ad 0), .int a2, .int a3, .int a4, .int a5, .ref (ad 67)] : List Value).toArray 7 by rw [hav], lg_entry_eq]
  generalize (lg_sl [.ref (ad 0), .int a2, .int a3, .int a4, .int a5, .ref (ad 67)] ++ List.replicate (7 - (lg_sl [.ref (ad 0), .int a2, .int a3, .int a4, .int a5, .ref (ad 67)]).length) Slot.unset).toArray = ls at hl ⊢
  have hl : lv_has ls 7 [(0, .ref (ad 0)), (1, .int a2), (2, .int a3), (3, .int a4), (4, .int a5), (5, .ref (ad 67))] := hl
  have main : ∀ (H : Heap) (locs : List Loc) (ls : Array Slot), va_P D vwCl (wd ca ad S) H → va_S (Aq ad s.heap.size) s.heap H locs → lv_has ls 7 [(0, .ref (ad 0)), (1, .int a2), (2, .int a3), (3, .int a4), (4, .int a5), (5, .ref (ad 67))] → W p l e rm_L_span s m args below meth c H locs 0 0 (Zq below D ca ad args s 4 24 o.1 o.2) (F0 m 0 ls []) := by
    intro H locs ls hP hS hl
    unfold f_L_span at hf
    refine lv_aload hx hb dL_span_0 (lv_at hl 5 rfl) ?_
    refine lv_iconst (v := 0) hx hb dL_span_2 (by decide) ?_
    refine lv_aload_n hx hb dL_span_3 rfl (lv_at hl 0 rfl) ?_
    refine lv_iload_n hx hb dL_span_4 rfl (lv_at hl 1 rfl) ?_
    refine lv_iload_n hx hb dL_span_5 rfl (lv_at hl 2 rfl) ?_
    refine lv_iload_n hx hb dL_span_6 rfl (lv_at hl 3 rfl) ?_
    refine lv_iload hx hb dL_span_7 (lv_at hl 4 rfl) ?_
    obtain ⟨o3, ho3⟩ := bh_e hf
    refine y_i hS (vx_runV (As := [.int a2, .int a3, .int a4, .int a5]) (rest := [.int 0, .ref (ad 67)]) ⟨hx, hb, hml, hown, hts⟩ (m_X5_span l hst D ca ad hj a2 a3 a4 a5 S o3 ho3 H.size) (cwV 4 hts gL_span_X5_span rfl rfl rfl (by decide +kernel) ⟨Nat.le_of_ble_eq_true rfl, Nat.le_of_ble_eq_true rfl⟩) (x_preV hE hS hKK hP (show qk 0 = 5 from rfl) rfl) rfl rfl hl.1 rfl (lv_room (Nat.le_of_ble_eq_true rfl)) dL_span_9 ⟨Nat.le_of_ble_eq_true rfl, Nat.le_of_ble_eq_true rfl⟩) (fun E ce q9 S9 H locs hu hP hS h1 h2 h3 => ?_) (fun q2 H locs hu hP hS => ?_)
    · have hf := bh_q hf ho3 hu
      by_cases w0 : E = "java/lang/IndexOutOfBoundsException"
      · have hf := if_t w0 hf
        subst w0
        refine vx_catch hown [] (⟨0, 14, 17, 13⟩ : ExceptionTableEntry) [(⟨0, 14, 21, 39⟩ : ExceptionTableEntry)] hT (fun _ h => nomatch h) rfl (by decide) K13 (va_Nw.use rfl (hE.2.2.2 _ (List.mem_of_getElem? (i := 3) rfl))) h1 h2 h3 ?_
        refine lv_astore (lv' := [(6, .ref q9), (0, .ref (ad 0)), (1, .int a2), (2, .int a3), (3, .int a4), (4, .int a5), (5, .ref (ad 67))]) hx hb dL_span_17 hl (by decide) rfl (fun ls hl => ?_)
        refine lv_iconst (v := 1) hx hb dL_span_19 (by decide) ?_
        obtain rfl := Option.some.inj hf
        exact W.widen (Nat.le_of_ble_eq_true rfl) (Nat.le_of_ble_eq_true rfl) (r_iret hx hb hr hP hS dL_span_20 hlocks)
      · have hf := if_f w0 hf
        by_cases w1 : E = "java/util/NoSuchElementException"
        · have hf := if_t w1 hf
          subst w1
          refine vx_catch hown [(⟨0, 14, 17, 13⟩ : ExceptionTableEntry)] (⟨0, 14, 21, 39⟩ : ExceptionTableEntry) [] hT (List.forall_mem_cons.mpr ⟨Or.inr ⟨by decide, _, K13, hN ("java/util/NoSuchElementException", "java/lang/IndexOutOfBoundsException") (by decide)⟩, (fun _ h => nomatch h)⟩) rfl (by decide) K39 (va_Nw.use rfl (hE.2.2.2 _ (List.mem_of_getElem? (i := 6) rfl))) h1 h2 h3 ?_
          refine lv_astore (lv' := [(6, .ref q9), (0, .ref (ad 0)), (1, .int a2), (2, .int a3), (3, .int a4), (4, .int a5), (5, .ref (ad 67))]) hx hb dL_span_21 hl (by decide) rfl (fun ls hl => ?_)
          refine lv_iconst (v := 2) hx hb dL_span_23 (by decide) ?_
          obtain rfl := Option.some.inj hf
          exact W.widen (Nat.le_of_ble_eq_true rfl) (Nat.le_of_ble_eq_true rfl) (r_iret hx hb hr hP hS dL_span_24 hlocks)
        · have hf := if_f w1 hf
          cases hf
    · have hf := bh_r hf ho3 hu
      refine lv_i2l (v := q2.1.toInt64) hx hb dL_span_12 rfl ?_
      obtain ⟨S4, h5, hf⟩ := bd_e hf
      obtain rfl := Option.some.inj h5
      refine r_last hx hb hj hKK hP hS dL_span_13 (fun H locs hP hS => ?_)
      refine lv_goto (tgt := 25) hx hb dL_span_14 (by decide) ?_
      refine lv_iconst (v := 0) hx hb dL_span_25 (by decide) ?_
      obtain rfl := Option.some.inj hf
      exact W.widen (Nat.le_of_ble_eq_true rfl) (Nat.le_of_ble_eq_true rfl) (r_iret hx hb hr hP hS dL_span_26 hlocks)
  exact main s.heap [] ls hP va_S.rf hl
def rm_L_avoided : Room := { frames := 9, cells := 4, slots := 24, locals := 159 }
set_option maxRecDepth 100000 in
set_option maxHeartbeats 4000000 in
theorem m_L_avoided (l : Launch) (hst : l.stackTraces = false) (D : va_G) (ca : Nat → ClassId) (ad : Nat → Nat) (hj : Inj ad) (a2 : Int32) (a3 : Int32) (a4 : Int32) (S : QS) (o : Int32 × QS) (hf : f_L_avoided a2 a3 a4 S = some o) : Cq l D ca ad yL_avoided wzL_avoided rm_L_avoided [.ref (ad 0), .int a2, .int a3, .int a4, .ref (ad 67)] S o.1 o.2 4 24 := by
  intro sz
  refine va_MetW (cc := cL_avoided) (maxL := 6) (ret := (some .int)) (by decide) rfl ?_
  intro p e s m args below meth c s₁ B hml hv
  obtain ⟨hav, ⟨⟨hsz, hP, hKK⟩, hE⟩, hN⟩ := hv
  have hx := B.exec
  have hb := B.bytes
  have hr := B.returns
  have hts := atoms_spec (ws := wzL_avoided) B.pre
  have hown : s.vm.findClass RL = some m.cls := findClass_of_methodNamed B.named
  have hlocks := B.notSynchronized
  have hT : c.exceptionTable.toList = [⟨0, 12, 15, 13⟩, ⟨0, 12, 19, 15⟩, ⟨0, 12, 23, 39⟩] := vx_table (x := yL_avoided) B (hts _ List.mem_cons_self)
  subst hsz
  have K13 := hts (Cond.classLink RL 13 "java/lang/IndexOutOfBoundsException") (List.mem_cons_of_mem _ (List.mem_append_left _ (List.mem_append_left _ (List.mem_append_left _ (List.mem_append_left _ (List.mem_append_left _ (List.mem_append_left _ (List.mem_append_left _ (List.mem_append_left _ (List.mem_append_left _ (List.mem_append_left _ (List.mem_of_getElem? (i := 0) rfl))))))))))))
  have K15 := hts (Cond.classLink RL 15 "java/lang/IllegalArgumentException") (List.mem_cons_of_mem _ (List.mem_append_left _ (List.mem_append_left _ (List.mem_append_left _ (List.mem_append_left _ (List.mem_append_left _ (List.mem_append_left _ (List.mem_append_left _ (List.mem_append_left _ (List.mem_append_left _ (List.mem_append_left _ (List.mem_of_getElem? (i := 1) rfl))))))))))))
  have K39 := hts (Cond.classLink RL 39 "java/util/NoSuchElementException") (List.mem_cons_of_mem _ (List.mem_append_left _ (List.mem_append_left _ (List.mem_append_left _ (List.mem_append_left _ (List.mem_append_left _ (List.mem_append_left _ (List.mem_append_left _ (List.mem_append_left _ (List.mem_append_left _ (List.mem_append_left _ (List.mem_of_getElem? (i := 2) rfl))))))))))))
  have hl := lv_entry [.ref (ad 0), .int a2, .int a3, .int a4, .ref (ad 67)] (n := 6) (Nat.le_of_ble_eq_true rfl)
  rw [show entryFrame m args 6 = entryFrame m ([.ref (ad 0), .int a2, .int a3, .int a4, .ref (ad 67)] : List Value).toArray 6 by rw [hav], lg_entry_eq]
  generalize (lg_sl [.ref (ad 0), .int a2, .int a3, .int a4, .ref (ad 67)] ++ List.replicate (6 - (lg_sl [.ref (ad 0), .int a2, .int a3, .int a4, .ref (ad 67)]).length) Slot.unset).toArray = ls at hl ⊢
  have hl : lv_has ls 6 [(0, .ref (ad 0)), (1, .int a2), (2, .int a3), (3, .int a4), (4, .ref (ad 67))] := hl
  have main : ∀ (H : Heap) (locs : List Loc) (ls : Array Slot), va_P D vwCl (wd ca ad S) H → va_S (Aq ad s.heap.size) s.heap H locs → lv_has ls 6 [(0, .ref (ad 0)), (1, .int a2), (2, .int a3), (3, .int a4), (4, .ref (ad 67))] → W p l e rm_L_avoided s m args below meth c H locs 0 0 (Zq below D ca ad args s 4 24 o.1 o.2) (F0 m 0 ls []) := by
    intro H locs ls hP hS hl
    unfold f_L_avoided at hf
    refine lv_aload hx hb dL_avoided_0 (lv_at hl 4 rfl) ?_
    refine lv_iconst (v := 0) hx hb dL_avoided_2 (by decide) ?_
    refine lv_aload_n hx hb dL_avoided_3 rfl (lv_at hl 0 rfl) ?_
    refine lv_iload_n hx hb dL_avoided_4 rfl (lv_at hl 1 rfl) ?_
    refine lv_iload_n hx hb dL_avoided_5 rfl (lv_at hl 2 rfl) ?_
    refine lv_iload_n hx hb dL_avoided_6 rfl (lv_at hl 3 rfl) ?_
    obtain ⟨o3, ho3⟩ := bh_e hf
    refine y_i hS (vx_runV (As := [.int a2, .int a3, .int a4]) (rest := [.int 0, .ref (ad 67)]) ⟨hx, hb, hml, hown, hts⟩ (m_X5_avoided l hst D ca ad hj a2 a3 a4 S o3 ho3 H.size) (cwV 3 hts gL_avoided_X5_avoided rfl rfl rfl (by decide +kernel) ⟨Nat.le_of_ble_eq_true rfl, Nat.le_of_ble_eq_true rfl⟩) (x_preV hE hS hKK hP (show qk 0 = 5 from rfl) rfl) rfl rfl hl.1 rfl (lv_room (Nat.le_of_ble_eq_true rfl)) dL_avoided_7 ⟨Nat.le_of_ble_eq_true rfl, Nat.le_of_ble_eq_true rfl⟩) (fun E ce q9 S9 H locs hu hP hS h1 h2 h3 => ?_) (fun q2 H locs hu hP hS => ?_)
    · have hf := bh_q hf ho3 hu
      by_cases w0 : E = "java/lang/IndexOutOfBoundsException"
      · have hf := if_t w0 hf
        subst w0
        refine vx_catch hown [] (⟨0, 12, 15, 13⟩ : ExceptionTableEntry) [(⟨0, 12, 19, 15⟩ : ExceptionTableEntry), (⟨0, 12, 23, 39⟩ : ExceptionTableEntry)] hT (fun _ h => nomatch h) rfl (by decide) K13 (va_Nw.use rfl (hE.2.2.2 _ (List.mem_of_getElem? (i := 3) rfl))) h1 h2 h3 ?_
        refine lv_astore (lv' := [(5, .ref q9), (0, .ref (ad 0)), (1, .int a2), (2, .int a3), (3, .int a4), (4, .ref (ad 67))]) hx hb dL_avoided_15 hl (by decide) rfl (fun ls hl => ?_)
        refine lv_iconst (v := 1) hx hb dL_avoided_17 (by decide) ?_
        obtain rfl := Option.some.inj hf
        exact W.widen (Nat.le_of_ble_eq_true rfl) (Nat.le_of_ble_eq_true rfl) (r_iret hx hb hr hP hS dL_avoided_18 hlocks)
      · have hf := if_f w0 hf
        by_cases w1 : E = "java/lang/IllegalArgumentException"
        · have hf := if_t w1 hf
          subst w1
          refine vx_catch hown [(⟨0, 12, 15, 13⟩ : ExceptionTableEntry)] (⟨0, 12, 19, 15⟩ : ExceptionTableEntry) [(⟨0, 12, 23, 39⟩ : ExceptionTableEntry)] hT (List.forall_mem_cons.mpr ⟨Or.inr ⟨by decide, _, K13, hN ("java/lang/IllegalArgumentException", "java/lang/IndexOutOfBoundsException") (by decide)⟩, (fun _ h => nomatch h)⟩) rfl (by decide) K15 (va_Nw.use rfl (hE.2.2.2 _ (List.mem_of_getElem? (i := 4) rfl))) h1 h2 h3 ?_
          refine lv_astore (lv' := [(5, .ref q9), (0, .ref (ad 0)), (1, .int a2), (2, .int a3), (3, .int a4), (4, .ref (ad 67))]) hx hb dL_avoided_19 hl (by decide) rfl (fun ls hl => ?_)
          refine lv_iconst (v := 2) hx hb dL_avoided_21 (by decide) ?_
          obtain rfl := Option.some.inj hf
          exact W.widen (Nat.le_of_ble_eq_true rfl) (Nat.le_of_ble_eq_true rfl) (r_iret hx hb hr hP hS dL_avoided_22 hlocks)
        · have hf := if_f w1 hf
          by_cases w2 : E = "java/util/NoSuchElementException"
          · have hf := if_t w2 hf
            subst w2
            refine vx_catch hown [(⟨0, 12, 15, 13⟩ : ExceptionTableEntry), (⟨0, 12, 19, 15⟩ : ExceptionTableEntry)] (⟨0, 12, 23, 39⟩ : ExceptionTableEntry) [] hT (List.forall_mem_cons.mpr ⟨Or.inr ⟨by decide, _, K13, hN ("java/util/NoSuchElementException", "java/lang/IndexOutOfBoundsException") (by decide)⟩, (List.forall_mem_cons.mpr ⟨Or.inr ⟨by decide, _, K15, hN ("java/util/NoSuchElementException", "java/lang/IllegalArgumentException") (by decide)⟩, (fun _ h => nomatch h)⟩)⟩) rfl (by decide) K39 (va_Nw.use rfl (hE.2.2.2 _ (List.mem_of_getElem? (i := 6) rfl))) h1 h2 h3 ?_
            refine lv_astore (lv' := [(5, .ref q9), (0, .ref (ad 0)), (1, .int a2), (2, .int a3), (3, .int a4), (4, .ref (ad 67))]) hx hb dL_avoided_23 hl (by decide) rfl (fun ls hl => ?_)
            refine lv_iconst (v := 3) hx hb dL_avoided_25 (by decide) ?_
            obtain rfl := Option.some.inj hf
            exact W.widen (Nat.le_of_ble_eq_true rfl) (Nat.le_of_ble_eq_true rfl) (r_iret hx hb hr hP hS dL_avoided_26 hlocks)
          · have hf := if_f w2 hf
            cases hf
    · have hf := bh_r hf ho3 hu
      refine lv_i2l (v := q2.1.toInt64) hx hb dL_avoided_10 rfl ?_
      obtain ⟨S4, h5, hf⟩ := bd_e hf
      obtain rfl := Option.some.inj h5
      refine r_last hx hb hj hKK hP hS dL_avoided_11 (fun H locs hP hS => ?_)
      refine lv_goto (tgt := 27) hx hb dL_avoided_12 (by decide) ?_
      refine lv_iconst (v := 0) hx hb dL_avoided_27 (by decide) ?_
      obtain rfl := Option.some.inj hf
      exact W.widen (Nat.le_of_ble_eq_true rfl) (Nat.le_of_ble_eq_true rfl) (r_iret hx hb hr hP hS dL_avoided_28 hlocks)
  exact main s.heap [] ls hP va_S.rf hl
def rm_L_look : Room := { frames := 8, cells := 2, slots := 12, locals := 134 }
set_option maxRecDepth 100000 in
set_option maxHeartbeats 4000000 in
theorem m_L_look (l : Launch) (hst : l.stackTraces = false) (D : va_G) (ca : Nat → ClassId) (ad : Nat → Nat) (hj : Inj ad) (a2 : Int32) (a3 : Int32) (S : QS) (o : Int32 × QS) (hf : f_L_look a2 a3 S = some o) : Cq l D ca ad yL_look wzL_look rm_L_look [.ref (ad 0), .int a2, .int a3, .ref (ad 67)] S o.1 o.2 2 12 := by
  intro sz
  refine va_MetW (cc := cL_look) (maxL := 5) (ret := (some .int)) (by decide) rfl ?_
  intro p e s m args below meth c s₁ B hml hv
  obtain ⟨hav, ⟨⟨hsz, hP, hKK⟩, hE⟩, hN⟩ := hv
  have hx := B.exec
  have hb := B.bytes
  have hr := B.returns
  have hts := atoms_spec (ws := wzL_look) B.pre
  have hown : s.vm.findClass RL = some m.cls := findClass_of_methodNamed B.named
  have hlocks := B.notSynchronized
  have hT : c.exceptionTable.toList = [⟨0, 10, 13, 13⟩, ⟨0, 10, 17, 39⟩] := vx_table (x := yL_look) B (hts _ List.mem_cons_self)
  subst hsz
  have K13 := hts (Cond.classLink RL 13 "java/lang/IndexOutOfBoundsException") (List.mem_cons_of_mem _ (List.mem_append_left _ (List.mem_append_left _ (List.mem_append_left _ (List.mem_append_left _ (List.mem_of_getElem? (i := 0) rfl))))))
  have K39 := hts (Cond.classLink RL 39 "java/util/NoSuchElementException") (List.mem_cons_of_mem _ (List.mem_append_left _ (List.mem_append_left _ (List.mem_append_left _ (List.mem_append_left _ (List.mem_of_getElem? (i := 1) rfl))))))
  have hl := lv_entry [.ref (ad 0), .int a2, .int a3, .ref (ad 67)] (n := 5) (Nat.le_of_ble_eq_true rfl)
  rw [show entryFrame m args 5 = entryFrame m ([.ref (ad 0), .int a2, .int a3, .ref (ad 67)] : List Value).toArray 5 by rw [hav], lg_entry_eq]
  generalize (lg_sl [.ref (ad 0), .int a2, .int a3, .ref (ad 67)] ++ List.replicate (5 - (lg_sl [.ref (ad 0), .int a2, .int a3, .ref (ad 67)]).length) Slot.unset).toArray = ls at hl ⊢
  have hl : lv_has ls 5 [(0, .ref (ad 0)), (1, .int a2), (2, .int a3), (3, .ref (ad 67))] := hl
  have main : ∀ (H : Heap) (locs : List Loc) (ls : Array Slot), va_P D vwCl (wd ca ad S) H → va_S (Aq ad s.heap.size) s.heap H locs → lv_has ls 5 [(0, .ref (ad 0)), (1, .int a2), (2, .int a3), (3, .ref (ad 67))] → W p l e rm_L_look s m args below meth c H locs 0 0 (Zq below D ca ad args s 2 12 o.1 o.2) (F0 m 0 ls []) := by
    intro H locs ls hP hS hl
    unfold f_L_look at hf
    refine lv_aload_n hx hb dL_look_0 rfl (lv_at hl 3 rfl) ?_
    refine lv_iconst (v := 0) hx hb dL_look_1 (by decide) ?_
    refine lv_aload_n hx hb dL_look_2 rfl (lv_at hl 0 rfl) ?_
    refine lv_iload_n hx hb dL_look_3 rfl (lv_at hl 1 rfl) ?_
    refine lv_iload_n hx hb dL_look_4 rfl (lv_at hl 2 rfl) ?_
    obtain ⟨o3, ho3⟩ := bh_e hf
    refine y_j hS (vx_runV (As := [.int a2, .int a3]) (rest := [.int 0, .ref (ad 67)]) ⟨hx, hb, hml, hown, hts⟩ (m_X5_look l hst D ca ad hj a2 a3 S o3 ho3 H.size) (cwV 2 hts gL_look_X5_look rfl rfl rfl (by decide +kernel) ⟨Nat.le_of_ble_eq_true rfl, Nat.le_of_ble_eq_true rfl⟩) (x_preV hE hS hKK hP (show qk 0 = 5 from rfl) rfl) rfl rfl hl.1 rfl (lv_room (Nat.le_of_ble_eq_true rfl)) dL_look_5 ⟨Nat.le_of_ble_eq_true rfl, Nat.le_of_ble_eq_true rfl⟩) (fun E ce q9 S9 H locs hu hP hS h1 h2 h3 => ?_) (fun v2 H locs hu hP hS => ?_)
    · have hf := bh_q hf ho3 hu
      by_cases w0 : E = "java/lang/IndexOutOfBoundsException"
      · have hf := if_t w0 hf
        subst w0
        refine vx_catch hown [] (⟨0, 10, 13, 13⟩ : ExceptionTableEntry) [(⟨0, 10, 17, 39⟩ : ExceptionTableEntry)] hT (fun _ h => nomatch h) rfl (by decide) K13 (va_Nw.use rfl (hE.2.2.2 _ (List.mem_of_getElem? (i := 3) rfl))) h1 h2 h3 ?_
        refine lv_astore (lv' := [(4, .ref q9), (0, .ref (ad 0)), (1, .int a2), (2, .int a3), (3, .ref (ad 67))]) hx hb dL_look_13 hl (by decide) rfl (fun ls hl => ?_)
        refine lv_iconst (v := 1) hx hb dL_look_15 (by decide) ?_
        obtain rfl := Option.some.inj hf
        exact W.widen (Nat.le_of_ble_eq_true rfl) (Nat.le_of_ble_eq_true rfl) (r_iret hx hb hr hP hS dL_look_16 hlocks)
      · have hf := if_f w0 hf
        by_cases w1 : E = "java/util/NoSuchElementException"
        · have hf := if_t w1 hf
          subst w1
          refine vx_catch hown [(⟨0, 10, 13, 13⟩ : ExceptionTableEntry)] (⟨0, 10, 17, 39⟩ : ExceptionTableEntry) [] hT (List.forall_mem_cons.mpr ⟨Or.inr ⟨by decide, _, K13, hN ("java/util/NoSuchElementException", "java/lang/IndexOutOfBoundsException") (by decide)⟩, (fun _ h => nomatch h)⟩) rfl (by decide) K39 (va_Nw.use rfl (hE.2.2.2 _ (List.mem_of_getElem? (i := 6) rfl))) h1 h2 h3 ?_
          refine lv_astore (lv' := [(4, .ref q9), (0, .ref (ad 0)), (1, .int a2), (2, .int a3), (3, .ref (ad 67))]) hx hb dL_look_17 hl (by decide) rfl (fun ls hl => ?_)
          refine lv_iconst (v := 2) hx hb dL_look_19 (by decide) ?_
          obtain rfl := Option.some.inj hf
          exact W.widen (Nat.le_of_ble_eq_true rfl) (Nat.le_of_ble_eq_true rfl) (r_iret hx hb hr hP hS dL_look_20 hlocks)
        · have hf := if_f w1 hf
          cases hf
    · have hf := bh_r hf ho3 hu
      refine lv_i2l (v := v2.toInt64) hx hb dL_look_8 rfl ?_
      obtain ⟨S4, h5, hf⟩ := bd_e hf
      obtain rfl := Option.some.inj h5
      refine r_last hx hb hj hKK hP hS dL_look_9 (fun H locs hP hS => ?_)
      refine lv_goto (tgt := 21) hx hb dL_look_10 (by decide) ?_
      refine lv_iconst (v := 0) hx hb dL_look_21 (by decide) ?_
      obtain rfl := Option.some.inj hf
      exact W.widen (Nat.le_of_ble_eq_true rfl) (Nat.le_of_ble_eq_true rfl) (r_iret hx hb hr hP hS dL_look_22 hlocks)
  exact main s.heap [] ls hP va_S.rf hl
def rm_L_can : Room := { frames := 10, cells := 3, slots := 18, locals := 177 }
set_option maxRecDepth 100000 in
set_option maxHeartbeats 4000000 in
theorem m_L_can (l : Launch) (hst : l.stackTraces = false) (D : va_G) (ca : Nat → ClassId) (ad : Nat → Nat) (hj : Inj ad) (a2 : Int32) (a3 : Int32) (a4 : Int32) (S : QS) (o : Int32 × QS) (hf : f_L_can a2 a3 a4 S = some o) : Cq l D ca ad yL_can wsL_can rm_L_can [.ref (ad 0), .int a2, .int a3, .int a4, .ref (ad 67)] S o.1 o.2 3 18 := by
  intro sz
  refine va_MetW (cc := cL_can) (maxL := 6) (ret := (some .int)) (by decide) rfl ?_
  intro p e s m args below meth c s₁ B hml hv
  obtain ⟨hav, ⟨⟨hsz, hP, hKK⟩, hE⟩, hN⟩ := hv
  have hx := B.exec
  have hb := B.bytes
  have hr := B.returns
  have hts := atoms_spec (ws := wsL_can) B.pre
  have hown : s.vm.findClass RL = some m.cls := findClass_of_methodNamed B.named
  have hlocks := B.notSynchronized
  have hT : c.exceptionTable.toList = [⟨0, 19, 22, 13⟩] := vx_table (x := yL_can) B (hts _ List.mem_cons_self)
  subst hsz
  have K13 := hts (Cond.classLink RL 13 "java/lang/IndexOutOfBoundsException") (List.mem_cons_of_mem _ (List.mem_append_left _ (List.mem_append_left _ (List.mem_append_left _ (List.mem_append_left _ (List.mem_append_left _ (List.mem_append_left _ (List.mem_append_left _ (List.mem_append_left _ (List.mem_of_getElem? (i := 0) rfl))))))))))
  have hl := lv_entry [.ref (ad 0), .int a2, .int a3, .int a4, .ref (ad 67)] (n := 6) (Nat.le_of_ble_eq_true rfl)
  rw [show entryFrame m args 6 = entryFrame m ([.ref (ad 0), .int a2, .int a3, .int a4, .ref (ad 67)] : List Value).toArray 6 by rw [hav], lg_entry_eq]
  generalize (lg_sl [.ref (ad 0), .int a2, .int a3, .int a4, .ref (ad 67)] ++ List.replicate (6 - (lg_sl [.ref (ad 0), .int a2, .int a3, .int a4, .ref (ad 67)]).length) Slot.unset).toArray = ls at hl ⊢
  have hl : lv_has ls 6 [(0, .ref (ad 0)), (1, .int a2), (2, .int a3), (3, .int a4), (4, .ref (ad 67))] := hl
  have main : ∀ (H : Heap) (locs : List Loc) (ls : Array Slot), va_P D vwCl (wd ca ad S) H → va_S (Aq ad s.heap.size) s.heap H locs → lv_has ls 6 [(0, .ref (ad 0)), (1, .int a2), (2, .int a3), (3, .int a4), (4, .ref (ad 67))] → W p l e rm_L_can s m args below meth c H locs 0 0 (Zq below D ca ad args s 3 18 o.1 o.2) (F0 m 0 ls []) := by
    intro H locs ls hP hS hl
    unfold f_L_can at hf
    refine lv_aload hx hb dL_can_0 (lv_at hl 4 rfl) ?_
    refine lv_iconst (v := 0) hx hb dL_can_2 (by decide) ?_
    refine lv_aload_n hx hb dL_can_3 rfl (lv_at hl 0 rfl) ?_
    refine lv_iload_n hx hb dL_can_4 rfl (lv_at hl 1 rfl) ?_
    refine lv_iload_n hx hb dL_can_5 rfl (lv_at hl 2 rfl) ?_
    refine lv_iload_n hx hb dL_can_6 rfl (lv_at hl 3 rfl) ?_
    obtain ⟨o3, ho3⟩ := bh_e hf
    refine y_i hS (vx_runV (As := [.int a2, .int a3, .int a4]) (rest := [.int 0, .ref (ad 67)]) ⟨hx, hb, hml, hown, hts⟩ (m_X5_can l hst D ca ad hj a2 a3 a4 S o3 ho3 H.size) (cwV 3 hts gL_can_X5_can rfl rfl rfl (by decide +kernel) ⟨Nat.le_of_ble_eq_true rfl, Nat.le_of_ble_eq_true rfl⟩) (x_preV hE hS hKK hP (show qk 0 = 5 from rfl) rfl) rfl rfl hl.1 rfl (lv_room (Nat.le_of_ble_eq_true rfl)) dL_can_7 ⟨Nat.le_of_ble_eq_true rfl, Nat.le_of_ble_eq_true rfl⟩) (fun E ce q9 S9 H locs hu hP hS h1 h2 h3 => ?_) (fun q2 H locs hu hP hS => ?_)
    · have hf := bh_q hf ho3 hu
      by_cases w0 : E = "java/lang/IndexOutOfBoundsException"
      · have hf := if_t w0 hf
        subst w0
        refine vx_catch hown [] (⟨0, 19, 22, 13⟩ : ExceptionTableEntry) [] hT (fun _ h => nomatch h) rfl (by decide) K13 (va_Nw.use rfl (hE.2.2.2 _ (List.mem_of_getElem? (i := 3) rfl))) h1 h2 h3 ?_
        refine lv_astore (lv' := [(5, .ref q9), (0, .ref (ad 0)), (1, .int a2), (2, .int a3), (3, .int a4), (4, .ref (ad 67))]) hx hb dL_can_22 hl (by decide) rfl (fun ls hl => ?_)
        refine lv_iconst (v := 1) hx hb dL_can_24 (by decide) ?_
        obtain rfl := Option.some.inj hf
        exact W.widen (Nat.le_of_ble_eq_true rfl) (Nat.le_of_ble_eq_true rfl) (r_iret hx hb hr hP hS dL_can_25 hlocks)
      · have hf := if_f w0 hf
        cases hf
    · have hf := bh_r hf ho3 hu
      obtain ⟨q4, hq4, hf⟩ := bd_e hf
      have J1 : ∀ (H : Heap) (locs : List Loc) (ls : Array Slot), va_P D vwCl (wd ca ad q2.2) H → va_S (Aq ad s.heap.size) s.heap H locs → lv_has ls 6 [] → W p l e rm_L_can s m args below meth c H locs 3 18 (Zq below D ca ad args s 3 18 o.1 o.2) (F0 m 18 ls [.long q4, .int 0, .ref (ad 67)]) := by
        intro H locs ls hP hS hl
        obtain ⟨S5, h6, hf⟩ := bd_e hf
        obtain rfl := Option.some.inj h6
        refine r_last hx hb hj hKK hP hS dL_can_18 (fun H locs hP hS => ?_)
        refine lv_goto (tgt := 26) hx hb dL_can_19 (by decide) ?_
        refine lv_iconst (v := 0) hx hb dL_can_26 (by decide) ?_
        obtain rfl := Option.some.inj hf
        exact W.widen (Nat.le_of_ble_eq_true rfl) (Nat.le_of_ble_eq_true rfl) (r_iret hx hb hr hP hS dL_can_27 hlocks)
      replace hf := hq4
      refine lv_if_eq (tgt := 17) hx hb dL_can_10 (by decide) (fun w => ?_) (fun w => ?_)
      · have hf := if_t w hf
        refine lv_lconst (v := 0) hx hb dL_can_17 rfl ?_
        obtain rfl := Option.some.inj hf
        exact J1 _ _ _ hP hS (lv_sub hl [] rfl)
      · have hf := if_f w hf
        refine lv_lconst (v := 1) hx hb dL_can_13 rfl ?_
        refine lv_goto (tgt := 18) hx hb dL_can_14 (by decide) ?_
        obtain rfl := Option.some.inj hf
        exact J1 _ _ _ hP hS (lv_sub hl [] rfl)
  exact main s.heap [] ls hP va_S.rf hl
