def rm_X5_cheaper : Room := { frames := 0, cells := 0, slots := 0, locals := 0 }
set_option maxRecDepth 100000 in
set_option maxHeartbeats 4000000 in
theorem m_X5_cheaper (l : Launch) (D : va_G) (ca : Nat → ClassId) (ad : Nat → Nat) (hj : Inj ad) (a1 : Int32) (a2 : Int32) (S : QS) (o : Int32) (hf : f_X5_cheaper a1 a2 = some o) : Ci l D ca ad yX5_cheaper wsX5_cheaper rm_X5_cheaper [.int a1, .int a2] S o S := by
  intro sz
  refine Met.ofW (cc := cX5_cheaper) (maxL := 2) (ret := (some .int)) (by decide) rfl ?_
  intro p e s m args below meth c s₁ B hml hv
  obtain ⟨hav, hsz, hP, hKK⟩ := hv
  have hx := B.exec
  have hb := B.bytes
  have hr := B.returns
  have hts := atoms_spec (ws := wsX5_cheaper) B.pre
  have hown : s.vm.findClass RX5 = some m.cls := findClass_of_methodNamed B.named
  have hlocks := B.notSynchronized
  subst hsz
  have hl := lv_entry [.int a1, .int a2] (n := 2) (Nat.le_of_ble_eq_true rfl)
  rw [show entryFrame m args 2 = entryFrame m ([.int a1, .int a2] : List Value).toArray 2 by rw [hav], lg_entry_eq]
  generalize (lg_sl [.int a1, .int a2] ++ List.replicate (2 - (lg_sl [.int a1, .int a2]).length) Slot.unset).toArray = ls at hl ⊢
  have hl : lv_has ls 2 [(0, .int a1), (1, .int a2)] := hl
  have main : ∀ (H : Heap) (locs : List Loc) (ls : Array Slot), va_P D vwCl (wd ca ad S) H → va_S (Aq ad s.heap.size) s.heap H locs → lv_has ls 2 [(0, .int a1), (1, .int a2)] → W p l e rm_X5_cheaper s m args below meth c H locs 0 0 (Zi below D ca ad args s o S) (F0 m 0 ls []) := by
    intro H locs ls hP hS hl
    unfold f_X5_cheaper at hf
    refine lv_iload_n hx hb dX5_cheaper_0 rfl (lv_at hl 0 rfl) ?_
    refine lv_iconst (v := (-1)) hx hb dX5_cheaper_1 (by decide) ?_
    refine lv_icmp_eq (tgt := 10) hx hb dX5_cheaper_2 (by decide) (fun w => ?_) (fun w => ?_)
    · have hf := if_t w hf
      refine lv_iload_n hx hb dX5_cheaper_10 rfl (lv_at hl 1 rfl) ?_
      refine lv_goto (tgt := 15) hx hb dX5_cheaper_11 (by decide) ?_
      obtain rfl := Option.some.inj hf
      exact r_iret hx hb hr hP hS dX5_cheaper_15 hlocks
    · have hf := if_f w hf
      refine lv_iload_n hx hb dX5_cheaper_5 rfl (lv_at hl 1 rfl) ?_
      refine lv_iload_n hx hb dX5_cheaper_6 rfl (lv_at hl 0 rfl) ?_
      refine lv_icmp_ge (tgt := 14) hx hb dX5_cheaper_7 (by decide) (fun w => ?_) (fun w => ?_)
      · have hf := if_t w hf
        refine lv_iload_n hx hb dX5_cheaper_14 rfl (lv_at hl 0 rfl) ?_
        obtain rfl := Option.some.inj hf
        exact r_iret hx hb hr hP hS dX5_cheaper_15 hlocks
      · have hf := if_f w hf
        refine lv_iload_n hx hb dX5_cheaper_10 rfl (lv_at hl 1 rfl) ?_
        refine lv_goto (tgt := 15) hx hb dX5_cheaper_11 (by decide) ?_
        obtain rfl := Option.some.inj hf
        exact r_iret hx hb hr hP hS dX5_cheaper_15 hlocks
  exact main s.heap [] ls hP va_S.rf hl
theorem k_X0_pick {k : Nat} {a : Int32} {S : QS} {c : Nat} (hk : qk k = 0) (h : f_X0_pick k a S = some c) : qk c = 3 := by
  unfold f_X0_pick at h
  split at h
  · obtain rfl := Option.some.inj h
    exact (q_car hk).1
  · split at h
    · obtain rfl := Option.some.inj h
      exact (q_car hk).2.1
    · obtain rfl := Option.some.inj h
      exact (q_car hk).2.2.1
def rm_X0_pick : Room := { frames := 0, cells := 0, slots := 0, locals := 0 }
set_option maxRecDepth 100000 in
set_option maxHeartbeats 4000000 in
theorem m_X0_pick (l : Launch) (D : va_G) (ca : Nat → ClassId) (ad : Nat → Nat) (hj : Inj ad) (k : Nat) (hk : qk k = 0) (a1 : Int32) (S : QS) (o : Nat) (hf : f_X0_pick k a1 S = some o) : Cr l D ca ad yX0_pick wsX0_pick rm_X0_pick [.ref (ad k), .int a1] S o S := by
  intro sz
  refine Met.ofW (cc := cX0_pick) (maxL := 2) (ret := (some (.object "CrashDesk$Speed"))) (by decide) rfl ?_
  intro p e s m args below meth c s₁ B hml hv
  obtain ⟨hav, hsz, hP, hKK⟩ := hv
  have hx := B.exec
  have hb := B.bytes
  have hr := B.returns
  have hts := atoms_spec (ws := wsX0_pick) B.pre
  have hown : s.vm.findClass RX0 = some m.cls := findClass_of_methodNamed B.named
  have hlocks := B.notSynchronized
  subst hsz
  have hX0 : ∀ w ∈ wsX00, w.before _ s = true := fun w h => hts w (List.mem_cons_of_mem _ (List.mem_append_right _ h))
  have K18 := hts (Cond.fieldLink RX0 18 "CrashDesk$Car" "first" "LCrashDesk$Speed;") (List.mem_cons_of_mem _ (List.mem_append_left _ (List.mem_of_getElem? (i := 0) rfl)))
  have K22 := hts (Cond.fieldLink RX0 22 "CrashDesk$Car" "at" "LCrashDesk$Speed;") (List.mem_cons_of_mem _ (List.mem_append_left _ (List.mem_of_getElem? (i := 1) rfl)))
  have K25 := hts (Cond.fieldLink RX0 25 "CrashDesk$Car" "after" "LCrashDesk$Speed;") (List.mem_cons_of_mem _ (List.mem_append_left _ (List.mem_of_getElem? (i := 2) rfl)))
  have hl := lv_entry [.ref (ad k), .int a1] (n := 2) (Nat.le_of_ble_eq_true rfl)
  rw [show entryFrame m args 2 = entryFrame m ([.ref (ad k), .int a1] : List Value).toArray 2 by rw [hav], lg_entry_eq]
  generalize (lg_sl [.ref (ad k), .int a1] ++ List.replicate (2 - (lg_sl [.ref (ad k), .int a1]).length) Slot.unset).toArray = ls at hl ⊢
  have hl : lv_has ls 2 [(0, .ref (ad k)), (1, .int a1)] := hl
  have main : ∀ (H : Heap) (locs : List Loc) (ls : Array Slot), va_P D vwCl (wd ca ad S) H → va_S (Aq ad s.heap.size) s.heap H locs → lv_has ls 2 [(0, .ref (ad k)), (1, .int a1)] → W p l e rm_X0_pick s m args below meth c H locs 0 0 (Zr below D ca ad args s o S) (F0 m 0 ls []) := by
    intro H locs ls hP hS hl
    unfold f_X0_pick at hf
    refine lv_iload_n hx hb dX0_pick_0 rfl (lv_at hl 1 rfl) ?_
    refine lv_if_ne (tgt := 11) hx hb dX0_pick_1 (by decide) (fun w => ?_) (fun w => ?_)
    · have hf := if_f w hf
      refine lv_iload_n hx hb dX0_pick_11 rfl (lv_at hl 1 rfl) ?_
      refine lv_iconst (v := 1) hx hb dX0_pick_12 (by decide) ?_
      refine lv_icmp_ne (tgt := 23) hx hb dX0_pick_13 (by decide) (fun w => ?_) (fun w => ?_)
      · have hf := if_f w hf
        refine lv_aload_n hx hb dX0_pick_23 rfl (lv_at hl 0 rfl) ?_
        refine g_X0_after hx hb hX0 hown hKK hP hk K25 dX0_pick_24 ?_
        obtain rfl := Option.some.inj hf
        exact r_aret hx hb hr hP hS dX0_pick_27 hlocks
      · have hf := if_t w hf
        refine lv_aload_n hx hb dX0_pick_16 rfl (lv_at hl 0 rfl) ?_
        refine g_X0_at hx hb hX0 hown hKK hP hk K22 dX0_pick_17 ?_
        refine lv_goto (tgt := 27) hx hb dX0_pick_20 (by decide) ?_
        obtain rfl := Option.some.inj hf
        exact r_aret hx hb hr hP hS dX0_pick_27 hlocks
    · have hf := if_t w hf
      refine lv_aload_n hx hb dX0_pick_4 rfl (lv_at hl 0 rfl) ?_
      refine g_X0_first hx hb hX0 hown hKK hP hk K18 dX0_pick_5 ?_
      refine lv_goto (tgt := 27) hx hb dX0_pick_8 (by decide) ?_
      obtain rfl := Option.some.inj hf
      exact r_aret hx hb hr hP hS dX0_pick_27 hlocks
  exact main s.heap [] ls hP va_S.rf hl
def rm_X0_clear : Room := { frames := 2, cells := 0, slots := 0, locals := 43 }
set_option maxRecDepth 100000 in
set_option maxHeartbeats 4000000 in
theorem m_X0_clear (l : Launch) (D : va_G) (ca : Nat → ClassId) (ad : Nat → Nat) (hj : Inj ad) (k : Nat) (hk : qk k = 0) (S : QS) (o : QS) (hf : f_X0_clear k S = some o) : Cv l D ca ad yX0_clear wsX0_clear rm_X0_clear [.ref (ad k)] S o := by
  intro sz
  refine Met.ofW (cc := cX0_clear) (maxL := 1) (ret := none) (by decide) rfl ?_
  intro p e s m args below meth c s₁ B hml hv
  obtain ⟨hav, hsz, hP, hKK⟩ := hv
  have hx := B.exec
  have hb := B.bytes
  have hr := B.returns
  have hts := atoms_spec (ws := wsX0_clear) B.pre
  have hown : s.vm.findClass RX0 = some m.cls := findClass_of_methodNamed B.named
  have hlocks := B.notSynchronized
  subst hsz
  have hX0 : ∀ w ∈ wsX00, w.before _ s = true := fun w h => hts w (List.mem_cons_of_mem _ (List.mem_append_left _ (List.mem_append_right _ h)))
  have K18 := hts (Cond.fieldLink RX0 18 "CrashDesk$Car" "first" "LCrashDesk$Speed;") (List.mem_cons_of_mem _ (List.mem_append_left _ (List.mem_append_left _ (List.mem_of_getElem? (i := 0) rfl))))
  have K22 := hts (Cond.fieldLink RX0 22 "CrashDesk$Car" "at" "LCrashDesk$Speed;") (List.mem_cons_of_mem _ (List.mem_append_left _ (List.mem_append_left _ (List.mem_of_getElem? (i := 1) rfl))))
  have K25 := hts (Cond.fieldLink RX0 25 "CrashDesk$Car" "after" "LCrashDesk$Speed;") (List.mem_cons_of_mem _ (List.mem_append_left _ (List.mem_append_left _ (List.mem_of_getElem? (i := 2) rfl))))
  have K32 := hts (Cond.fieldLink RX0 32 "CrashDesk$Car" "aheadLeast" "I") (List.mem_cons_of_mem _ (List.mem_append_left _ (List.mem_append_left _ (List.mem_of_getElem? (i := 3) rfl))))
  have K35 := hts (Cond.fieldLink RX0 35 "CrashDesk$Car" "aheadGreatest" "I") (List.mem_cons_of_mem _ (List.mem_append_left _ (List.mem_append_left _ (List.mem_of_getElem? (i := 4) rfl))))
  have K38 := hts (Cond.fieldLink RX0 38 "CrashDesk$Car" "behindLeast" "I") (List.mem_cons_of_mem _ (List.mem_append_left _ (List.mem_append_left _ (List.mem_of_getElem? (i := 5) rfl))))
  have K41 := hts (Cond.fieldLink RX0 41 "CrashDesk$Car" "behindGreatest" "I") (List.mem_cons_of_mem _ (List.mem_append_left _ (List.mem_append_left _ (List.mem_of_getElem? (i := 6) rfl))))
  have K44 := hts (Cond.fieldLink RX0 44 "CrashDesk$Car" "skidsBehind" "Z") (List.mem_cons_of_mem _ (List.mem_append_left _ (List.mem_append_left _ (List.mem_of_getElem? (i := 7) rfl))))
  have hl := lv_entry [.ref (ad k)] (n := 1) (Nat.le_of_ble_eq_true rfl)
  rw [show entryFrame m args 1 = entryFrame m ([.ref (ad k)] : List Value).toArray 1 by rw [hav], lg_entry_eq]
  generalize (lg_sl [.ref (ad k)] ++ List.replicate (1 - (lg_sl [.ref (ad k)]).length) Slot.unset).toArray = ls at hl ⊢
  have hl : lv_has ls 1 [(0, .ref (ad k))] := hl
  have main : ∀ (H : Heap) (locs : List Loc) (ls : Array Slot), va_P D vwCl (wd ca ad S) H → va_S (Aq ad s.heap.size) s.heap H locs → lv_has ls 1 [(0, .ref (ad k))] → W p l e rm_X0_clear s m args below meth c H locs 0 0 (Zv below D ca ad args s o) (F0 m 0 ls []) := by
    intro H locs ls hP hS hl
    unfold f_X0_clear at hf
    refine lv_aload_n hx hb dX0_clear_0 rfl (lv_at hl 0 rfl) ?_
    refine g_X0_first hx hb hX0 hown hKK hP hk K18 dX0_clear_1 ?_
    obtain ⟨S2, h1, hf⟩ := bd_e hf
    refine r_cv hS (va_runV (As := []) (rest := []) ⟨hx, hb, hml, hown, hts⟩ (m_X3_clear l D ca ad hj (k + 1) (q_car hk).1 S _ h1 H.size) (cwV 0 hts gX0_clear_X3_clear rfl rfl rfl (by decide +kernel) ⟨Nat.le_of_ble_eq_true rfl, Nat.le_of_ble_eq_true rfl⟩) (r_preV hKK hP (q_car hk).1 rfl) rfl rfl hl.1 rfl (lv_room (Nat.le_of_ble_eq_true rfl)) dX0_clear_4 ⟨Nat.le_of_ble_eq_true rfl, Nat.le_of_ble_eq_true rfl⟩) (fun H locs hP hS => ?_)
    refine lv_aload_n hx hb dX0_clear_7 rfl (lv_at hl 0 rfl) ?_
    refine g_X0_at hx hb hX0 hown hKK hP hk K22 dX0_clear_8 ?_
    obtain ⟨S4, h3, hf⟩ := bd_e hf
    refine r_cv hS (va_runV (As := []) (rest := []) ⟨hx, hb, hml, hown, hts⟩ (m_X3_clear l D ca ad hj (k + 4) (q_car hk).2.1 S2 _ h3 H.size) (cwV 0 hts gX0_clear_X3_clear rfl rfl rfl (by decide +kernel) ⟨Nat.le_of_ble_eq_true rfl, Nat.le_of_ble_eq_true rfl⟩) (r_preV hKK hP (q_car hk).2.1 rfl) rfl rfl hl.1 rfl (lv_room (Nat.le_of_ble_eq_true rfl)) dX0_clear_11 ⟨Nat.le_of_ble_eq_true rfl, Nat.le_of_ble_eq_true rfl⟩) (fun H locs hP hS => ?_)
    refine lv_aload_n hx hb dX0_clear_14 rfl (lv_at hl 0 rfl) ?_
    refine g_X0_after hx hb hX0 hown hKK hP hk K25 dX0_clear_15 ?_
    obtain ⟨S6, h5, hf⟩ := bd_e hf
    refine r_cv hS (va_runV (As := []) (rest := []) ⟨hx, hb, hml, hown, hts⟩ (m_X3_clear l D ca ad hj (k + 7) (q_car hk).2.2.1 S4 _ h5 H.size) (cwV 0 hts gX0_clear_X3_clear rfl rfl rfl (by decide +kernel) ⟨Nat.le_of_ble_eq_true rfl, Nat.le_of_ble_eq_true rfl⟩) (r_preV hKK hP (q_car hk).2.2.1 rfl) rfl rfl hl.1 rfl (lv_room (Nat.le_of_ble_eq_true rfl)) dX0_clear_18 ⟨Nat.le_of_ble_eq_true rfl, Nat.le_of_ble_eq_true rfl⟩) (fun H locs hP hS => ?_)
    refine lv_aload_n hx hb dX0_clear_21 rfl (lv_at hl 0 rfl) ?_
    refine lv_iconst (v := 0) hx hb dX0_clear_22 (by decide) ?_
    obtain ⟨S7, h8, hf⟩ := bd_e hf
    obtain rfl := Option.some.inj h8
    refine p_X0_aheadLeast hx hb hX0 hown hj hKK hP hS hk K32 dX0_clear_23 (fun H locs hP hS => ?_)
    refine lv_aload_n hx hb dX0_clear_26 rfl (lv_at hl 0 rfl) ?_
    refine lv_iconst (v := 0) hx hb dX0_clear_27 (by decide) ?_
    obtain ⟨S9, h10, hf⟩ := bd_e hf
    obtain rfl := Option.some.inj h10
    refine p_X0_aheadGreatest hx hb hX0 hown hj hKK hP hS hk K35 dX0_clear_28 (fun H locs hP hS => ?_)
    refine lv_aload_n hx hb dX0_clear_31 rfl (lv_at hl 0 rfl) ?_
    refine lv_iconst (v := 0) hx hb dX0_clear_32 (by decide) ?_
    obtain ⟨S11, h12, hf⟩ := bd_e hf
    obtain rfl := Option.some.inj h12
    refine p_X0_behindLeast hx hb hX0 hown hj hKK hP hS hk K38 dX0_clear_33 (fun H locs hP hS => ?_)
    refine lv_aload_n hx hb dX0_clear_36 rfl (lv_at hl 0 rfl) ?_
    refine lv_iconst (v := 0) hx hb dX0_clear_37 (by decide) ?_
    obtain ⟨S13, h14, hf⟩ := bd_e hf
    obtain rfl := Option.some.inj h14
    refine p_X0_behindGreatest hx hb hX0 hown hj hKK hP hS hk K41 dX0_clear_38 (fun H locs hP hS => ?_)
    refine lv_aload_n hx hb dX0_clear_41 rfl (lv_at hl 0 rfl) ?_
    refine lv_iconst (v := 0) hx hb dX0_clear_42 (by decide) ?_
    obtain ⟨S15, h16, hf⟩ := bd_e hf
    refine p_X0_skidsBehind hx hb hX0 hown hj hKK hP hS hk h16 K44 dX0_clear_43 (fun H locs hP hS => ?_)
    obtain rfl := Option.some.inj hf
    exact r_vret hx hb hr hP hS dX0_clear_46 hlocks
  exact main s.heap [] ls hP va_S.rf hl
def rm_X0_add : Room := { frames := 0, cells := 0, slots := 0, locals := 0 }
set_option maxRecDepth 100000 in
set_option maxHeartbeats 4000000 in
theorem m_X0_add (l : Launch) (D : va_G) (ca : Nat → ClassId) (ad : Nat → Nat) (hj : Inj ad) (k : Nat) (hk : qk k = 0) (t1 : Nat) (ht1 : qk t1 = 2) (S : QS) (o : QS) (hf : f_X0_add k t1 S = some o) : Cv l D ca ad yX0_add wsX0_add rm_X0_add [.ref (ad k), .ref (ad t1)] S o := by
  intro sz
  refine Met.ofW (cc := cX0_add) (maxL := 2) (ret := none) (by decide) rfl ?_
  intro p e s m args below meth c s₁ B hml hv
  obtain ⟨hav, hsz, hP, hKK⟩ := hv
  have hx := B.exec
  have hb := B.bytes
  have hr := B.returns
  have hts := atoms_spec (ws := wsX0_add) B.pre
  have hown : s.vm.findClass RX0 = some m.cls := findClass_of_methodNamed B.named
  have hlocks := B.notSynchronized
  subst hsz
  have hX0 : ∀ w ∈ wsX00, w.before _ s = true := fun w h => hts w (List.mem_cons_of_mem _ (List.mem_append_right _ h))
  have hX2 : ∀ w ∈ wsX20, w.before _ s = true := fun w h => hts w (List.mem_cons_of_mem _ (List.mem_append_left _ (List.mem_append_right _ h)))
  have K32 := hts (Cond.fieldLink RX0 32 "CrashDesk$Car" "aheadLeast" "I") (List.mem_cons_of_mem _ (List.mem_append_left _ (List.mem_append_left _ (List.mem_of_getElem? (i := 6) rfl))))
  have K35 := hts (Cond.fieldLink RX0 35 "CrashDesk$Car" "aheadGreatest" "I") (List.mem_cons_of_mem _ (List.mem_append_left _ (List.mem_append_left _ (List.mem_of_getElem? (i := 7) rfl))))
  have K38 := hts (Cond.fieldLink RX0 38 "CrashDesk$Car" "behindLeast" "I") (List.mem_cons_of_mem _ (List.mem_append_left _ (List.mem_append_left _ (List.mem_of_getElem? (i := 1) rfl))))
  have K41 := hts (Cond.fieldLink RX0 41 "CrashDesk$Car" "behindGreatest" "I") (List.mem_cons_of_mem _ (List.mem_append_left _ (List.mem_append_left _ (List.mem_of_getElem? (i := 3) rfl))))
  have K44 := hts (Cond.fieldLink RX0 44 "CrashDesk$Car" "skidsBehind" "Z") (List.mem_cons_of_mem _ (List.mem_append_left _ (List.mem_append_left _ (List.mem_of_getElem? (i := 5) rfl))))
  have K51 := hts (Cond.fieldLink RX0 51 "CrashDesk$Skid" "behind" "Z") (List.mem_cons_of_mem _ (List.mem_append_left _ (List.mem_append_left _ (List.mem_of_getElem? (i := 0) rfl))))
  have K56 := hts (Cond.fieldLink RX0 56 "CrashDesk$Skid" "least" "I") (List.mem_cons_of_mem _ (List.mem_append_left _ (List.mem_append_left _ (List.mem_of_getElem? (i := 2) rfl))))
  have K59 := hts (Cond.fieldLink RX0 59 "CrashDesk$Skid" "greatest" "I") (List.mem_cons_of_mem _ (List.mem_append_left _ (List.mem_append_left _ (List.mem_of_getElem? (i := 4) rfl))))
  have hl := lv_entry [.ref (ad k), .ref (ad t1)] (n := 2) (Nat.le_of_ble_eq_true rfl)
  rw [show entryFrame m args 2 = entryFrame m ([.ref (ad k), .ref (ad t1)] : List Value).toArray 2 by rw [hav], lg_entry_eq]
  generalize (lg_sl [.ref (ad k), .ref (ad t1)] ++ List.replicate (2 - (lg_sl [.ref (ad k), .ref (ad t1)]).length) Slot.unset).toArray = ls at hl ⊢
  have hl : lv_has ls 2 [(0, .ref (ad k)), (1, .ref (ad t1))] := hl
  have main : ∀ (H : Heap) (locs : List Loc) (ls : Array Slot), va_P D vwCl (wd ca ad S) H → va_S (Aq ad s.heap.size) s.heap H locs → lv_has ls 2 [(0, .ref (ad k)), (1, .ref (ad t1))] → W p l e rm_X0_add s m args below meth c H locs 0 0 (Zv below D ca ad args s o) (F0 m 0 ls []) := by
    intro H locs ls hP hS hl
    unfold f_X0_add at hf
    refine lv_aload_n hx hb dX0_add_0 rfl (lv_at hl 1 rfl) ?_
    refine g_X2_behind hx hb hX2 hown hKK hP ht1 K51 dX0_add_1 ?_
    refine lv_if_eq (tgt := 41) hx hb dX0_add_4 (by decide) (fun w => ?_) (fun w => ?_)
    · have hf := if_t w hf
      refine lv_aload_n hx hb dX0_add_41 rfl (lv_at hl 0 rfl) ?_
      refine lv_dup hx hb dX0_add_42 rfl ?_
      refine g_X0_aheadLeast hx hb hX0 hown hKK hP hk K32 dX0_add_43 ?_
      refine lv_aload_n hx hb dX0_add_46 rfl (lv_at hl 1 rfl) ?_
      refine g_X2_least hx hb hX2 hown hKK hP ht1 K56 dX0_add_47 ?_
      refine lv_iadd hx hb dX0_add_50 ?_
      obtain ⟨S1, h2, hf⟩ := bd_e hf
      obtain rfl := Option.some.inj h2
      refine p_X0_aheadLeast hx hb hX0 hown hj hKK hP hS hk K32 dX0_add_51 (fun H locs hP hS => ?_)
      refine lv_aload_n hx hb dX0_add_54 rfl (lv_at hl 0 rfl) ?_
      refine lv_dup hx hb dX0_add_55 rfl ?_
      refine g_X0_aheadGreatest hx hb hX0 hown hKK hP hk K35 dX0_add_56 ?_
      refine lv_aload_n hx hb dX0_add_59 rfl (lv_at hl 1 rfl) ?_
      refine g_X2_greatest hx hb hX2 hown hKK hP ht1 K59 dX0_add_60 ?_
      refine lv_iadd hx hb dX0_add_63 ?_
      obtain ⟨S3, h4, hf⟩ := bd_e hf
      obtain rfl := Option.some.inj h4
      refine p_X0_aheadGreatest hx hb hX0 hown hj hKK hP hS hk K35 dX0_add_64 (fun H locs hP hS => ?_)
      obtain rfl := Option.some.inj hf
      exact r_vret hx hb hr hP hS dX0_add_67 hlocks
    · have hf := if_f w hf
      refine lv_aload_n hx hb dX0_add_7 rfl (lv_at hl 0 rfl) ?_
      refine lv_dup hx hb dX0_add_8 rfl ?_
      refine g_X0_behindLeast hx hb hX0 hown hKK hP hk K38 dX0_add_9 ?_
      refine lv_aload_n hx hb dX0_add_12 rfl (lv_at hl 1 rfl) ?_
      refine g_X2_least hx hb hX2 hown hKK hP ht1 K56 dX0_add_13 ?_
      refine lv_iadd hx hb dX0_add_16 ?_
      obtain ⟨S5, h6, hf⟩ := bd_e hf
      obtain rfl := Option.some.inj h6
      refine p_X0_behindLeast hx hb hX0 hown hj hKK hP hS hk K38 dX0_add_17 (fun H locs hP hS => ?_)
      refine lv_aload_n hx hb dX0_add_20 rfl (lv_at hl 0 rfl) ?_
      refine lv_dup hx hb dX0_add_21 rfl ?_
      refine g_X0_behindGreatest hx hb hX0 hown hKK hP hk K41 dX0_add_22 ?_
      refine lv_aload_n hx hb dX0_add_25 rfl (lv_at hl 1 rfl) ?_
      refine g_X2_greatest hx hb hX2 hown hKK hP ht1 K59 dX0_add_26 ?_
      refine lv_iadd hx hb dX0_add_29 ?_
      obtain ⟨S7, h8, hf⟩ := bd_e hf
      obtain rfl := Option.some.inj h8
      refine p_X0_behindGreatest hx hb hX0 hown hj hKK hP hS hk K41 dX0_add_30 (fun H locs hP hS => ?_)
      refine lv_aload_n hx hb dX0_add_33 rfl (lv_at hl 0 rfl) ?_
      refine lv_iconst (v := 1) hx hb dX0_add_34 (by decide) ?_
      obtain ⟨S9, h10, hf⟩ := bd_e hf
      refine p_X0_skidsBehind hx hb hX0 hown hj hKK hP hS hk h10 K44 dX0_add_35 (fun H locs hP hS => ?_)
      refine lv_goto (tgt := 67) hx hb dX0_add_38 (by decide) ?_
      obtain rfl := Option.some.inj hf
      exact r_vret hx hb hr hP hS dX0_add_67 hlocks
  exact main s.heap [] ls hP va_S.rf hl
def rm_X0_isTakenBehind : Room := { frames := 0, cells := 0, slots := 0, locals := 0 }
set_option maxRecDepth 100000 in
set_option maxHeartbeats 4000000 in
theorem m_X0_isTakenBehind (l : Launch) (D : va_G) (ca : Nat → ClassId) (ad : Nat → Nat) (hj : Inj ad) (k : Nat) (hk : qk k = 0) (a1 : Int32) (S : QS) (o : Int32) (hf : f_X0_isTakenBehind k a1 S = some o) : Ci l D ca ad yX0_isTakenBehind wsX0_isTakenBehind rm_X0_isTakenBehind [.ref (ad k), .int a1] S o S := by
  intro sz
  refine Met.ofW (cc := cX0_isTakenBehind) (maxL := 3) (ret := (some .boolean)) (by decide) rfl ?_
  intro p e s m args below meth c s₁ B hml hv
  obtain ⟨hav, hsz, hP, hKK⟩ := hv
  have hx := B.exec
  have hb := B.bytes
  have hr := B.returns
  have hts := atoms_spec (ws := wsX0_isTakenBehind) B.pre
  have hown : s.vm.findClass RX0 = some m.cls := findClass_of_methodNamed B.named
  have hlocks := B.notSynchronized
  subst hsz
  have hX0 : ∀ w ∈ wsX00, w.before _ s = true := fun w h => hts w (List.mem_cons_of_mem _ (List.mem_append_right _ h))
  have K38 := hts (Cond.fieldLink RX0 38 "CrashDesk$Car" "behindLeast" "I") (List.mem_cons_of_mem _ (List.mem_append_left _ (List.mem_of_getElem? (i := 0) rfl)))
  have K41 := hts (Cond.fieldLink RX0 41 "CrashDesk$Car" "behindGreatest" "I") (List.mem_cons_of_mem _ (List.mem_append_left _ (List.mem_of_getElem? (i := 1) rfl)))
  have hl := lv_entry [.ref (ad k), .int a1] (n := 3) (Nat.le_of_ble_eq_true rfl)
  rw [show entryFrame m args 3 = entryFrame m ([.ref (ad k), .int a1] : List Value).toArray 3 by rw [hav], lg_entry_eq]
  generalize (lg_sl [.ref (ad k), .int a1] ++ List.replicate (3 - (lg_sl [.ref (ad k), .int a1]).length) Slot.unset).toArray = ls at hl ⊢
  have hl : lv_has ls 3 [(0, .ref (ad k)), (1, .int a1)] := hl
  have main : ∀ (H : Heap) (locs : List Loc) (ls : Array Slot), va_P D vwCl (wd ca ad S) H → va_S (Aq ad s.heap.size) s.heap H locs → lv_has ls 3 [(0, .ref (ad k)), (1, .int a1)] → W p l e rm_X0_isTakenBehind s m args below meth c H locs 0 0 (Zi below D ca ad args s o S) (F0 m 0 ls []) := by
    intro H locs ls hP hS hl
    unfold f_X0_isTakenBehind at hf
    refine lv_bipush (v := 51) hx hb dX0_isTakenBehind_0 (by decide) ?_
    refine lv_iload_n hx hb dX0_isTakenBehind_2 rfl (lv_at hl 1 rfl) ?_
    refine lv_imul hx hb dX0_isTakenBehind_3 ?_
    refine lv_iload_n hx hb dX0_isTakenBehind_4 rfl (lv_at hl 1 rfl) ?_
    refine lv_imul hx hb dX0_isTakenBehind_5 ?_
    refine lv_istore_n (lv' := [(2, .int ((51 * a1) * a1)), (0, .ref (ad k)), (1, .int a1)]) hx hb dX0_isTakenBehind_6 rfl hl (by decide) rfl (fun ls hl => ?_)
    refine lv_iload_n hx hb dX0_isTakenBehind_7 rfl (lv_at hl 0 rfl) ?_
    refine lv_aload_n hx hb dX0_isTakenBehind_8 rfl (lv_at hl 1 rfl) ?_
    refine g_X0_behindLeast hx hb hX0 hown hKK hP hk K38 dX0_isTakenBehind_9 ?_
    refine lv_icmp_lt (tgt := 27) hx hb dX0_isTakenBehind_12 (by decide) (fun w => ?_) (fun w => ?_)
    · have hf := if_t w hf
      refine lv_iconst (v := 0) hx hb dX0_isTakenBehind_27 (by decide) ?_
      obtain rfl := Option.some.inj hf
      exact r_zret hx hb hr hP hS (Or.inl rfl) dX0_isTakenBehind_28 hlocks
    · have hf := if_f w hf
      refine lv_iload_n hx hb dX0_isTakenBehind_15 rfl (lv_at hl 0 rfl) ?_
      refine lv_aload_n hx hb dX0_isTakenBehind_16 rfl (lv_at hl 1 rfl) ?_
      refine g_X0_behindGreatest hx hb hX0 hown hKK hP hk K41 dX0_isTakenBehind_17 ?_
      refine lv_icmp_gt (tgt := 27) hx hb dX0_isTakenBehind_20 (by decide) (fun w => ?_) (fun w => ?_)
      · have hf := if_t w hf
        refine lv_iconst (v := 0) hx hb dX0_isTakenBehind_27 (by decide) ?_
        obtain rfl := Option.some.inj hf
        exact r_zret hx hb hr hP hS (Or.inl rfl) dX0_isTakenBehind_28 hlocks
      · have hf := if_f w hf
        refine lv_iconst (v := 1) hx hb dX0_isTakenBehind_23 (by decide) ?_
        refine lv_goto (tgt := 28) hx hb dX0_isTakenBehind_24 (by decide) ?_
        obtain rfl := Option.some.inj hf
        exact r_zret hx hb hr hP hS (Or.inr rfl) dX0_isTakenBehind_28 hlocks
  exact main s.heap [] ls hP va_S.rf hl
def rm_X0_isTakenAhead : Room := { frames := 0, cells := 0, slots := 0, locals := 0 }
set_option maxRecDepth 100000 in
set_option maxHeartbeats 4000000 in
theorem m_X0_isTakenAhead (l : Launch) (D : va_G) (ca : Nat → ClassId) (ad : Nat → Nat) (hj : Inj ad) (k : Nat) (hk : qk k = 0) (a1 : Int32) (a2 : Int32) (S : QS) (o : Int32) (hf : f_X0_isTakenAhead k a1 a2 S = some o) : Ci l D ca ad yX0_isTakenAhead wsX0_isTakenAhead rm_X0_isTakenAhead [.ref (ad k), .int a1, .int a2] S o S := by
  intro sz
  refine Met.ofW (cc := cX0_isTakenAhead) (maxL := 4) (ret := (some .boolean)) (by decide) rfl ?_
  intro p e s m args below meth c s₁ B hml hv
  obtain ⟨hav, hsz, hP, hKK⟩ := hv
  have hx := B.exec
  have hb := B.bytes
  have hr := B.returns
  have hts := atoms_spec (ws := wsX0_isTakenAhead) B.pre
  have hown : s.vm.findClass RX0 = some m.cls := findClass_of_methodNamed B.named
  have hlocks := B.notSynchronized
  subst hsz
  have hX0 : ∀ w ∈ wsX00, w.before _ s = true := fun w h => hts w (List.mem_cons_of_mem _ (List.mem_append_right _ h))
  have K32 := hts (Cond.fieldLink RX0 32 "CrashDesk$Car" "aheadLeast" "I") (List.mem_cons_of_mem _ (List.mem_append_left _ (List.mem_of_getElem? (i := 0) rfl)))
  have K35 := hts (Cond.fieldLink RX0 35 "CrashDesk$Car" "aheadGreatest" "I") (List.mem_cons_of_mem _ (List.mem_append_left _ (List.mem_of_getElem? (i := 1) rfl)))
  have hl := lv_entry [.ref (ad k), .int a1, .int a2] (n := 4) (Nat.le_of_ble_eq_true rfl)
  rw [show entryFrame m args 4 = entryFrame m ([.ref (ad k), .int a1, .int a2] : List Value).toArray 4 by rw [hav], lg_entry_eq]
  generalize (lg_sl [.ref (ad k), .int a1, .int a2] ++ List.replicate (4 - (lg_sl [.ref (ad k), .int a1, .int a2]).length) Slot.unset).toArray = ls at hl ⊢
  have hl : lv_has ls 4 [(0, .ref (ad k)), (1, .int a1), (2, .int a2)] := hl
  have main : ∀ (H : Heap) (locs : List Loc) (ls : Array Slot), va_P D vwCl (wd ca ad S) H → va_S (Aq ad s.heap.size) s.heap H locs → lv_has ls 4 [(0, .ref (ad k)), (1, .int a1), (2, .int a2)] → W p l e rm_X0_isTakenAhead s m args below meth c H locs 0 0 (Zi below D ca ad args s o S) (F0 m 0 ls []) := by
    intro H locs ls hP hS hl
    unfold f_X0_isTakenAhead at hf
    refine lv_bipush (v := 51) hx hb dX0_isTakenAhead_0 (by decide) ?_
    refine lv_iload_n hx hb dX0_isTakenAhead_2 rfl (lv_at hl 1 rfl) ?_
    refine lv_imul hx hb dX0_isTakenAhead_3 ?_
    refine lv_iload_n hx hb dX0_isTakenAhead_4 rfl (lv_at hl 1 rfl) ?_
    refine lv_imul hx hb dX0_isTakenAhead_5 ?_
    refine lv_bipush (v := 51) hx hb dX0_isTakenAhead_6 (by decide) ?_
    refine lv_iload_n hx hb dX0_isTakenAhead_8 rfl (lv_at hl 2 rfl) ?_
    refine lv_imul hx hb dX0_isTakenAhead_9 ?_
    refine lv_iload_n hx hb dX0_isTakenAhead_10 rfl (lv_at hl 2 rfl) ?_
    refine lv_imul hx hb dX0_isTakenAhead_11 ?_
    refine lv_isub hx hb dX0_isTakenAhead_12 ?_
    refine lv_istore_n (lv' := [(3, .int (((51 * a1) * a1) - ((51 * a2) * a2))), (0, .ref (ad k)), (1, .int a1), (2, .int a2)]) hx hb dX0_isTakenAhead_13 rfl hl (by decide) rfl (fun ls hl => ?_)
    refine lv_iload_n hx hb dX0_isTakenAhead_14 rfl (lv_at hl 0 rfl) ?_
    refine lv_aload_n hx hb dX0_isTakenAhead_15 rfl (lv_at hl 1 rfl) ?_
    refine g_X0_aheadLeast hx hb hX0 hown hKK hP hk K32 dX0_isTakenAhead_16 ?_
    refine lv_icmp_lt (tgt := 34) hx hb dX0_isTakenAhead_19 (by decide) (fun w => ?_) (fun w => ?_)
    · have hf := if_t w hf
      refine lv_iconst (v := 0) hx hb dX0_isTakenAhead_34 (by decide) ?_
      obtain rfl := Option.some.inj hf
      exact r_zret hx hb hr hP hS (Or.inl rfl) dX0_isTakenAhead_35 hlocks
    · have hf := if_f w hf
      refine lv_iload_n hx hb dX0_isTakenAhead_22 rfl (lv_at hl 0 rfl) ?_
      refine lv_aload_n hx hb dX0_isTakenAhead_23 rfl (lv_at hl 1 rfl) ?_
      refine g_X0_aheadGreatest hx hb hX0 hown hKK hP hk K35 dX0_isTakenAhead_24 ?_
      refine lv_icmp_gt (tgt := 34) hx hb dX0_isTakenAhead_27 (by decide) (fun w => ?_) (fun w => ?_)
      · have hf := if_t w hf
        refine lv_iconst (v := 0) hx hb dX0_isTakenAhead_34 (by decide) ?_
        obtain rfl := Option.some.inj hf
        exact r_zret hx hb hr hP hS (Or.inl rfl) dX0_isTakenAhead_35 hlocks
      · have hf := if_f w hf
        refine lv_iconst (v := 1) hx hb dX0_isTakenAhead_30 (by decide) ?_
        refine lv_goto (tgt := 35) hx hb dX0_isTakenAhead_31 (by decide) ?_
        obtain rfl := Option.some.inj hf
        exact r_zret hx hb hr hP hS (Or.inr rfl) dX0_isTakenAhead_35 hlocks
  exact main s.heap [] ls hP va_S.rf hl
def rm_X0_firstFor : Room := { frames := 0, cells := 0, slots := 0, locals := 0 }
set_option maxRecDepth 100000 in
set_option maxHeartbeats 4000000 in
theorem m_X0_firstFor (l : Launch) (D : va_G) (ca : Nat → ClassId) (ad : Nat → Nat) (hj : Inj ad) (a1 : Int32) (a2 : Int32) (S : QS) (o : Int32) (hf : f_X0_firstFor a1 a2 = some o) : Ci l D ca ad yX0_firstFor wsX0_firstFor rm_X0_firstFor [.int a1, .int a2] S o S := by
  intro sz
  refine Met.ofW (cc := cX0_firstFor) (maxL := 2) (ret := (some .int)) (by decide) rfl ?_
  intro p e s m args below meth c s₁ B hml hv
  obtain ⟨hav, hsz, hP, hKK⟩ := hv
  have hx := B.exec
  have hb := B.bytes
  have hr := B.returns
  have hts := atoms_spec (ws := wsX0_firstFor) B.pre
  have hown : s.vm.findClass RX0 = some m.cls := findClass_of_methodNamed B.named
  have hlocks := B.notSynchronized
  subst hsz
  have hl := lv_entry [.int a1, .int a2] (n := 2) (Nat.le_of_ble_eq_true rfl)
  rw [show entryFrame m args 2 = entryFrame m ([.int a1, .int a2] : List Value).toArray 2 by rw [hav], lg_entry_eq]
  generalize (lg_sl [.int a1, .int a2] ++ List.replicate (2 - (lg_sl [.int a1, .int a2]).length) Slot.unset).toArray = ls at hl ⊢
  have hl : lv_has ls 2 [(0, .int a1), (1, .int a2)] := hl
  have main : ∀ (H : Heap) (locs : List Loc) (ls : Array Slot), va_P D vwCl (wd ca ad S) H → va_S (Aq ad s.heap.size) s.heap H locs → lv_has ls 2 [(0, .int a1), (1, .int a2)] → W p l e rm_X0_firstFor s m args below meth c H locs 0 0 (Zi below D ca ad args s o S) (F0 m 0 ls []) := by
    intro H locs ls hP hS hl
    unfold f_X0_firstFor at hf
    refine lv_iload_n hx hb dX0_firstFor_0 rfl (lv_at hl 1 rfl) ?_
    refine lv_if_ge (tgt := 9) hx hb dX0_firstFor_1 (by decide) (fun w => ?_) (fun w => ?_)
    · have hf := if_t w hf
      refine lv_iload_n hx hb dX0_firstFor_9 rfl (lv_at hl 0 rfl) ?_
      obtain rfl := Option.some.inj hf
      exact r_iret hx hb hr hP hS dX0_firstFor_10 hlocks
    · have hf := if_f w hf
      refine lv_iload_n hx hb dX0_firstFor_4 rfl (lv_at hl 0 rfl) ?_
      refine lv_ineg hx hb dX0_firstFor_5 ?_
      refine lv_goto (tgt := 10) hx hb dX0_firstFor_6 (by decide) ?_
      obtain rfl := Option.some.inj hf
      exact r_iret hx hb hr hP hS dX0_firstFor_10 hlocks
  exact main s.heap [] ls hP va_S.rf hl
def rm_X0_joinFirsts : Room := { frames := 1, cells := 0, slots := 0, locals := 23 }
set_option maxRecDepth 100000 in
set_option maxHeartbeats 4000000 in
theorem m_X0_joinFirsts (l : Launch) (D : va_G) (ca : Nat → ClassId) (ad : Nat → Nat) (hj : Inj ad) (k : Nat) (hk : qk k = 0) (a1 : Int32) (S : QS) (o : QS) (hf : f_X0_joinFirsts k a1 S = some o) : Cv l D ca ad yX0_joinFirsts wsX0_joinFirsts rm_X0_joinFirsts [.ref (ad k), .int a1] S o := by
  intro sz
  refine Met.ofW (cc := cX0_joinFirsts) (maxL := 6) (ret := none) (by decide) rfl ?_
  intro p e s m args below meth c s₁ B hml hv
  obtain ⟨hav, hsz, hP, hKK⟩ := hv
  have hx := B.exec
  have hb := B.bytes
  have hr := B.returns
  have hts := atoms_spec (ws := wsX0_joinFirsts) B.pre
  have hown : s.vm.findClass RX0 = some m.cls := findClass_of_methodNamed B.named
  have hlocks := B.notSynchronized
  subst hsz
  have hX0 : ∀ w ∈ wsX00, w.before _ s = true := fun w h => hts w (List.mem_cons_of_mem _ (List.mem_append_left _ (List.mem_append_right _ h)))
  have K18 := hts (Cond.fieldLink RX0 18 "CrashDesk$Car" "first" "LCrashDesk$Speed;") (List.mem_cons_of_mem _ (List.mem_append_left _ (List.mem_append_left _ (List.mem_append_left _ (List.mem_of_getElem? (i := 4) rfl)))))
  have K22 := hts (Cond.fieldLink RX0 22 "CrashDesk$Car" "at" "LCrashDesk$Speed;") (List.mem_cons_of_mem _ (List.mem_append_left _ (List.mem_append_left _ (List.mem_append_left _ (List.mem_of_getElem? (i := 6) rfl)))))
  have K28 := hts (Cond.fieldLink RX0 28 "CrashDesk$Car" "firstCounts" "[I") (List.mem_cons_of_mem _ (List.mem_append_left _ (List.mem_append_left _ (List.mem_append_left _ (List.mem_of_getElem? (i := 5) rfl)))))
  have K86 := hts (Cond.methodLink RX0 86 Lib.Math.abs.name) (List.mem_cons_of_mem _ (List.mem_append_left _ (List.mem_append_left _ (List.mem_append_left _ (List.mem_of_getElem? (i := 0) rfl)))))
  have hl := lv_entry [.ref (ad k), .int a1] (n := 6) (Nat.le_of_ble_eq_true rfl)
  rw [show entryFrame m args 6 = entryFrame m ([.ref (ad k), .int a1] : List Value).toArray 6 by rw [hav], lg_entry_eq]
  generalize (lg_sl [.ref (ad k), .int a1] ++ List.replicate (6 - (lg_sl [.ref (ad k), .int a1]).length) Slot.unset).toArray = ls at hl ⊢
  have hl : lv_has ls 6 [(0, .ref (ad k)), (1, .int a1)] := hl
  have main : ∀ (H : Heap) (locs : List Loc) (ls : Array Slot), va_P D vwCl (wd ca ad S) H → va_S (Aq ad s.heap.size) s.heap H locs → lv_has ls 6 [(0, .ref (ad k)), (1, .int a1)] → W p l e rm_X0_joinFirsts s m args below meth c H locs 0 0 (Zv below D ca ad args s o) (F0 m 0 ls []) := by
    intro H locs ls hP hS hl
    unfold f_X0_joinFirsts at hf
    refine lv_iconst (v := 0) hx hb dX0_joinFirsts_0 (by decide) ?_
    refine lv_istore_n (lv' := [(2, .int 0), (0, .ref (ad k)), (1, .int a1)]) hx hb dX0_joinFirsts_1 rfl hl (by decide) rfl (fun ls hl => ?_)
    refine lv_iconst (v := (-1)) hx hb dX0_joinFirsts_2 (by decide) ?_
    refine lv_istore_n (lv' := [(3, .int (-1)), (2, .int 0), (0, .ref (ad k)), (1, .int a1)]) hx hb dX0_joinFirsts_3 rfl hl (by decide) rfl (fun ls hl => ?_)
    refine lv_iload_n hx hb dX0_joinFirsts_4 rfl (lv_at hl 3 rfl) ?_
    refine va_mabs hx hb (hml.trans hl.1.symm) hown K86 (hts _ (List.mem_cons_of_mem _ (List.mem_append_left _ (List.mem_append_left _ (List.mem_append_left _ (List.mem_of_getElem? (i := 1) rfl)))))) (hts _ (List.mem_cons_of_mem _ (List.mem_append_left _ (List.mem_append_left _ (List.mem_append_left _ (List.mem_of_getElem? (i := 2) rfl)))))) (hts _ (List.mem_cons_of_mem _ (List.mem_append_left _ (List.mem_append_left _ (List.mem_append_left _ (List.mem_of_getElem? (i := 3) rfl)))))) (Nat.le_of_ble_eq_true rfl) (Nat.le_of_ble_eq_true rfl) (Nat.le_of_ble_eq_true rfl) (Nat.le_of_ble_eq_true rfl) dX0_joinFirsts_5 ?_
    refine lv_istore (lv' := [(4, .int (if 0 ≤ a1 then a1 else 0 - a1)), (3, .int (-1)), (2, .int 0), (0, .ref (ad k)), (1, .int a1)]) hx hb dX0_joinFirsts_8 hl (by decide) rfl (fun ls hl => ?_)
    obtain ⟨q4, hq4, hf⟩ := bd_e hf
    have J1 : ∀ (H : Heap) (locs : List Loc) (ls : Array Slot), va_P D vwCl (wd ca ad S) H → va_S (Aq ad s.heap.size) s.heap H locs → lv_has ls 6 [(0, .ref (ad k)), (1, .int a1), (2, .int q4.1), (3, .int q4.2)] → W p l e rm_X0_joinFirsts s m args below meth c H locs 0 0 (Zv below D ca ad args s o) (F0 m 68 ls []) := by
      intro H locs ls hP hS hl
      refine lv_iload_n hx hb dX0_joinFirsts_68 rfl (lv_at hl 1 rfl) ?_
      refine lv_bipush (v := (-50)) hx hb dX0_joinFirsts_69 (by decide) ?_
      obtain ⟨q14, hq14, hf⟩ := bd_e hf
      have J3 : ∀ (H : Heap) (locs : List Loc) (ls : Array Slot), va_P D vwCl (wd ca ad q14) H → va_S (Aq ad s.heap.size) s.heap H locs → lv_has ls 6 [(0, .ref (ad k)), (1, .int a1), (3, .int q4.2)] → W p l e rm_X0_joinFirsts s m args below meth c H locs 0 0 (Zv below D ca ad args s o) (F0 m 90 ls []) := by
        intro H locs ls hP hS hl
        refine lv_aload_n hx hb dX0_joinFirsts_90 rfl (lv_at hl 0 rfl) ?_
        refine g_X0_at hx hb hX0 hown hKK hP hk K22 dX0_joinFirsts_91 ?_
        refine lv_iload_n hx hb dX0_joinFirsts_94 rfl (lv_at hl 1 rfl) ?_
        refine lv_iload_n hx hb dX0_joinFirsts_95 rfl (lv_at hl 2 rfl) ?_
        refine lv_iconst (v := (-1)) hx hb dX0_joinFirsts_96 (by decide) ?_
        obtain ⟨q17, hq17, hf⟩ := bd_e hf
        have J4 : ∀ (H : Heap) (locs : List Loc) (ls : Array Slot), va_P D vwCl (wd ca ad q14) H → va_S (Aq ad s.heap.size) s.heap H locs → lv_has ls 6 [] → W p l e rm_X0_joinFirsts s m args below meth c H locs 0 0 (Zv below D ca ad args s o) (F0 m 114 ls [.int q17, .int a1, .ref (ad (k + 4))]) := by
          intro H locs ls hP hS hl
          obtain ⟨S21, h20, hf⟩ := bd_e hf
          refine r_cv hS (va_runV (As := [.int a1, .int q17]) (rest := []) ⟨hx, hb, hml, hown, hts⟩ (m_X3_setPrice l D ca ad hj (k + 4) (q_car hk).2.1 a1 q17 q14 _ h20 H.size) (cwV 2 hts gX0_joinFirsts_X3_setPrice rfl rfl rfl (by decide +kernel) ⟨Nat.le_of_ble_eq_true rfl, Nat.le_of_ble_eq_true rfl⟩) (r_preV hKK hP (q_car hk).2.1 rfl) rfl rfl hl.1 rfl (lv_room (Nat.le_of_ble_eq_true rfl)) dX0_joinFirsts_114 ⟨Nat.le_of_ble_eq_true rfl, Nat.le_of_ble_eq_true rfl⟩) (fun H locs hP hS => ?_)
          obtain rfl := Option.some.inj hf
          exact r_vret hx hb hr hP hS dX0_joinFirsts_117 hlocks
        replace hf := hq17
        refine lv_icmp_ne (tgt := 104) hx hb dX0_joinFirsts_97 (by decide) (fun w => ?_) (fun w => ?_)
        · have hf := if_f w hf
          refine lv_aload_n hx hb dX0_joinFirsts_104 rfl (lv_at hl 0 rfl) ?_
          refine g_X0_at hx hb hX0 hown hKK hP hk K22 dX0_joinFirsts_105 ?_
          refine lv_iload_n hx hb dX0_joinFirsts_108 rfl (lv_at hl 1 rfl) ?_
          obtain ⟨v19, h18, hf⟩ := bd_e hf
          refine r_ci hS (va_runV (As := [.int a1]) (rest := [.int a1, .ref (ad (k + 4))]) ⟨hx, hb, hml, hown, hts⟩ (m_X3_priceOf l D ca ad hj (k + 4) (q_car hk).2.1 a1 q14 _ h18 H.size) (cwV 1 hts gX0_joinFirsts_X3_priceOf rfl rfl rfl (by decide +kernel) ⟨Nat.le_of_ble_eq_true rfl, Nat.le_of_ble_eq_true rfl⟩) (r_preV hKK hP (q_car hk).2.1 rfl) rfl rfl hl.1 rfl (lv_room (Nat.le_of_ble_eq_true rfl)) dX0_joinFirsts_109 ⟨Nat.le_of_ble_eq_true rfl, Nat.le_of_ble_eq_true rfl⟩) (fun H locs hP hS => ?_)
          refine lv_iload_n hx hb dX0_joinFirsts_112 rfl (lv_at hl 2 rfl) ?_
          refine lv_iadd hx hb dX0_joinFirsts_113 ?_
          obtain rfl := Option.some.inj hf
          exact J4 _ _ _ hP hS (lv_sub hl [] rfl)
        · have hf := if_t w hf
          refine lv_iconst (v := (-1)) hx hb dX0_joinFirsts_100 (by decide) ?_
          refine lv_goto (tgt := 114) hx hb dX0_joinFirsts_101 (by decide) ?_
          obtain rfl := Option.some.inj hf
          exact J4 _ _ _ hP hS (lv_sub hl [] rfl)
      replace hf := hq14
      refine lv_icmp_lt (tgt := 90) hx hb dX0_joinFirsts_71 (by decide) (fun w => ?_) (fun w => ?_)
      · have hf := if_t w hf
        obtain rfl := Option.some.inj hf
        exact J3 _ _ _ hP hS (lv_sub hl [0, 1, 3] rfl)
      · have hf := if_f w hf
        refine lv_iload_n hx hb dX0_joinFirsts_74 rfl (lv_at hl 1 rfl) ?_
        refine lv_bipush (v := 50) hx hb dX0_joinFirsts_75 (by decide) ?_
        refine lv_icmp_gt (tgt := 90) hx hb dX0_joinFirsts_77 (by decide) (fun w => ?_) (fun w => ?_)
        · have hf := if_t w hf
          obtain rfl := Option.some.inj hf
          exact J3 _ _ _ hP hS (lv_sub hl [0, 1, 3] rfl)
        · have hf := if_f w hf
          refine lv_aload_n hx hb dX0_joinFirsts_80 rfl (lv_at hl 0 rfl) ?_
          refine g_X0_firstCounts hx hb hX0 hown hKK hP hk K28 dX0_joinFirsts_81 ?_
          refine lv_iload_n hx hb dX0_joinFirsts_84 rfl (lv_at hl 1 rfl) ?_
          refine lv_bipush (v := (-50)) hx hb dX0_joinFirsts_85 (by decide) ?_
          refine lv_isub hx hb dX0_joinFirsts_87 ?_
          refine lv_iload_n hx hb dX0_joinFirsts_88 rfl (lv_at hl 2 rfl) ?_
          obtain ⟨S15, h16, hf⟩ := bd_e hf
          refine r_iast hx hb hj hKK hP hS (q_car hk).2.2.2.1 (q_car hk).2.2.2.2 h16 dX0_joinFirsts_89 (fun H locs hP hS => ?_)
          obtain rfl := Option.some.inj hf
          exact J3 _ _ _ hP hS (lv_sub hl [0, 1, 3] rfl)
    replace hf := hq4
    have L1 : ∀ (fuel : Nat) (v1 : Int32) (v2 : Int32) (v3 : Int32), lp_X0_joinFirsts_10 k a1 S fuel v1 v2 v3 = some q4 → ∀ (H : Heap) (locs : List Loc) (ls : Array Slot), va_P D vwCl (wd ca ad S) H → va_S (Aq ad s.heap.size) s.heap H locs → lv_has ls 6 [(0, .ref (ad k)), (1, .int a1), (2, .int v1), (3, .int v2), (4, .int v3)] → W p l e rm_X0_joinFirsts s m args below meth c H locs 0 0 (Zv below D ca ad args s o) (F0 m 10 ls []) := by
      intro fuel
      induction fuel with
      | zero =>
        intro v1 v2 v3 hf
        simp [lp_X0_joinFirsts_10] at hf
      | succ fuel ih =>
        intro v1 v2 v3 hf H locs ls hP hS hl
        rw [lp_X0_joinFirsts_10] at hf
        refine lv_iload hx hb dX0_joinFirsts_10 (lv_at hl 4 rfl) ?_
        refine lv_bipush (v := 50) hx hb dX0_joinFirsts_12 (by decide) ?_
        refine lv_icmp_gt (tgt := 68) hx hb dX0_joinFirsts_14 (by decide) (fun w => ?_) (fun w => ?_)
        · have hf := if_t w hf
          obtain rfl := Option.some.inj hf
          exact J1 _ _ _ hP hS (lv_sub hl [0, 1, 2, 3] rfl)
        · have hf := if_f w hf
          refine lv_aload_n hx hb dX0_joinFirsts_17 rfl (lv_at hl 0 rfl) ?_
          refine lv_iload hx hb dX0_joinFirsts_18 (lv_at hl 4 rfl) ?_
          refine lv_iload_n hx hb dX0_joinFirsts_20 rfl (lv_at hl 1 rfl) ?_
          obtain ⟨v6, h5, hf⟩ := bd_e hf
          refine r_ci hS (va_runV (As := [.int v3, .int a1]) (rest := []) ⟨hx, hb, hml, hown, hts⟩ (m_X0_isTakenAhead l D ca ad hj k hk v3 a1 S _ h5 H.size) (cwV 2 hts gX0_joinFirsts_X0_isTakenAhead rfl rfl rfl (by decide +kernel) ⟨Nat.le_of_ble_eq_true rfl, Nat.le_of_ble_eq_true rfl⟩) (r_preV hKK hP hk rfl) rfl rfl hl.1 rfl (lv_room (Nat.le_of_ble_eq_true rfl)) dX0_joinFirsts_21 ⟨Nat.le_of_ble_eq_true rfl, Nat.le_of_ble_eq_true rfl⟩) (fun H locs hP hS => ?_)
          obtain ⟨q7, hq7, hf⟩ := bd_e hf
          have J2 : ∀ (H : Heap) (locs : List Loc) (ls : Array Slot), va_P D vwCl (wd ca ad S) H → va_S (Aq ad s.heap.size) s.heap H locs → lv_has ls 6 [(0, .ref (ad k)), (1, .int a1), (2, .int v1), (3, .int v2), (4, .int v3)] → W p l e rm_X0_joinFirsts s m args below meth c H locs 0 0 (Zv below D ca ad args s o) (F0 m 44 ls [.int q7]) := by
            intro H locs ls hP hS hl
            refine lv_istore (lv' := [(5, .int q7), (0, .ref (ad k)), (1, .int a1), (2, .int v1), (3, .int v2), (4, .int v3)]) hx hb dX0_joinFirsts_44 hl (by decide) rfl (fun ls hl => ?_)
            refine lv_iload hx hb dX0_joinFirsts_46 (lv_at hl 0 rfl) ?_
            refine lv_iconst (v := (-1)) hx hb dX0_joinFirsts_48 (by decide) ?_
            refine lv_icmp_eq (tgt := 62) hx hb dX0_joinFirsts_49 (by decide) (fun w => ?_) (fun w => ?_)
            · have hf := if_t w hf
              refine lv_iinc (v := (v3 + 1)) (lv' := [(4, .int (v3 + 1)), (5, .int q7), (0, .ref (ad k)), (1, .int a1), (2, .int v1), (3, .int v2)]) hx hb dX0_joinFirsts_62 hl (k := 5) rfl rfl (by decide) rfl (fun ls hl => ?_)
              refine lv_goto (tgt := 10) hx hb dX0_joinFirsts_65 (by decide) ?_
              exact ih _ _ _ hf _ _ _ hP hS (lv_sub hl [2, 3, 4, 5, 0] rfl)
            · have hf := if_f w hf
              refine lv_iinc (v := (v1 + 1)) (lv' := [(2, .int (v1 + 1)), (5, .int q7), (0, .ref (ad k)), (1, .int a1), (3, .int v2), (4, .int v3)]) hx hb dX0_joinFirsts_52 hl (k := 3) rfl rfl (by decide) rfl (fun ls hl => ?_)
              refine lv_iload_n hx hb dX0_joinFirsts_55 rfl (lv_at hl 4 rfl) ?_
              refine lv_iload hx hb dX0_joinFirsts_56 (lv_at hl 1 rfl) ?_
              obtain ⟨v13, h12, hf⟩ := bd_e hf
              refine r_ci hS (va_runSN (As := [.int v2, .int q7]) (rest := []) ⟨hx, hb, hml, hown, hts⟩ (m_X5_cheaper l D ca ad hj v2 q7 S _ h12 H.size) ⟨va_cnB 2 hts ggX0_joinFirsts_X5_cheaper rfl rfl rfl (hKK.2 _ (List.mem_of_getElem? (i := 3) rfl)) (hts _ (List.mem_cons_of_mem _ (List.mem_append_left _ (List.mem_append_left _ (List.mem_append_right _ (List.mem_of_getElem? (i := 0) rfl)))))) (by decide +kernel) ⟨Nat.le_of_ble_eq_true rfl, Nat.le_of_ble_eq_true rfl⟩, hts _ (List.mem_cons_of_mem _ (List.mem_append_left _ (List.mem_append_left _ (List.mem_append_left _ (List.mem_of_getElem? (i := 23) rfl))))), trivial⟩ (r_pre hKK hP) rfl rfl hl.1 rfl (lv_room (Nat.le_of_ble_eq_true rfl)) dX0_joinFirsts_58 ⟨Nat.le_of_ble_eq_true rfl, Nat.le_of_ble_eq_true rfl⟩) (fun H locs hP hS => ?_)
              refine lv_istore_n (lv' := [(3, .int v13), (2, .int (v1 + 1)), (5, .int q7), (0, .ref (ad k)), (1, .int a1), (4, .int v3)]) hx hb dX0_joinFirsts_61 rfl hl (by decide) rfl (fun ls hl => ?_)
              refine lv_iinc (v := (v3 + 1)) (lv' := [(4, .int (v3 + 1)), (3, .int v13), (2, .int (v1 + 1)), (5, .int q7), (0, .ref (ad k)), (1, .int a1)]) hx hb dX0_joinFirsts_62 hl (k := 5) rfl rfl (by decide) rfl (fun ls hl => ?_)
              refine lv_goto (tgt := 10) hx hb dX0_joinFirsts_65 (by decide) ?_
              exact ih _ _ _ hf _ _ _ hP hS (lv_sub hl [4, 5, 2, 1, 0] rfl)
          replace hf := hq7
          refine lv_if_eq (tgt := 43) hx hb dX0_joinFirsts_24 (by decide) (fun w => ?_) (fun w => ?_)
          · have hf := if_t w hf
            refine lv_iconst (v := (-1)) hx hb dX0_joinFirsts_43 (by decide) ?_
            obtain rfl := Option.some.inj hf
            exact J2 _ _ _ hP hS (lv_sub hl [0, 1, 2, 3, 4] rfl)
          · have hf := if_f w hf
            refine lv_aload_n hx hb dX0_joinFirsts_27 rfl (lv_at hl 0 rfl) ?_
            refine g_X0_first hx hb hX0 hown hKK hP hk K18 dX0_joinFirsts_28 ?_
            refine lv_iload hx hb dX0_joinFirsts_31 (lv_at hl 4 rfl) ?_
            refine lv_iload_n hx hb dX0_joinFirsts_33 rfl (lv_at hl 1 rfl) ?_
            obtain ⟨v9, h8, hf⟩ := bd_e hf
            refine r_ci hS (va_runS (As := [.int v3, .int a1]) (rest := [.ref (ad (k + 1))]) ⟨hx, hb, hml, hown, hts⟩ (m_X0_firstFor l D ca ad hj v3 a1 S _ h8 H.size) (cwS 2 hts gX0_joinFirsts_X0_firstFor rfl rfl rfl (by decide +kernel) ⟨Nat.le_of_ble_eq_true rfl, Nat.le_of_ble_eq_true rfl⟩) (r_pre hKK hP) rfl rfl hl.1 rfl (lv_room (Nat.le_of_ble_eq_true rfl)) dX0_joinFirsts_34 ⟨Nat.le_of_ble_eq_true rfl, Nat.le_of_ble_eq_true rfl⟩) (fun H locs hP hS => ?_)
            obtain ⟨v11, h10, hf⟩ := bd_e hf
            refine r_ci hS (va_runV (As := [.int v9]) (rest := []) ⟨hx, hb, hml, hown, hts⟩ (m_X3_priceOf l D ca ad hj (k + 1) (q_car hk).1 v9 S _ h10 H.size) (cwV 1 hts gX0_joinFirsts_X3_priceOf rfl rfl rfl (by decide +kernel) ⟨Nat.le_of_ble_eq_true rfl, Nat.le_of_ble_eq_true rfl⟩) (r_preV hKK hP (q_car hk).1 rfl) rfl rfl hl.1 rfl (lv_room (Nat.le_of_ble_eq_true rfl)) dX0_joinFirsts_37 ⟨Nat.le_of_ble_eq_true rfl, Nat.le_of_ble_eq_true rfl⟩) (fun H locs hP hS => ?_)
            refine lv_goto (tgt := 44) hx hb dX0_joinFirsts_40 (by decide) ?_
            obtain rfl := Option.some.inj hf
            exact J2 _ _ _ hP hS (lv_sub hl [0, 1, 2, 3, 4] rfl)
    exact L1 _ _ _ _ hf _ _ _ hP hS (lv_sub hl [3, 4, 2, 1, 0] rfl)
  exact main s.heap [] ls hP va_S.rf hl
def rm_X0_settle : Room := { frames := 3, cells := 0, slots := 0, locals := 63 }
set_option maxRecDepth 100000 in
set_option maxHeartbeats 4000000 in
theorem m_X0_settle (l : Launch) (D : va_G) (ca : Nat → ClassId) (ad : Nat → Nat) (hj : Inj ad) (k : Nat) (hk : qk k = 0) (S : QS) (o : QS) (hf : f_X0_settle k S = some o) : Cv l D ca ad yX0_settle wsX0_settle rm_X0_settle [.ref (ad k)] S o := by
  intro sz
  refine Met.ofW (cc := cX0_settle) (maxL := 2) (ret := none) (by decide) rfl ?_
  intro p e s m args below meth c s₁ B hml hv
  obtain ⟨hav, hsz, hP, hKK⟩ := hv
  have hx := B.exec
  have hb := B.bytes
  have hr := B.returns
  have hts := atoms_spec (ws := wsX0_settle) B.pre
  have hown : s.vm.findClass RX0 = some m.cls := findClass_of_methodNamed B.named
  have hlocks := B.notSynchronized
  subst hsz
  have hX0 : ∀ w ∈ wsX00, w.before _ s = true := fun w h => hts w (List.mem_cons_of_mem _ (List.mem_append_left _ (List.mem_append_right _ h)))
  have K22 := hts (Cond.fieldLink RX0 22 "CrashDesk$Car" "at" "LCrashDesk$Speed;") (List.mem_cons_of_mem _ (List.mem_append_left _ (List.mem_append_left _ (List.mem_append_left _ (List.mem_of_getElem? (i := 2) rfl)))))
  have K25 := hts (Cond.fieldLink RX0 25 "CrashDesk$Car" "after" "LCrashDesk$Speed;") (List.mem_cons_of_mem _ (List.mem_append_left _ (List.mem_append_left _ (List.mem_append_left _ (List.mem_of_getElem? (i := 1) rfl)))))
  have K44 := hts (Cond.fieldLink RX0 44 "CrashDesk$Car" "skidsBehind" "Z") (List.mem_cons_of_mem _ (List.mem_append_left _ (List.mem_append_left _ (List.mem_append_left _ (List.mem_of_getElem? (i := 0) rfl)))))
  have hl := lv_entry [.ref (ad k)] (n := 2) (Nat.le_of_ble_eq_true rfl)
  rw [show entryFrame m args 2 = entryFrame m ([.ref (ad k)] : List Value).toArray 2 by rw [hav], lg_entry_eq]
  generalize (lg_sl [.ref (ad k)] ++ List.replicate (2 - (lg_sl [.ref (ad k)]).length) Slot.unset).toArray = ls at hl ⊢
  have hl : lv_has ls 2 [(0, .ref (ad k))] := hl
  have main : ∀ (H : Heap) (locs : List Loc) (ls : Array Slot), va_P D vwCl (wd ca ad S) H → va_S (Aq ad s.heap.size) s.heap H locs → lv_has ls 2 [(0, .ref (ad k))] → W p l e rm_X0_settle s m args below meth c H locs 0 0 (Zv below D ca ad args s o) (F0 m 0 ls []) := by
    intro H locs ls hP hS hl
    unfold f_X0_settle at hf
    refine lv_bipush (v := (-50)) hx hb dX0_settle_0 (by decide) ?_
    refine lv_istore_n (lv' := [(1, .int (-50)), (0, .ref (ad k))]) hx hb dX0_settle_2 rfl hl (by decide) rfl (fun ls hl => ?_)
    obtain ⟨q3, hq3, hf⟩ := bd_e hf
    have J1 : ∀ (H : Heap) (locs : List Loc) (ls : Array Slot), va_P D vwCl (wd ca ad q3) H → va_S (Aq ad s.heap.size) s.heap H locs → lv_has ls 2 [(0, .ref (ad k))] → W p l e rm_X0_settle s m args below meth c H locs 0 0 (Zv below D ca ad args s o) (F0 m 55 ls []) := by
      intro H locs ls hP hS hl
      refine lv_aload_n hx hb dX0_settle_55 rfl (lv_at hl 0 rfl) ?_
      refine g_X0_at hx hb hX0 hown hKK hP hk K22 dX0_settle_56 ?_
      obtain ⟨S14, h13, hf⟩ := bd_e hf
      refine r_cv hS (va_runV (As := []) (rest := []) ⟨hx, hb, hml, hown, hts⟩ (m_X3_bound l D ca ad hj (k + 4) (q_car hk).2.1 q3 _ h13 H.size) (cwV 0 hts gX0_settle_X3_bound rfl rfl rfl (by decide +kernel) ⟨Nat.le_of_ble_eq_true rfl, Nat.le_of_ble_eq_true rfl⟩) (r_preV hKK hP (q_car hk).2.1 rfl) rfl rfl hl.1 rfl (lv_room (Nat.le_of_ble_eq_true rfl)) dX0_settle_59 ⟨Nat.le_of_ble_eq_true rfl, Nat.le_of_ble_eq_true rfl⟩) (fun H locs hP hS => ?_)
      refine lv_aload_n hx hb dX0_settle_62 rfl (lv_at hl 0 rfl) ?_
      refine g_X0_after hx hb hX0 hown hKK hP hk K25 dX0_settle_63 ?_
      obtain ⟨S16, h15, hf⟩ := bd_e hf
      refine r_cv hS (va_runV (As := []) (rest := []) ⟨hx, hb, hml, hown, hts⟩ (m_X3_bound l D ca ad hj (k + 7) (q_car hk).2.2.1 S14 _ h15 H.size) (cwV 0 hts gX0_settle_X3_bound rfl rfl rfl (by decide +kernel) ⟨Nat.le_of_ble_eq_true rfl, Nat.le_of_ble_eq_true rfl⟩) (r_preV hKK hP (q_car hk).2.2.1 rfl) rfl rfl hl.1 rfl (lv_room (Nat.le_of_ble_eq_true rfl)) dX0_settle_66 ⟨Nat.le_of_ble_eq_true rfl, Nat.le_of_ble_eq_true rfl⟩) (fun H locs hP hS => ?_)
      obtain rfl := Option.some.inj hf
      exact r_vret hx hb hr hP hS dX0_settle_69 hlocks
    replace hf := hq3
    have L1 : ∀ (fuel : Nat) (v1 : Int32) (S2 : QS), lp_X0_settle_3 k fuel v1 S2 = some q3 → ∀ (H : Heap) (locs : List Loc) (ls : Array Slot), va_P D vwCl (wd ca ad S2) H → va_S (Aq ad s.heap.size) s.heap H locs → lv_has ls 2 [(0, .ref (ad k)), (1, .int v1)] → W p l e rm_X0_settle s m args below meth c H locs 0 0 (Zv below D ca ad args s o) (F0 m 3 ls []) := by
      intro fuel
      induction fuel with
      | zero =>
        intro v1 S2 hf
        simp [lp_X0_settle_3] at hf
      | succ fuel ih =>
        intro v1 S2 hf H locs ls hP hS hl
        rw [lp_X0_settle_3] at hf
        refine lv_iload_n hx hb dX0_settle_3 rfl (lv_at hl 1 rfl) ?_
        refine lv_bipush (v := 50) hx hb dX0_settle_4 (by decide) ?_
        refine lv_icmp_gt (tgt := 55) hx hb dX0_settle_6 (by decide) (fun w => ?_) (fun w => ?_)
        · have hf := if_t w hf
          obtain rfl := Option.some.inj hf
          exact J1 _ _ _ hP hS (lv_sub hl [0] rfl)
        · have hf := if_f w hf
          refine lv_aload_n hx hb dX0_settle_9 rfl (lv_at hl 0 rfl) ?_
          refine g_X0_skidsBehind hx hb hX0 hown hKK hP hk K44 dX0_settle_10 ?_
          obtain ⟨q4, hq4, hf⟩ := bd_e hf
          have J2 : ∀ (H : Heap) (locs : List Loc) (ls : Array Slot), va_P D vwCl (wd ca ad q4) H → va_S (Aq ad s.heap.size) s.heap H locs → lv_has ls 2 [(0, .ref (ad k)), (1, .int v1)] → W p l e rm_X0_settle s m args below meth c H locs 0 0 (Zv below D ca ad args s o) (F0 m 33 ls []) := by
            intro H locs ls hP hS hl
            refine lv_aload_n hx hb dX0_settle_33 rfl (lv_at hl 0 rfl) ?_
            refine g_X0_at hx hb hX0 hown hKK hP hk K22 dX0_settle_34 ?_
            refine lv_iload_n hx hb dX0_settle_37 rfl (lv_at hl 1 rfl) ?_
            obtain ⟨v10, h9, hf⟩ := bd_e hf
            refine r_ci hS (va_runV (As := [.int v1]) (rest := []) ⟨hx, hb, hml, hown, hts⟩ (m_X3_isOpen l D ca ad hj (k + 4) (q_car hk).2.1 v1 q4 _ h9 H.size) (cwV 1 hts gX0_settle_X3_isOpen rfl rfl rfl (by decide +kernel) ⟨Nat.le_of_ble_eq_true rfl, Nat.le_of_ble_eq_true rfl⟩) (r_preV hKK hP (q_car hk).2.1 rfl) rfl rfl hl.1 rfl (lv_room (Nat.le_of_ble_eq_true rfl)) dX0_settle_38 ⟨Nat.le_of_ble_eq_true rfl, Nat.le_of_ble_eq_true rfl⟩) (fun H locs hP hS => ?_)
            refine lv_if_eq (tgt := 49) hx hb dX0_settle_41 (by decide) (fun w => ?_) (fun w => ?_)
            · have hf := if_t w hf
              refine lv_iinc (v := (v1 + 1)) (lv' := [(1, .int (v1 + 1)), (0, .ref (ad k))]) hx hb dX0_settle_49 hl (k := 1) rfl rfl (by decide) rfl (fun ls hl => ?_)
              refine lv_goto (tgt := 3) hx hb dX0_settle_52 (by decide) ?_
              exact ih _ _ hf _ _ _ hP hS (lv_sub hl [1, 0] rfl)
            · have hf := if_f w hf
              refine lv_aload_n hx hb dX0_settle_44 rfl (lv_at hl 0 rfl) ?_
              refine lv_iload_n hx hb dX0_settle_45 rfl (lv_at hl 1 rfl) ?_
              obtain ⟨S12, h11, hf⟩ := bd_e hf
              refine r_cv hS (va_runV (As := [.int v1]) (rest := []) ⟨hx, hb, hml, hown, hts⟩ (m_X0_joinFirsts l D ca ad hj k hk v1 q4 _ h11 H.size) (cwV 1 hts gX0_settle_X0_joinFirsts rfl rfl rfl (by decide +kernel) ⟨Nat.le_of_ble_eq_true rfl, Nat.le_of_ble_eq_true rfl⟩) (r_preV hKK hP hk rfl) rfl rfl hl.1 rfl (lv_room (Nat.le_of_ble_eq_true rfl)) dX0_settle_46 ⟨Nat.le_of_ble_eq_true rfl, Nat.le_of_ble_eq_true rfl⟩) (fun H locs hP hS => ?_)
              refine lv_iinc (v := (v1 + 1)) (lv' := [(1, .int (v1 + 1)), (0, .ref (ad k))]) hx hb dX0_settle_49 hl (k := 1) rfl rfl (by decide) rfl (fun ls hl => ?_)
              refine lv_goto (tgt := 3) hx hb dX0_settle_52 (by decide) ?_
              exact ih _ _ hf _ _ _ hP hS (lv_sub hl [1, 0] rfl)
          replace hf := hq4
          refine lv_if_eq (tgt := 33) hx hb dX0_settle_13 (by decide) (fun w => ?_) (fun w => ?_)
          · have hf := if_t w hf
            obtain rfl := Option.some.inj hf
            exact J2 _ _ _ hP hS (lv_sub hl [0, 1] rfl)
          · have hf := if_f w hf
            refine lv_aload_n hx hb dX0_settle_16 rfl (lv_at hl 0 rfl) ?_
            refine lv_iload_n hx hb dX0_settle_17 rfl (lv_at hl 1 rfl) ?_
            obtain ⟨v6, h5, hf⟩ := bd_e hf
            refine r_ci hS (va_runV (As := [.int v1]) (rest := []) ⟨hx, hb, hml, hown, hts⟩ (m_X0_isTakenBehind l D ca ad hj k hk v1 S2 _ h5 H.size) (cwV 1 hts gX0_settle_X0_isTakenBehind rfl rfl rfl (by decide +kernel) ⟨Nat.le_of_ble_eq_true rfl, Nat.le_of_ble_eq_true rfl⟩) (r_preV hKK hP hk rfl) rfl rfl hl.1 rfl (lv_room (Nat.le_of_ble_eq_true rfl)) dX0_settle_18 ⟨Nat.le_of_ble_eq_true rfl, Nat.le_of_ble_eq_true rfl⟩) (fun H locs hP hS => ?_)
            refine lv_if_ne (tgt := 33) hx hb dX0_settle_21 (by decide) (fun w => ?_) (fun w => ?_)
            · have hf := if_f w hf
              obtain rfl := Option.some.inj hf
              exact J2 _ _ _ hP hS (lv_sub hl [0, 1] rfl)
            · have hf := if_t w hf
              refine lv_aload_n hx hb dX0_settle_24 rfl (lv_at hl 0 rfl) ?_
              refine g_X0_after hx hb hX0 hown hKK hP hk K25 dX0_settle_25 ?_
              refine lv_iload_n hx hb dX0_settle_28 rfl (lv_at hl 1 rfl) ?_
              refine lv_iconst (v := (-1)) hx hb dX0_settle_29 (by decide) ?_
              obtain ⟨S8, h7, hf⟩ := bd_e hf
              refine r_cv hS (va_runV (As := [.int v1, .int (-1)]) (rest := []) ⟨hx, hb, hml, hown, hts⟩ (m_X3_setPrice l D ca ad hj (k + 7) (q_car hk).2.2.1 v1 (-1) S2 _ h7 H.size) (cwV 2 hts gX0_settle_X3_setPrice rfl rfl rfl (by decide +kernel) ⟨Nat.le_of_ble_eq_true rfl, Nat.le_of_ble_eq_true rfl⟩) (r_preV hKK hP (q_car hk).2.2.1 rfl) rfl rfl hl.1 rfl (lv_room (Nat.le_of_ble_eq_true rfl)) dX0_settle_30 ⟨Nat.le_of_ble_eq_true rfl, Nat.le_of_ble_eq_true rfl⟩) (fun H locs hP hS => ?_)
              obtain rfl := Option.some.inj hf
              exact J2 _ _ _ hP hS (lv_sub hl [0, 1] rfl)
    exact L1 _ _ _ hf _ _ _ hP hS (lv_sub hl [1, 0] rfl)
  exact main s.heap [] ls hP va_S.rf hl
def rm_X0_firstCount : Room := { frames := 0, cells := 0, slots := 0, locals := 0 }
set_option maxRecDepth 100000 in
set_option maxHeartbeats 4000000 in
theorem m_X0_firstCount (l : Launch) (D : va_G) (ca : Nat → ClassId) (ad : Nat → Nat) (hj : Inj ad) (k : Nat) (hk : qk k = 0) (a1 : Int32) (S : QS) (o : Int32) (hf : f_X0_firstCount k a1 S = some o) : Ci l D ca ad yX0_firstCount wsX0_firstCount rm_X0_firstCount [.ref (ad k), .int a1] S o S := by
  intro sz
  refine Met.ofW (cc := cX0_firstCount) (maxL := 2) (ret := (some .int)) (by decide) rfl ?_
  intro p e s m args below meth c s₁ B hml hv
  obtain ⟨hav, hsz, hP, hKK⟩ := hv
  have hx := B.exec
  have hb := B.bytes
  have hr := B.returns
  have hts := atoms_spec (ws := wsX0_firstCount) B.pre
  have hown : s.vm.findClass RX0 = some m.cls := findClass_of_methodNamed B.named
  have hlocks := B.notSynchronized
  subst hsz
  have hX0 : ∀ w ∈ wsX00, w.before _ s = true := fun w h => hts w (List.mem_cons_of_mem _ (List.mem_append_right _ h))
  have K28 := hts (Cond.fieldLink RX0 28 "CrashDesk$Car" "firstCounts" "[I") (List.mem_cons_of_mem _ (List.mem_append_left _ (List.mem_of_getElem? (i := 0) rfl)))
  have hl := lv_entry [.ref (ad k), .int a1] (n := 2) (Nat.le_of_ble_eq_true rfl)
  rw [show entryFrame m args 2 = entryFrame m ([.ref (ad k), .int a1] : List Value).toArray 2 by rw [hav], lg_entry_eq]
  generalize (lg_sl [.ref (ad k), .int a1] ++ List.replicate (2 - (lg_sl [.ref (ad k), .int a1]).length) Slot.unset).toArray = ls at hl ⊢
  have hl : lv_has ls 2 [(0, .ref (ad k)), (1, .int a1)] := hl
  have main : ∀ (H : Heap) (locs : List Loc) (ls : Array Slot), va_P D vwCl (wd ca ad S) H → va_S (Aq ad s.heap.size) s.heap H locs → lv_has ls 2 [(0, .ref (ad k)), (1, .int a1)] → W p l e rm_X0_firstCount s m args below meth c H locs 0 0 (Zi below D ca ad args s o S) (F0 m 0 ls []) := by
    intro H locs ls hP hS hl
    unfold f_X0_firstCount at hf
    refine lv_iload_n hx hb dX0_firstCount_0 rfl (lv_at hl 1 rfl) ?_
    refine lv_bipush (v := (-50)) hx hb dX0_firstCount_1 (by decide) ?_
    refine lv_icmp_lt (tgt := 12) hx hb dX0_firstCount_3 (by decide) (fun w => ?_) (fun w => ?_)
    · have hf := if_t w hf
      refine lv_iconst (v := 0) hx hb dX0_firstCount_12 (by decide) ?_
      refine lv_goto (tgt := 25) hx hb dX0_firstCount_13 (by decide) ?_
      obtain rfl := Option.some.inj hf
      exact r_iret hx hb hr hP hS dX0_firstCount_25 hlocks
    · have hf := if_f w hf
      refine lv_iload_n hx hb dX0_firstCount_6 rfl (lv_at hl 1 rfl) ?_
      refine lv_bipush (v := 50) hx hb dX0_firstCount_7 (by decide) ?_
      refine lv_icmp_le (tgt := 16) hx hb dX0_firstCount_9 (by decide) (fun w => ?_) (fun w => ?_)
      · have hf := if_t w hf
        refine lv_aload_n hx hb dX0_firstCount_16 rfl (lv_at hl 0 rfl) ?_
        refine g_X0_firstCounts hx hb hX0 hown hKK hP hk K28 dX0_firstCount_17 ?_
        refine lv_iload_n hx hb dX0_firstCount_20 rfl (lv_at hl 1 rfl) ?_
        refine lv_bipush (v := (-50)) hx hb dX0_firstCount_21 (by decide) ?_
        refine lv_isub hx hb dX0_firstCount_23 ?_
        obtain ⟨v1, h2, hf⟩ := bd_e hf
        refine r_iald hx hb hKK hP (q_car hk).2.2.2.1 (q_car hk).2.2.2.2 h2 dX0_firstCount_24 ?_
        obtain rfl := Option.some.inj hf
        exact r_iret hx hb hr hP hS dX0_firstCount_25 hlocks
      · have hf := if_f w hf
        refine lv_iconst (v := 0) hx hb dX0_firstCount_12 (by decide) ?_
        refine lv_goto (tgt := 25) hx hb dX0_firstCount_13 (by decide) ?_
        obtain rfl := Option.some.inj hf
        exact r_iret hx hb hr hP hS dX0_firstCount_25 hlocks
  exact main s.heap [] ls hP va_S.rf hl
def rm_X0_seeFirsts : Room := { frames := 2, cells := 0, slots := 0, locals := 42 }
set_option maxRecDepth 100000 in
set_option maxHeartbeats 4000000 in
theorem m_X0_seeFirsts (l : Launch) (D : va_G) (ca : Nat → ClassId) (ad : Nat → Nat) (hj : Inj ad) (k : Nat) (hk : qk k = 0) (S : QS) (o : QS) (hf : f_X0_seeFirsts k S = some o) : Cv l D ca ad yX0_seeFirsts wsX0_seeFirsts rm_X0_seeFirsts [.ref (ad k)] S o := by
  intro sz
  refine Met.ofW (cc := cX0_seeFirsts) (maxL := 3) (ret := none) (by decide) rfl ?_
  intro p e s m args below meth c s₁ B hml hv
  obtain ⟨hav, hsz, hP, hKK⟩ := hv
  have hx := B.exec
  have hb := B.bytes
  have hr := B.returns
  have hts := atoms_spec (ws := wsX0_seeFirsts) B.pre
  have hown : s.vm.findClass RX0 = some m.cls := findClass_of_methodNamed B.named
  have hlocks := B.notSynchronized
  subst hsz
  have hX0 : ∀ w ∈ wsX00, w.before _ s = true := fun w h => hts w (List.mem_cons_of_mem _ (List.mem_append_left _ (List.mem_append_right _ h)))
  have hX3 : ∀ w ∈ wsX30, w.before _ s = true := fun w h => hts w (List.mem_cons_of_mem _ (List.mem_append_right _ h))
  have K18 := hts (Cond.fieldLink RX0 18 "CrashDesk$Car" "first" "LCrashDesk$Speed;") (List.mem_cons_of_mem _ (List.mem_append_left _ (List.mem_append_left _ (List.mem_append_left _ (List.mem_of_getElem? (i := 7) rfl)))))
  have K22 := hts (Cond.fieldLink RX0 22 "CrashDesk$Car" "at" "LCrashDesk$Speed;") (List.mem_cons_of_mem _ (List.mem_append_left _ (List.mem_append_left _ (List.mem_append_left _ (List.mem_of_getElem? (i := 0) rfl)))))
  have K80 := hts (Cond.fieldLink RX0 80 "CrashDesk$Speed" "bottom" "I") (List.mem_cons_of_mem _ (List.mem_append_left _ (List.mem_append_left _ (List.mem_append_left _ (List.mem_of_getElem? (i := 1) rfl)))))
  have K83 := hts (Cond.fieldLink RX0 83 "CrashDesk$Speed" "top" "I") (List.mem_cons_of_mem _ (List.mem_append_left _ (List.mem_append_left _ (List.mem_append_left _ (List.mem_of_getElem? (i := 2) rfl)))))
  have K86 := hts (Cond.methodLink RX0 86 Lib.Math.abs.name) (List.mem_cons_of_mem _ (List.mem_append_left _ (List.mem_append_left _ (List.mem_append_left _ (List.mem_of_getElem? (i := 3) rfl)))))
  have hl := lv_entry [.ref (ad k)] (n := 3) (Nat.le_of_ble_eq_true rfl)
  rw [show entryFrame m args 3 = entryFrame m ([.ref (ad k)] : List Value).toArray 3 by rw [hav], lg_entry_eq]
  generalize (lg_sl [.ref (ad k)] ++ List.replicate (3 - (lg_sl [.ref (ad k)]).length) Slot.unset).toArray = ls at hl ⊢
  have hl : lv_has ls 3 [(0, .ref (ad k))] := hl
  have main : ∀ (H : Heap) (locs : List Loc) (ls : Array Slot), va_P D vwCl (wd ca ad S) H → va_S (Aq ad s.heap.size) s.heap H locs → lv_has ls 3 [(0, .ref (ad k))] → W p l e rm_X0_seeFirsts s m args below meth c H locs 0 0 (Zv below D ca ad args s o) (F0 m 0 ls []) := by
    intro H locs ls hP hS hl
    unfold f_X0_seeFirsts at hf
    refine lv_aload_n hx hb dX0_seeFirsts_0 rfl (lv_at hl 0 rfl) ?_
    refine g_X0_at hx hb hX0 hown hKK hP hk K22 dX0_seeFirsts_1 ?_
    refine g_X3_bottom hx hb hX3 hown hKK hP (q_car hk).2.1 K80 dX0_seeFirsts_4 ?_
    refine lv_istore_n (lv' := [(1, .int (S.1 (k + 4) 2)), (0, .ref (ad k))]) hx hb dX0_seeFirsts_7 rfl hl (by decide) rfl (fun ls hl => ?_)
    have L1 : ∀ (fuel : Nat) (v1 : Int32) (S2 : QS), lp_X0_seeFirsts_8 k fuel v1 S2 = some o → ∀ (H : Heap) (locs : List Loc) (ls : Array Slot), va_P D vwCl (wd ca ad S2) H → va_S (Aq ad s.heap.size) s.heap H locs → lv_has ls 3 [(0, .ref (ad k)), (1, .int v1)] → W p l e rm_X0_seeFirsts s m args below meth c H locs 0 0 (Zv below D ca ad args s o) (F0 m 8 ls []) := by
      intro fuel
      induction fuel with
      | zero =>
        intro v1 S2 hf
        simp [lp_X0_seeFirsts_8] at hf
      | succ fuel ih =>
        intro v1 S2 hf H locs ls hP hS hl
        rw [lp_X0_seeFirsts_8] at hf
        refine lv_iload_n hx hb dX0_seeFirsts_8 rfl (lv_at hl 1 rfl) ?_
        refine lv_aload_n hx hb dX0_seeFirsts_9 rfl (lv_at hl 0 rfl) ?_
        refine g_X0_at hx hb hX0 hown hKK hP hk K22 dX0_seeFirsts_10 ?_
        refine g_X3_top hx hb hX3 hown hKK hP (q_car hk).2.1 K83 dX0_seeFirsts_13 ?_
        refine lv_icmp_gt (tgt := 89) hx hb dX0_seeFirsts_16 (by decide) (fun w => ?_) (fun w => ?_)
        · have hf := if_t w hf
          obtain rfl := Option.some.inj hf
          exact r_vret hx hb hr hP hS dX0_seeFirsts_89 hlocks
        · have hf := if_f w hf
          refine lv_iload_n hx hb dX0_seeFirsts_19 rfl (lv_at hl 1 rfl) ?_
          refine va_mabs hx hb (hml.trans hl.1.symm) hown K86 (hts _ (List.mem_cons_of_mem _ (List.mem_append_left _ (List.mem_append_left _ (List.mem_append_left _ (List.mem_of_getElem? (i := 4) rfl)))))) (hts _ (List.mem_cons_of_mem _ (List.mem_append_left _ (List.mem_append_left _ (List.mem_append_left _ (List.mem_of_getElem? (i := 5) rfl)))))) (hts _ (List.mem_cons_of_mem _ (List.mem_append_left _ (List.mem_append_left _ (List.mem_append_left _ (List.mem_of_getElem? (i := 6) rfl)))))) (Nat.le_of_ble_eq_true rfl) (Nat.le_of_ble_eq_true rfl) (Nat.le_of_ble_eq_true rfl) (Nat.le_of_ble_eq_true rfl) dX0_seeFirsts_20 ?_
          refine lv_istore_n (lv' := [(2, .int (if 0 ≤ v1 then v1 else 0 - v1)), (0, .ref (ad k)), (1, .int v1)]) hx hb dX0_seeFirsts_23 rfl hl (by decide) rfl (fun ls hl => ?_)
          obtain ⟨q5, hq5, hf⟩ := bd_e hf
          have J2 : ∀ (H : Heap) (locs : List Loc) (ls : Array Slot), va_P D vwCl (wd ca ad q5) H → va_S (Aq ad s.heap.size) s.heap H locs → lv_has ls 3 [(0, .ref (ad k)), (1, .int v1)] → W p l e rm_X0_seeFirsts s m args below meth c H locs 0 0 (Zv below D ca ad args s o) (F0 m 83 ls []) := by
            intro H locs ls hP hS hl
            refine lv_iinc (v := (v1 + 1)) (lv' := [(1, .int (v1 + 1)), (0, .ref (ad k))]) hx hb dX0_seeFirsts_83 hl (k := 1) rfl rfl (by decide) rfl (fun ls hl => ?_)
            refine lv_goto (tgt := 8) hx hb dX0_seeFirsts_86 (by decide) ?_
            exact ih _ _ hf _ _ _ hP hS (lv_sub hl [1, 0] rfl)
          replace hf := hq5
          have L2 : ∀ (fuel : Nat) (v3 : Int32) (S4 : QS), lp_X0_seeFirsts_24 k v1 fuel v3 S4 = some q5 → ∀ (H : Heap) (locs : List Loc) (ls : Array Slot), va_P D vwCl (wd ca ad S4) H → va_S (Aq ad s.heap.size) s.heap H locs → lv_has ls 3 [(0, .ref (ad k)), (1, .int v1), (2, .int v3)] → W p l e rm_X0_seeFirsts s m args below meth c H locs 0 0 (Zv below D ca ad args s o) (F0 m 24 ls []) := by
            intro fuel
            induction fuel with
            | zero =>
              intro v3 S4 hf
              simp [lp_X0_seeFirsts_24] at hf
            | succ fuel ih =>
              intro v3 S4 hf H locs ls hP hS hl
              rw [lp_X0_seeFirsts_24] at hf
              refine lv_aload_n hx hb dX0_seeFirsts_24 rfl (lv_at hl 0 rfl) ?_
              refine g_X0_at hx hb hX0 hown hKK hP hk K22 dX0_seeFirsts_25 ?_
              refine lv_iload_n hx hb dX0_seeFirsts_28 rfl (lv_at hl 1 rfl) ?_
              obtain ⟨v7, h6, hf⟩ := bd_e hf
              refine r_ci hS (va_runV (As := [.int v1]) (rest := []) ⟨hx, hb, hml, hown, hts⟩ (m_X3_isSeen l D ca ad hj (k + 4) (q_car hk).2.1 v1 S4 _ h6 H.size) (cwV 1 hts gX0_seeFirsts_X3_isSeen rfl rfl rfl (by decide +kernel) ⟨Nat.le_of_ble_eq_true rfl, Nat.le_of_ble_eq_true rfl⟩) (r_preV hKK hP (q_car hk).2.1 rfl) rfl rfl hl.1 rfl (lv_room (Nat.le_of_ble_eq_true rfl)) dX0_seeFirsts_29 ⟨Nat.le_of_ble_eq_true rfl, Nat.le_of_ble_eq_true rfl⟩) (fun H locs hP hS => ?_)
              refine lv_if_eq (tgt := 83) hx hb dX0_seeFirsts_32 (by decide) (fun w => ?_) (fun w => ?_)
              · have hf := if_t w hf
                obtain rfl := Option.some.inj hf
                exact J2 _ _ _ hP hS (lv_sub hl [0, 1] rfl)
              · have hf := if_f w hf
                refine lv_iload_n hx hb dX0_seeFirsts_35 rfl (lv_at hl 2 rfl) ?_
                refine lv_bipush (v := 50) hx hb dX0_seeFirsts_36 (by decide) ?_
                refine lv_icmp_gt (tgt := 83) hx hb dX0_seeFirsts_38 (by decide) (fun w => ?_) (fun w => ?_)
                · have hf := if_t w hf
                  obtain rfl := Option.some.inj hf
                  exact J2 _ _ _ hP hS (lv_sub hl [0, 1] rfl)
                · have hf := if_f w hf
                  refine lv_aload_n hx hb dX0_seeFirsts_41 rfl (lv_at hl 0 rfl) ?_
                  refine lv_iload_n hx hb dX0_seeFirsts_42 rfl (lv_at hl 2 rfl) ?_
                  refine lv_iload_n hx hb dX0_seeFirsts_43 rfl (lv_at hl 1 rfl) ?_
                  obtain ⟨v9, h8, hf⟩ := bd_e hf
                  refine r_ci hS (va_runV (As := [.int v3, .int v1]) (rest := []) ⟨hx, hb, hml, hown, hts⟩ (m_X0_isTakenAhead l D ca ad hj k hk v3 v1 S4 _ h8 H.size) (cwV 2 hts gX0_seeFirsts_X0_isTakenAhead rfl rfl rfl (by decide +kernel) ⟨Nat.le_of_ble_eq_true rfl, Nat.le_of_ble_eq_true rfl⟩) (r_preV hKK hP hk rfl) rfl rfl hl.1 rfl (lv_room (Nat.le_of_ble_eq_true rfl)) dX0_seeFirsts_44 ⟨Nat.le_of_ble_eq_true rfl, Nat.le_of_ble_eq_true rfl⟩) (fun H locs hP hS => ?_)
                  refine lv_if_eq (tgt := 77) hx hb dX0_seeFirsts_47 (by decide) (fun w => ?_) (fun w => ?_)
                  · have hf := if_t w hf
                    refine lv_iinc (v := (v3 + 1)) (lv' := [(2, .int (v3 + 1)), (0, .ref (ad k)), (1, .int v1)]) hx hb dX0_seeFirsts_77 hl (k := 2) rfl rfl (by decide) rfl (fun ls hl => ?_)
                    refine lv_goto (tgt := 24) hx hb dX0_seeFirsts_80 (by decide) ?_
                    exact ih _ _ hf _ _ _ hP hS (lv_sub hl [1, 2, 0] rfl)
                  · have hf := if_f w hf
                    refine lv_aload_n hx hb dX0_seeFirsts_50 rfl (lv_at hl 0 rfl) ?_
                    refine g_X0_first hx hb hX0 hown hKK hP hk K18 dX0_seeFirsts_51 ?_
                    refine lv_iload_n hx hb dX0_seeFirsts_54 rfl (lv_at hl 2 rfl) ?_
                    refine lv_iload_n hx hb dX0_seeFirsts_55 rfl (lv_at hl 1 rfl) ?_
                    obtain ⟨v11, h10, hf⟩ := bd_e hf
                    refine r_ci hS (va_runS (As := [.int v3, .int v1]) (rest := [.ref (ad (k + 1))]) ⟨hx, hb, hml, hown, hts⟩ (m_X0_firstFor l D ca ad hj v3 v1 S4 _ h10 H.size) (cwS 2 hts gX0_seeFirsts_X0_firstFor rfl rfl rfl (by decide +kernel) ⟨Nat.le_of_ble_eq_true rfl, Nat.le_of_ble_eq_true rfl⟩) (r_pre hKK hP) rfl rfl hl.1 rfl (lv_room (Nat.le_of_ble_eq_true rfl)) dX0_seeFirsts_56 ⟨Nat.le_of_ble_eq_true rfl, Nat.le_of_ble_eq_true rfl⟩) (fun H locs hP hS => ?_)
                    obtain ⟨v13, h12, hf⟩ := bd_e hf
                    refine r_ci hS (va_runV (As := [.int v11]) (rest := []) ⟨hx, hb, hml, hown, hts⟩ (m_X3_isOpen l D ca ad hj (k + 1) (q_car hk).1 v11 S4 _ h12 H.size) (cwV 1 hts gX0_seeFirsts_X3_isOpen rfl rfl rfl (by decide +kernel) ⟨Nat.le_of_ble_eq_true rfl, Nat.le_of_ble_eq_true rfl⟩) (r_preV hKK hP (q_car hk).1 rfl) rfl rfl hl.1 rfl (lv_room (Nat.le_of_ble_eq_true rfl)) dX0_seeFirsts_59 ⟨Nat.le_of_ble_eq_true rfl, Nat.le_of_ble_eq_true rfl⟩) (fun H locs hP hS => ?_)
                    refine lv_if_eq (tgt := 77) hx hb dX0_seeFirsts_62 (by decide) (fun w => ?_) (fun w => ?_)
                    · have hf := if_t w hf
                      refine lv_iinc (v := (v3 + 1)) (lv' := [(2, .int (v3 + 1)), (0, .ref (ad k)), (1, .int v1)]) hx hb dX0_seeFirsts_77 hl (k := 2) rfl rfl (by decide) rfl (fun ls hl => ?_)
                      refine lv_goto (tgt := 24) hx hb dX0_seeFirsts_80 (by decide) ?_
                      exact ih _ _ hf _ _ _ hP hS (lv_sub hl [1, 2, 0] rfl)
                    · have hf := if_f w hf
                      refine lv_aload_n hx hb dX0_seeFirsts_65 rfl (lv_at hl 0 rfl) ?_
                      refine g_X0_first hx hb hX0 hown hKK hP hk K18 dX0_seeFirsts_66 ?_
                      refine lv_iload_n hx hb dX0_seeFirsts_69 rfl (lv_at hl 2 rfl) ?_
                      refine lv_iload_n hx hb dX0_seeFirsts_70 rfl (lv_at hl 1 rfl) ?_
                      obtain ⟨v15, h14, hf⟩ := bd_e hf
                      refine r_ci hS (va_runS (As := [.int v3, .int v1]) (rest := [.ref (ad (k + 1))]) ⟨hx, hb, hml, hown, hts⟩ (m_X0_firstFor l D ca ad hj v3 v1 S4 _ h14 H.size) (cwS 2 hts gX0_seeFirsts_X0_firstFor rfl rfl rfl (by decide +kernel) ⟨Nat.le_of_ble_eq_true rfl, Nat.le_of_ble_eq_true rfl⟩) (r_pre hKK hP) rfl rfl hl.1 rfl (lv_room (Nat.le_of_ble_eq_true rfl)) dX0_seeFirsts_71 ⟨Nat.le_of_ble_eq_true rfl, Nat.le_of_ble_eq_true rfl⟩) (fun H locs hP hS => ?_)
                      obtain ⟨S17, h16, hf⟩ := bd_e hf
                      refine r_cv hS (va_runV (As := [.int v15]) (rest := []) ⟨hx, hb, hml, hown, hts⟩ (m_X3_see l D ca ad hj (k + 1) (q_car hk).1 v15 S4 _ h16 H.size) (cwV 1 hts gX0_seeFirsts_X3_see rfl rfl rfl (by decide +kernel) ⟨Nat.le_of_ble_eq_true rfl, Nat.le_of_ble_eq_true rfl⟩) (r_preV hKK hP (q_car hk).1 rfl) rfl rfl hl.1 rfl (lv_room (Nat.le_of_ble_eq_true rfl)) dX0_seeFirsts_74 ⟨Nat.le_of_ble_eq_true rfl, Nat.le_of_ble_eq_true rfl⟩) (fun H locs hP hS => ?_)
                      refine lv_iinc (v := (v3 + 1)) (lv' := [(2, .int (v3 + 1)), (0, .ref (ad k)), (1, .int v1)]) hx hb dX0_seeFirsts_77 hl (k := 2) rfl rfl (by decide) rfl (fun ls hl => ?_)
                      refine lv_goto (tgt := 24) hx hb dX0_seeFirsts_80 (by decide) ?_
                      exact ih _ _ hf _ _ _ hP hS (lv_sub hl [1, 2, 0] rfl)
          exact L2 _ _ _ hf _ _ _ hP hS (lv_sub hl [1, 2, 0] rfl)
    exact L1 _ _ _ hf _ _ _ hP hS (lv_sub hl [1, 0] rfl)
  exact main s.heap [] ls hP va_S.rf hl
