def rm_J6_bitCount_0f7a4 : Room := { frames := 0, cells := 0, slots := 0, locals := 0 }
set_option maxRecDepth 100000 in
set_option maxHeartbeats 4000000 in
theorem m_J6_bitCount_0f7a4 (l : Launch) (D : va_G) (ca : Nat → ClassId) (ad : Nat → Nat) (hj : Inj ad) (a1 : Int32) (S : QS) (o : Int32) (hf : f_J6_bitCount_0f7a4 a1 = some o) : Ci l D ca ad yJ6_bitCount_0f7a4 wsJ6_bitCount_0f7a4 rm_J6_bitCount_0f7a4 [.int a1] S o S := by
  intro sz
  refine Met.ofW (cc := cJ6_bitCount_0f7a4) (maxL := 1) (ret := (some .int)) (by decide) rfl ?_
  intro p e s m args below meth c s₁ B hml hv
  obtain ⟨hav, hsz, hP, hKK⟩ := hv
  have hx := B.exec
  have hb := B.bytes
  have hr := B.returns
  have hts := atoms_spec (ws := wsJ6_bitCount_0f7a4) B.pre
  have hown : s.vm.findClass RJ6 = some m.cls := findClass_of_methodNamed B.named
  have hlocks := B.notSynchronized
  subst hsz
  have K265 := hts (Cond.constant RJ6 265 (1431655765)) (List.mem_cons_of_mem _ (List.mem_of_getElem? (i := 0) rfl))
  have K266 := hts (Cond.constant RJ6 266 (858993459)) (List.mem_cons_of_mem _ (List.mem_of_getElem? (i := 1) rfl))
  have K267 := hts (Cond.constant RJ6 267 (252645135)) (List.mem_cons_of_mem _ (List.mem_of_getElem? (i := 2) rfl))
  have hl := lv_entry [.int a1] (n := 1) (Nat.le_of_ble_eq_true rfl)
  rw [show entryFrame m args 1 = entryFrame m ([.int a1] : List Value).toArray 1 by rw [hav], lg_entry_eq]
  generalize (lg_sl [.int a1] ++ List.replicate (1 - (lg_sl [.int a1]).length) Slot.unset).toArray = ls at hl ⊢
  have hl : lv_has ls 1 [(0, .int a1)] := hl
  have main : ∀ (H : Heap) (locs : List Loc) (ls : Array Slot), va_P D vwCl (wd ca ad S) H → va_S (Aq ad s.heap.size) s.heap H locs → lv_has ls 1 [(0, .int a1)] → W p l e rm_J6_bitCount_0f7a4 s m args below meth c H locs 0 0 (Zi below D ca ad args s o S) (F0 m 0 ls []) := by
    intro H locs ls hP hS hl
    unfold f_J6_bitCount_0f7a4 at hf
    refine lv_iload_n hx hb dJ6_bitCount_0f7a4_0 rfl (lv_at hl 0 rfl) ?_
    refine lv_iload_n hx hb dJ6_bitCount_0f7a4_1 rfl (lv_at hl 0 rfl) ?_
    refine lv_iconst (v := 1) hx hb dJ6_bitCount_0f7a4_2 (by decide) ?_
    refine lv_iushr (v := ((a1 : Int32).toUInt32 >>> ((1 : Int32).toUInt32 &&& Int32.toUInt32 31)).toInt32) hx hb dJ6_bitCount_0f7a4_3 rfl ?_
    refine lv_ldcw hx hb hown K265 dJ6_bitCount_0f7a4_4 ?_
    refine lv_iand hx hb dJ6_bitCount_0f7a4_7 ?_
    refine lv_isub hx hb dJ6_bitCount_0f7a4_8 ?_
    obtain ⟨v1, h2, hf⟩ := bd_e hf
    have h2e := Option.some.inj h2
    rw [h2e]
    refine lv_istore_n (lv' := [(0, .int v1)]) hx hb dJ6_bitCount_0f7a4_9 rfl hl (by decide) rfl (fun ls hl => ?_)
    refine lv_iload_n hx hb dJ6_bitCount_0f7a4_10 rfl (lv_at hl 0 rfl) ?_
    refine lv_ldcw hx hb hown K266 dJ6_bitCount_0f7a4_11 ?_
    refine lv_iand hx hb dJ6_bitCount_0f7a4_14 ?_
    refine lv_iload_n hx hb dJ6_bitCount_0f7a4_15 rfl (lv_at hl 0 rfl) ?_
    refine lv_iconst (v := 2) hx hb dJ6_bitCount_0f7a4_16 (by decide) ?_
    refine lv_iushr (v := ((v1 : Int32).toUInt32 >>> ((2 : Int32).toUInt32 &&& Int32.toUInt32 31)).toInt32) hx hb dJ6_bitCount_0f7a4_17 rfl ?_
    refine lv_ldcw hx hb hown K266 dJ6_bitCount_0f7a4_18 ?_
    refine lv_iand hx hb dJ6_bitCount_0f7a4_21 ?_
    refine lv_iadd hx hb dJ6_bitCount_0f7a4_22 ?_
    obtain ⟨v3, h4, hf⟩ := bd_e hf
    have h4e := Option.some.inj h4
    rw [h4e]
    refine lv_istore_n (lv' := [(0, .int v3)]) hx hb dJ6_bitCount_0f7a4_23 rfl hl (by decide) rfl (fun ls hl => ?_)
    refine lv_iload_n hx hb dJ6_bitCount_0f7a4_24 rfl (lv_at hl 0 rfl) ?_
    refine lv_iload_n hx hb dJ6_bitCount_0f7a4_25 rfl (lv_at hl 0 rfl) ?_
    refine lv_iconst (v := 4) hx hb dJ6_bitCount_0f7a4_26 (by decide) ?_
    refine lv_iushr (v := ((v3 : Int32).toUInt32 >>> ((4 : Int32).toUInt32 &&& Int32.toUInt32 31)).toInt32) hx hb dJ6_bitCount_0f7a4_27 rfl ?_
    refine lv_iadd hx hb dJ6_bitCount_0f7a4_28 ?_
    refine lv_ldcw hx hb hown K267 dJ6_bitCount_0f7a4_29 ?_
    refine lv_iand hx hb dJ6_bitCount_0f7a4_32 ?_
    obtain ⟨v5, h6, hf⟩ := bd_e hf
    have h6e := Option.some.inj h6
    rw [h6e]
    refine lv_istore_n (lv' := [(0, .int v5)]) hx hb dJ6_bitCount_0f7a4_33 rfl hl (by decide) rfl (fun ls hl => ?_)
    refine lv_iload_n hx hb dJ6_bitCount_0f7a4_34 rfl (lv_at hl 0 rfl) ?_
    refine lv_iload_n hx hb dJ6_bitCount_0f7a4_35 rfl (lv_at hl 0 rfl) ?_
    refine lv_bipush (v := 8) hx hb dJ6_bitCount_0f7a4_36 (by decide) ?_
    refine lv_iushr (v := ((v5 : Int32).toUInt32 >>> ((8 : Int32).toUInt32 &&& Int32.toUInt32 31)).toInt32) hx hb dJ6_bitCount_0f7a4_38 rfl ?_
    refine lv_iadd hx hb dJ6_bitCount_0f7a4_39 ?_
    obtain ⟨v7, h8, hf⟩ := bd_e hf
    have h8e := Option.some.inj h8
    rw [h8e]
    refine lv_istore_n (lv' := [(0, .int v7)]) hx hb dJ6_bitCount_0f7a4_40 rfl hl (by decide) rfl (fun ls hl => ?_)
    refine lv_iload_n hx hb dJ6_bitCount_0f7a4_41 rfl (lv_at hl 0 rfl) ?_
    refine lv_iload_n hx hb dJ6_bitCount_0f7a4_42 rfl (lv_at hl 0 rfl) ?_
    refine lv_bipush (v := 16) hx hb dJ6_bitCount_0f7a4_43 (by decide) ?_
    refine lv_iushr (v := ((v7 : Int32).toUInt32 >>> ((16 : Int32).toUInt32 &&& Int32.toUInt32 31)).toInt32) hx hb dJ6_bitCount_0f7a4_45 rfl ?_
    refine lv_iadd hx hb dJ6_bitCount_0f7a4_46 ?_
    obtain ⟨v9, h10, hf⟩ := bd_e hf
    have h10e := Option.some.inj h10
    rw [h10e]
    refine lv_istore_n (lv' := [(0, .int v9)]) hx hb dJ6_bitCount_0f7a4_47 rfl hl (by decide) rfl (fun ls hl => ?_)
    refine lv_iload_n hx hb dJ6_bitCount_0f7a4_48 rfl (lv_at hl 0 rfl) ?_
    refine lv_bipush (v := 63) hx hb dJ6_bitCount_0f7a4_49 (by decide) ?_
    refine lv_iand hx hb dJ6_bitCount_0f7a4_51 ?_
    obtain rfl := Option.some.inj hf
    exact r_iret hx hb hr hP hS dJ6_bitCount_0f7a4_52 hlocks
  exact main s.heap [] ls hP va_S.rf hl
def rm_X6_in : Room := { frames := 0, cells := 0, slots := 0, locals := 0 }
set_option maxRecDepth 100000 in
set_option maxHeartbeats 4000000 in
theorem m_X6_in (l : Launch) (D : va_G) (ca : Nat → ClassId) (ad : Nat → Nat) (hj : Inj ad) (a1 : Int32) (a2 : Int32) (a3 : Int32) (S : QS) (o : Int32) (hf : f_X6_in a1 a2 a3 = some o) : Ci l D ca ad yX6_in wsX6_in rm_X6_in [.int a1, .int a2, .int a3] S o S := by
  intro sz
  refine Met.ofW (cc := cX6_in) (maxL := 3) (ret := (some .boolean)) (by decide) rfl ?_
  intro p e s m args below meth c s₁ B hml hv
  obtain ⟨hav, hsz, hP, hKK⟩ := hv
  have hx := B.exec
  have hb := B.bytes
  have hr := B.returns
  have hts := atoms_spec (ws := wsX6_in) B.pre
  have hown : s.vm.findClass RX6 = some m.cls := findClass_of_methodNamed B.named
  have hlocks := B.notSynchronized
  subst hsz
  have hl := lv_entry [.int a1, .int a2, .int a3] (n := 3) (Nat.le_of_ble_eq_true rfl)
  rw [show entryFrame m args 3 = entryFrame m ([.int a1, .int a2, .int a3] : List Value).toArray 3 by rw [hav], lg_entry_eq]
  generalize (lg_sl [.int a1, .int a2, .int a3] ++ List.replicate (3 - (lg_sl [.int a1, .int a2, .int a3]).length) Slot.unset).toArray = ls at hl ⊢
  have hl : lv_has ls 3 [(0, .int a1), (1, .int a2), (2, .int a3)] := hl
  have main : ∀ (H : Heap) (locs : List Loc) (ls : Array Slot), va_P D vwCl (wd ca ad S) H → va_S (Aq ad s.heap.size) s.heap H locs → lv_has ls 3 [(0, .int a1), (1, .int a2), (2, .int a3)] → W p l e rm_X6_in s m args below meth c H locs 0 0 (Zi below D ca ad args s o S) (F0 m 0 ls []) := by
    intro H locs ls hP hS hl
    unfold f_X6_in at hf
    refine lv_iload_n hx hb dX6_in_0 rfl (lv_at hl 0 rfl) ?_
    refine lv_iload_n hx hb dX6_in_1 rfl (lv_at hl 1 rfl) ?_
    refine lv_icmp_lt (tgt := 14) hx hb dX6_in_2 (by decide) (fun w => ?_) (fun w => ?_)
    · have hf := if_t w hf
      refine lv_iconst (v := 0) hx hb dX6_in_14 (by decide) ?_
      obtain rfl := Option.some.inj hf
      exact r_zret hx hb hr hP hS (Or.inl rfl) dX6_in_15 hlocks
    · have hf := if_f w hf
      refine lv_iload_n hx hb dX6_in_5 rfl (lv_at hl 0 rfl) ?_
      refine lv_iload_n hx hb dX6_in_6 rfl (lv_at hl 2 rfl) ?_
      refine lv_icmp_gt (tgt := 14) hx hb dX6_in_7 (by decide) (fun w => ?_) (fun w => ?_)
      · have hf := if_t w hf
        refine lv_iconst (v := 0) hx hb dX6_in_14 (by decide) ?_
        obtain rfl := Option.some.inj hf
        exact r_zret hx hb hr hP hS (Or.inl rfl) dX6_in_15 hlocks
      · have hf := if_f w hf
        refine lv_iconst (v := 1) hx hb dX6_in_10 (by decide) ?_
        refine lv_goto (tgt := 15) hx hb dX6_in_11 (by decide) ?_
        obtain rfl := Option.some.inj hf
        exact r_zret hx hb hr hP hS (Or.inr rfl) dX6_in_15 hlocks
  exact main s.heap [] ls hP va_S.rf hl
def rm_X6_noCar : Room := { frames := 1, cells := 0, slots := 0, locals := 22 }
set_option maxRecDepth 100000 in
set_option maxHeartbeats 4000000 in
theorem m_X6_noCar (l : Launch) (D : va_G) (ca : Nat → ClassId) (ad : Nat → Nat) (hj : Inj ad) (a1 : Int32) (S : QS) (o : Int32) (hf : f_X6_noCar a1 = some o) : Ci l D ca ad yX6_noCar wsX6_noCar rm_X6_noCar [.int a1] S o S := by
  intro sz
  refine Met.ofW (cc := cX6_noCar) (maxL := 1) (ret := (some .boolean)) (by decide) rfl ?_
  intro p e s m args below meth c s₁ B hml hv
  obtain ⟨hav, hsz, hP, hKK⟩ := hv
  have hx := B.exec
  have hb := B.bytes
  have hr := B.returns
  have hts := atoms_spec (ws := wsX6_noCar) B.pre
  have hown : s.vm.findClass RX6 = some m.cls := findClass_of_methodNamed B.named
  have hlocks := B.notSynchronized
  subst hsz
  have hl := lv_entry [.int a1] (n := 1) (Nat.le_of_ble_eq_true rfl)
  rw [show entryFrame m args 1 = entryFrame m ([.int a1] : List Value).toArray 1 by rw [hav], lg_entry_eq]
  generalize (lg_sl [.int a1] ++ List.replicate (1 - (lg_sl [.int a1]).length) Slot.unset).toArray = ls at hl ⊢
  have hl : lv_has ls 1 [(0, .int a1)] := hl
  have main : ∀ (H : Heap) (locs : List Loc) (ls : Array Slot), va_P D vwCl (wd ca ad S) H → va_S (Aq ad s.heap.size) s.heap H locs → lv_has ls 1 [(0, .int a1)] → W p l e rm_X6_noCar s m args below meth c H locs 0 0 (Zi below D ca ad args s o S) (F0 m 0 ls []) := by
    intro H locs ls hP hS hl
    unfold f_X6_noCar at hf
    refine lv_iload_n hx hb dX6_noCar_0 rfl (lv_at hl 0 rfl) ?_
    refine lv_iconst (v := 0) hx hb dX6_noCar_1 (by decide) ?_
    refine lv_iconst (v := 1) hx hb dX6_noCar_2 (by decide) ?_
    obtain ⟨v2, h1, hf⟩ := bd_e hf
    refine r_ci hS (va_runS (As := [.int a1, .int 0, .int 1]) (rest := []) ⟨hx, hb, hml, hown, hts⟩ (m_X6_in l D ca ad hj a1 0 1 S _ h1 H.size) (cwS 3 hts gX6_noCar_X6_in rfl rfl rfl (by decide +kernel) ⟨Nat.le_of_ble_eq_true rfl, Nat.le_of_ble_eq_true rfl⟩) (r_pre hKK hP) rfl rfl hl.1 rfl (lv_room (Nat.le_of_ble_eq_true rfl)) dX6_noCar_3 ⟨Nat.le_of_ble_eq_true rfl, Nat.le_of_ble_eq_true rfl⟩) (fun H locs hP hS => ?_)
    refine lv_if_ne (tgt := 13) hx hb dX6_noCar_6 (by decide) (fun w => ?_) (fun w => ?_)
    · have hf := if_f w hf
      refine lv_iconst (v := 0) hx hb dX6_noCar_13 (by decide) ?_
      obtain rfl := Option.some.inj hf
      exact r_zret hx hb hr hP hS (Or.inl rfl) dX6_noCar_14 hlocks
    · have hf := if_t w hf
      refine lv_iconst (v := 1) hx hb dX6_noCar_9 (by decide) ?_
      refine lv_goto (tgt := 14) hx hb dX6_noCar_10 (by decide) ?_
      obtain rfl := Option.some.inj hf
      exact r_zret hx hb hr hP hS (Or.inr rfl) dX6_noCar_14 hlocks
  exact main s.heap [] ls hP va_S.rf hl
def rm_X6_noSpeed : Room := { frames := 2, cells := 0, slots := 0, locals := 42 }
set_option maxRecDepth 100000 in
set_option maxHeartbeats 4000000 in
theorem m_X6_noSpeed (l : Launch) (D : va_G) (ca : Nat → ClassId) (ad : Nat → Nat) (hj : Inj ad) (a1 : Int32) (a2 : Int32) (S : QS) (o : Int32) (hf : f_X6_noSpeed a1 a2 = some o) : Ci l D ca ad yX6_noSpeed wsX6_noSpeed rm_X6_noSpeed [.int a1, .int a2] S o S := by
  intro sz
  refine Met.ofW (cc := cX6_noSpeed) (maxL := 2) (ret := (some .boolean)) (by decide) rfl ?_
  intro p e s m args below meth c s₁ B hml hv
  obtain ⟨hav, hsz, hP, hKK⟩ := hv
  have hx := B.exec
  have hb := B.bytes
  have hr := B.returns
  have hts := atoms_spec (ws := wsX6_noSpeed) B.pre
  have hown : s.vm.findClass RX6 = some m.cls := findClass_of_methodNamed B.named
  have hlocks := B.notSynchronized
  subst hsz
  have hl := lv_entry [.int a1, .int a2] (n := 2) (Nat.le_of_ble_eq_true rfl)
  rw [show entryFrame m args 2 = entryFrame m ([.int a1, .int a2] : List Value).toArray 2 by rw [hav], lg_entry_eq]
  generalize (lg_sl [.int a1, .int a2] ++ List.replicate (2 - (lg_sl [.int a1, .int a2]).length) Slot.unset).toArray = ls at hl ⊢
  have hl : lv_has ls 2 [(0, .int a1), (1, .int a2)] := hl
  have main : ∀ (H : Heap) (locs : List Loc) (ls : Array Slot), va_P D vwCl (wd ca ad S) H → va_S (Aq ad s.heap.size) s.heap H locs → lv_has ls 2 [(0, .int a1), (1, .int a2)] → W p l e rm_X6_noSpeed s m args below meth c H locs 0 0 (Zi below D ca ad args s o S) (F0 m 0 ls []) := by
    intro H locs ls hP hS hl
    unfold f_X6_noSpeed at hf
    refine lv_iload_n hx hb dX6_noSpeed_0 rfl (lv_at hl 0 rfl) ?_
    obtain ⟨v2, h1, hf⟩ := bd_e hf
    refine r_ci hS (va_runS (As := [.int a1]) (rest := []) ⟨hx, hb, hml, hown, hts⟩ (m_X6_noCar l D ca ad hj a1 S _ h1 H.size) (cwS 1 hts gX6_noSpeed_X6_noCar rfl rfl rfl (by decide +kernel) ⟨Nat.le_of_ble_eq_true rfl, Nat.le_of_ble_eq_true rfl⟩) (r_pre hKK hP) rfl rfl hl.1 rfl (lv_room (Nat.le_of_ble_eq_true rfl)) dX6_noSpeed_1 ⟨Nat.le_of_ble_eq_true rfl, Nat.le_of_ble_eq_true rfl⟩) (fun H locs hP hS => ?_)
    refine lv_if_ne (tgt := 16) hx hb dX6_noSpeed_4 (by decide) (fun w => ?_) (fun w => ?_)
    · have hf := if_f w hf
      refine lv_iconst (v := 1) hx hb dX6_noSpeed_16 (by decide) ?_
      refine lv_goto (tgt := 21) hx hb dX6_noSpeed_17 (by decide) ?_
      obtain rfl := Option.some.inj hf
      exact r_zret hx hb hr hP hS (Or.inr rfl) dX6_noSpeed_21 hlocks
    · have hf := if_t w hf
      refine lv_iload_n hx hb dX6_noSpeed_7 rfl (lv_at hl 1 rfl) ?_
      refine lv_iconst (v := 0) hx hb dX6_noSpeed_8 (by decide) ?_
      refine lv_iconst (v := 2) hx hb dX6_noSpeed_9 (by decide) ?_
      obtain ⟨v4, h3, hf⟩ := bd_e hf
      refine r_ci hS (va_runS (As := [.int a2, .int 0, .int 2]) (rest := []) ⟨hx, hb, hml, hown, hts⟩ (m_X6_in l D ca ad hj a2 0 2 S _ h3 H.size) (cwS 3 hts gX6_noSpeed_X6_in rfl rfl rfl (by decide +kernel) ⟨Nat.le_of_ble_eq_true rfl, Nat.le_of_ble_eq_true rfl⟩) (r_pre hKK hP) rfl rfl hl.1 rfl (lv_room (Nat.le_of_ble_eq_true rfl)) dX6_noSpeed_10 ⟨Nat.le_of_ble_eq_true rfl, Nat.le_of_ble_eq_true rfl⟩) (fun H locs hP hS => ?_)
      refine lv_if_ne (tgt := 20) hx hb dX6_noSpeed_13 (by decide) (fun w => ?_) (fun w => ?_)
      · have hf := if_f w hf
        refine lv_iconst (v := 0) hx hb dX6_noSpeed_20 (by decide) ?_
        obtain rfl := Option.some.inj hf
        exact r_zret hx hb hr hP hS (Or.inl rfl) dX6_noSpeed_21 hlocks
      · have hf := if_t w hf
        refine lv_iconst (v := 1) hx hb dX6_noSpeed_16 (by decide) ?_
        refine lv_goto (tgt := 21) hx hb dX6_noSpeed_17 (by decide) ?_
        obtain rfl := Option.some.inj hf
        exact r_zret hx hb hr hP hS (Or.inr rfl) dX6_noSpeed_21 hlocks
  exact main s.heap [] ls hP va_S.rf hl
def rm_X6_noSpan : Room := { frames := 0, cells := 0, slots := 0, locals := 0 }
set_option maxRecDepth 100000 in
set_option maxHeartbeats 4000000 in
theorem m_X6_noSpan (l : Launch) (D : va_G) (ca : Nat → ClassId) (ad : Nat → Nat) (hj : Inj ad) (a1 : Int32) (a2 : Int32) (S : QS) (o : Int32) (hf : f_X6_noSpan a1 a2 = some o) : Ci l D ca ad yX6_noSpan wsX6_noSpan rm_X6_noSpan [.int a1, .int a2] S o S := by
  intro sz
  refine Met.ofW (cc := cX6_noSpan) (maxL := 2) (ret := (some .boolean)) (by decide) rfl ?_
  intro p e s m args below meth c s₁ B hml hv
  obtain ⟨hav, hsz, hP, hKK⟩ := hv
  have hx := B.exec
  have hb := B.bytes
  have hr := B.returns
  have hts := atoms_spec (ws := wsX6_noSpan) B.pre
  have hown : s.vm.findClass RX6 = some m.cls := findClass_of_methodNamed B.named
  have hlocks := B.notSynchronized
  subst hsz
  have hl := lv_entry [.int a1, .int a2] (n := 2) (Nat.le_of_ble_eq_true rfl)
  rw [show entryFrame m args 2 = entryFrame m ([.int a1, .int a2] : List Value).toArray 2 by rw [hav], lg_entry_eq]
  generalize (lg_sl [.int a1, .int a2] ++ List.replicate (2 - (lg_sl [.int a1, .int a2]).length) Slot.unset).toArray = ls at hl ⊢
  have hl : lv_has ls 2 [(0, .int a1), (1, .int a2)] := hl
  have main : ∀ (H : Heap) (locs : List Loc) (ls : Array Slot), va_P D vwCl (wd ca ad S) H → va_S (Aq ad s.heap.size) s.heap H locs → lv_has ls 2 [(0, .int a1), (1, .int a2)] → W p l e rm_X6_noSpan s m args below meth c H locs 0 0 (Zi below D ca ad args s o S) (F0 m 0 ls []) := by
    intro H locs ls hP hS hl
    unfold f_X6_noSpan at hf
    refine lv_iload_n hx hb dX6_noSpan_0 rfl (lv_at hl 0 rfl) ?_
    refine lv_bipush (v := (-50)) hx hb dX6_noSpan_1 (by decide) ?_
    refine lv_icmp_lt (tgt := 17) hx hb dX6_noSpan_3 (by decide) (fun w => ?_) (fun w => ?_)
    · have hf := if_t w hf
      refine lv_iconst (v := 1) hx hb dX6_noSpan_17 (by decide) ?_
      refine lv_goto (tgt := 22) hx hb dX6_noSpan_18 (by decide) ?_
      obtain rfl := Option.some.inj hf
      exact r_zret hx hb hr hP hS (Or.inr rfl) dX6_noSpan_22 hlocks
    · have hf := if_f w hf
      refine lv_iload_n hx hb dX6_noSpan_6 rfl (lv_at hl 1 rfl) ?_
      refine lv_iload_n hx hb dX6_noSpan_7 rfl (lv_at hl 0 rfl) ?_
      refine lv_icmp_lt (tgt := 17) hx hb dX6_noSpan_8 (by decide) (fun w => ?_) (fun w => ?_)
      · have hf := if_t w hf
        refine lv_iconst (v := 1) hx hb dX6_noSpan_17 (by decide) ?_
        refine lv_goto (tgt := 22) hx hb dX6_noSpan_18 (by decide) ?_
        obtain rfl := Option.some.inj hf
        exact r_zret hx hb hr hP hS (Or.inr rfl) dX6_noSpan_22 hlocks
      · have hf := if_f w hf
        refine lv_iload_n hx hb dX6_noSpan_11 rfl (lv_at hl 1 rfl) ?_
        refine lv_bipush (v := 50) hx hb dX6_noSpan_12 (by decide) ?_
        refine lv_icmp_le (tgt := 21) hx hb dX6_noSpan_14 (by decide) (fun w => ?_) (fun w => ?_)
        · have hf := if_t w hf
          refine lv_iconst (v := 0) hx hb dX6_noSpan_21 (by decide) ?_
          obtain rfl := Option.some.inj hf
          exact r_zret hx hb hr hP hS (Or.inl rfl) dX6_noSpan_22 hlocks
        · have hf := if_f w hf
          refine lv_iconst (v := 1) hx hb dX6_noSpan_17 (by decide) ?_
          refine lv_goto (tgt := 22) hx hb dX6_noSpan_18 (by decide) ?_
          obtain rfl := Option.some.inj hf
          exact r_zret hx hb hr hP hS (Or.inr rfl) dX6_noSpan_22 hlocks
  exact main s.heap [] ls hP va_S.rf hl
def rm_X6_throwsIf : Room := { frames := 0, cells := 0, slots := 0, locals := 0 }
set_option maxRecDepth 100000 in
set_option maxHeartbeats 4000000 in
theorem m_X6_throwsIf (l : Launch) (D : va_G) (ca : Nat → ClassId) (ad : Nat → Nat) (hj : Inj ad) (a1 : Int32) (a2 : Int32) (S : QS) (o : Int32 × QS) (hf : f_X6_throwsIf a1 a2 S = some o) : Ci l D ca ad yX6_throwsIf wsX6_throwsIf rm_X6_throwsIf [.ref (ad 48), .int a1, .int a2] S o.1 o.2 := by
  intro sz
  refine Met.ofW (cc := cX6_throwsIf) (maxL := 3) (ret := (some .boolean)) (by decide) rfl ?_
  intro p e s m args below meth c s₁ B hml hv
  obtain ⟨hav, hsz, hP, hKK⟩ := hv
  have hx := B.exec
  have hb := B.bytes
  have hr := B.returns
  have hts := atoms_spec (ws := wsX6_throwsIf) B.pre
  have hown : s.vm.findClass RX6 = some m.cls := findClass_of_methodNamed B.named
  have hlocks := B.notSynchronized
  subst hsz
  have hX6 : ∀ w ∈ wsX60, w.before _ s = true := fun w h => hts w (List.mem_cons_of_mem _ (List.mem_append_right _ h))
  have K66 := hts (Cond.fieldLink RX6 66 "CrashDeskModel" "thrown" "I") (List.mem_cons_of_mem _ (List.mem_append_left _ (List.mem_of_getElem? (i := 0) rfl)))
  have hl := lv_entry [.ref (ad 48), .int a1, .int a2] (n := 3) (Nat.le_of_ble_eq_true rfl)
  rw [show entryFrame m args 3 = entryFrame m ([.ref (ad 48), .int a1, .int a2] : List Value).toArray 3 by rw [hav], lg_entry_eq]
  generalize (lg_sl [.ref (ad 48), .int a1, .int a2] ++ List.replicate (3 - (lg_sl [.ref (ad 48), .int a1, .int a2]).length) Slot.unset).toArray = ls at hl ⊢
  have hl : lv_has ls 3 [(0, .ref (ad 48)), (1, .int a1), (2, .int a2)] := hl
  have main : ∀ (H : Heap) (locs : List Loc) (ls : Array Slot), va_P D vwCl (wd ca ad S) H → va_S (Aq ad s.heap.size) s.heap H locs → lv_has ls 3 [(0, .ref (ad 48)), (1, .int a1), (2, .int a2)] → W p l e rm_X6_throwsIf s m args below meth c H locs 0 0 (Zi below D ca ad args s o.1 o.2) (F0 m 0 ls []) := by
    intro H locs ls hP hS hl
    unfold f_X6_throwsIf at hf
    refine lv_iload_n hx hb dX6_throwsIf_0 rfl (lv_at hl 1 rfl) ?_
    refine lv_if_eq (tgt := 9) hx hb dX6_throwsIf_1 (by decide) (fun w => ?_) (fun w => ?_)
    · have hf := if_t w hf
      refine lv_iload_n hx hb dX6_throwsIf_9 rfl (lv_at hl 1 rfl) ?_
      obtain ⟨v1, h2, hf⟩ := bd_e hf
      obtain ⟨h2z, h2e⟩ := q_zb h2
      rw [h2e] at hf
      obtain rfl := Option.some.inj hf
      exact r_zret hx hb hr hP hS h2z dX6_throwsIf_10 hlocks
    · have hf := if_f w hf
      refine lv_aload_n hx hb dX6_throwsIf_4 rfl (lv_at hl 0 rfl) ?_
      refine lv_iload_n hx hb dX6_throwsIf_5 rfl (lv_at hl 2 rfl) ?_
      obtain ⟨S3, h4, hf⟩ := bd_e hf
      obtain rfl := Option.some.inj h4
      refine p_X6_thrown hx hb hX6 hown hj hKK hP hS (show qk 48 = 6 from rfl) K66 dX6_throwsIf_6 (fun H locs hP hS => ?_)
      refine lv_iload_n hx hb dX6_throwsIf_9 rfl (lv_at hl 1 rfl) ?_
      obtain ⟨v5, h6, hf⟩ := bd_e hf
      obtain ⟨h6z, h6e⟩ := q_zb h6
      rw [h6e] at hf
      obtain rfl := Option.some.inj hf
      exact r_zret hx hb hr hP hS h6z dX6_throwsIf_10 hlocks
  exact main s.heap [] ls hP va_S.rf hl
def rm_X6_thrown : Room := { frames := 0, cells := 0, slots := 0, locals := 0 }
set_option maxRecDepth 100000 in
set_option maxHeartbeats 4000000 in
theorem m_X6_thrown (l : Launch) (D : va_G) (ca : Nat → ClassId) (ad : Nat → Nat) (hj : Inj ad)  (S : QS) (o : Int32) (hf : f_X6_thrown S = some o) : Ci l D ca ad yX6_thrown wsX6_thrown rm_X6_thrown [.ref (ad 48)] S o S := by
  intro sz
  refine Met.ofW (cc := cX6_thrown) (maxL := 1) (ret := (some .int)) (by decide) rfl ?_
  intro p e s m args below meth c s₁ B hml hv
  obtain ⟨hav, hsz, hP, hKK⟩ := hv
  have hx := B.exec
  have hb := B.bytes
  have hr := B.returns
  have hts := atoms_spec (ws := wsX6_thrown) B.pre
  have hown : s.vm.findClass RX6 = some m.cls := findClass_of_methodNamed B.named
  have hlocks := B.notSynchronized
  subst hsz
  have hX6 : ∀ w ∈ wsX60, w.before _ s = true := fun w h => hts w (List.mem_cons_of_mem _ (List.mem_append_right _ h))
  have K66 := hts (Cond.fieldLink RX6 66 "CrashDeskModel" "thrown" "I") (List.mem_cons_of_mem _ (List.mem_append_left _ (List.mem_of_getElem? (i := 0) rfl)))
  have hl := lv_entry [.ref (ad 48)] (n := 1) (Nat.le_of_ble_eq_true rfl)
  rw [show entryFrame m args 1 = entryFrame m ([.ref (ad 48)] : List Value).toArray 1 by rw [hav], lg_entry_eq]
  generalize (lg_sl [.ref (ad 48)] ++ List.replicate (1 - (lg_sl [.ref (ad 48)]).length) Slot.unset).toArray = ls at hl ⊢
  have hl : lv_has ls 1 [(0, .ref (ad 48))] := hl
  have main : ∀ (H : Heap) (locs : List Loc) (ls : Array Slot), va_P D vwCl (wd ca ad S) H → va_S (Aq ad s.heap.size) s.heap H locs → lv_has ls 1 [(0, .ref (ad 48))] → W p l e rm_X6_thrown s m args below meth c H locs 0 0 (Zi below D ca ad args s o S) (F0 m 0 ls []) := by
    intro H locs ls hP hS hl
    unfold f_X6_thrown at hf
    refine lv_aload_n hx hb dX6_thrown_0 rfl (lv_at hl 0 rfl) ?_
    refine g_X6_thrown hx hb hX6 hown hKK hP (show qk 48 = 6 from rfl) K66 dX6_thrown_1 ?_
    obtain rfl := Option.some.inj hf
    exact r_iret hx hb hr hP hS dX6_thrown_4 hlocks
  exact main s.heap [] ls hP va_S.rf hl
def rm_X6_cell : Room := { frames := 0, cells := 0, slots := 0, locals := 0 }
set_option maxRecDepth 100000 in
set_option maxHeartbeats 4000000 in
theorem m_X6_cell (l : Launch) (D : va_G) (ca : Nat → ClassId) (ad : Nat → Nat) (hj : Inj ad) (a1 : Int32) (a2 : Int32) (S : QS) (o : Int32) (hf : f_X6_cell a1 a2 = some o) : Ci l D ca ad yX6_cell wsX6_cell rm_X6_cell [.int a1, .int a2] S o S := by
  intro sz
  refine Met.ofW (cc := cX6_cell) (maxL := 2) (ret := (some .int)) (by decide) rfl ?_
  intro p e s m args below meth c s₁ B hml hv
  obtain ⟨hav, hsz, hP, hKK⟩ := hv
  have hx := B.exec
  have hb := B.bytes
  have hr := B.returns
  have hts := atoms_spec (ws := wsX6_cell) B.pre
  have hown : s.vm.findClass RX6 = some m.cls := findClass_of_methodNamed B.named
  have hlocks := B.notSynchronized
  subst hsz
  have hl := lv_entry [.int a1, .int a2] (n := 2) (Nat.le_of_ble_eq_true rfl)
  rw [show entryFrame m args 2 = entryFrame m ([.int a1, .int a2] : List Value).toArray 2 by rw [hav], lg_entry_eq]
  generalize (lg_sl [.int a1, .int a2] ++ List.replicate (2 - (lg_sl [.int a1, .int a2]).length) Slot.unset).toArray = ls at hl ⊢
  have hl : lv_has ls 2 [(0, .int a1), (1, .int a2)] := hl
  have main : ∀ (H : Heap) (locs : List Loc) (ls : Array Slot), va_P D vwCl (wd ca ad S) H → va_S (Aq ad s.heap.size) s.heap H locs → lv_has ls 2 [(0, .int a1), (1, .int a2)] → W p l e rm_X6_cell s m args below meth c H locs 0 0 (Zi below D ca ad args s o S) (F0 m 0 ls []) := by
    intro H locs ls hP hS hl
    unfold f_X6_cell at hf
    refine lv_bipush (v := 101) hx hb dX6_cell_0 (by decide) ?_
    refine lv_iload_n hx hb dX6_cell_2 rfl (lv_at hl 0 rfl) ?_
    refine lv_imul hx hb dX6_cell_3 ?_
    refine lv_iload_n hx hb dX6_cell_4 rfl (lv_at hl 1 rfl) ?_
    refine lv_iadd hx hb dX6_cell_5 ?_
    refine lv_bipush (v := 50) hx hb dX6_cell_6 (by decide) ?_
    refine lv_iadd hx hb dX6_cell_8 ?_
    obtain rfl := Option.some.inj hf
    exact r_iret hx hb hr hP hS dX6_cell_9 hlocks
  exact main s.heap [] ls hP va_S.rf hl
def rm_X6_falses : Room := { frames := 1, cells := 0, slots := 0, locals := 22 }
set_option maxRecDepth 100000 in
set_option maxHeartbeats 4000000 in
theorem m_X6_falses (l : Launch) (D : va_G) (ca : Nat → ClassId) (ad : Nat → Nat) (hj : Inj ad) (a1 : Int32) (a2 : Int32) (S : QS) (o : Int32) (hf : f_X6_falses a1 a2 S = some o) : Ci l D ca ad yX6_falses wsX6_falses rm_X6_falses [.ref (ad 48), .int a1, .int a2] S o S := by
  intro sz
  refine Met.ofW (cc := cX6_falses) (maxL := 5) (ret := (some .int)) (by decide) rfl ?_
  intro p e s m args below meth c s₁ B hml hv
  obtain ⟨hav, hsz, hP, hKK⟩ := hv
  have hx := B.exec
  have hb := B.bytes
  have hr := B.returns
  have hts := atoms_spec (ws := wsX6_falses) B.pre
  have hown : s.vm.findClass RX6 = some m.cls := findClass_of_methodNamed B.named
  have hlocks := B.notSynchronized
  subst hsz
  have hX6 : ∀ w ∈ wsX60, w.before _ s = true := fun w h => hts w (List.mem_cons_of_mem _ (List.mem_append_right _ h))
  have K35 := hts (Cond.fieldLink RX6 35 "CrashDeskModel" "tRow" "[I") (List.mem_cons_of_mem _ (List.mem_append_left _ (List.mem_of_getElem? (i := 1) rfl)))
  have K38 := hts (Cond.fieldLink RX6 38 "CrashDeskModel" "tLow" "[I") (List.mem_cons_of_mem _ (List.mem_append_left _ (List.mem_of_getElem? (i := 2) rfl)))
  have K41 := hts (Cond.fieldLink RX6 41 "CrashDeskModel" "tHigh" "[I") (List.mem_cons_of_mem _ (List.mem_append_left _ (List.mem_of_getElem? (i := 3) rfl)))
  have K92 := hts (Cond.fieldLink RX6 92 "CrashDeskModel" "tales" "I") (List.mem_cons_of_mem _ (List.mem_append_left _ (List.mem_of_getElem? (i := 0) rfl)))
  have hl := lv_entry [.ref (ad 48), .int a1, .int a2] (n := 5) (Nat.le_of_ble_eq_true rfl)
  rw [show entryFrame m args 5 = entryFrame m ([.ref (ad 48), .int a1, .int a2] : List Value).toArray 5 by rw [hav], lg_entry_eq]
  generalize (lg_sl [.ref (ad 48), .int a1, .int a2] ++ List.replicate (5 - (lg_sl [.ref (ad 48), .int a1, .int a2]).length) Slot.unset).toArray = ls at hl ⊢
  have hl : lv_has ls 5 [(0, .ref (ad 48)), (1, .int a1), (2, .int a2)] := hl
  have main : ∀ (H : Heap) (locs : List Loc) (ls : Array Slot), va_P D vwCl (wd ca ad S) H → va_S (Aq ad s.heap.size) s.heap H locs → lv_has ls 5 [(0, .ref (ad 48)), (1, .int a1), (2, .int a2)] → W p l e rm_X6_falses s m args below meth c H locs 0 0 (Zi below D ca ad args s o S) (F0 m 0 ls []) := by
    intro H locs ls hP hS hl
    unfold f_X6_falses at hf
    refine lv_iconst (v := 0) hx hb dX6_falses_0 (by decide) ?_
    refine lv_istore_n (lv' := [(3, .int 0), (0, .ref (ad 48)), (1, .int a1), (2, .int a2)]) hx hb dX6_falses_1 rfl hl (by decide) rfl (fun ls hl => ?_)
    refine lv_iconst (v := 0) hx hb dX6_falses_2 (by decide) ?_
    refine lv_istore (lv' := [(4, .int 0), (3, .int 0), (0, .ref (ad 48)), (1, .int a1), (2, .int a2)]) hx hb dX6_falses_3 hl (by decide) rfl (fun ls hl => ?_)
    have L1 : ∀ (fuel : Nat) (v1 : Int32) (v2 : Int32), lp_X6_falses_5 a1 a2 S fuel v1 v2 = some o → ∀ (H : Heap) (locs : List Loc) (ls : Array Slot), va_P D vwCl (wd ca ad S) H → va_S (Aq ad s.heap.size) s.heap H locs → lv_has ls 5 [(0, .ref (ad 48)), (1, .int a1), (2, .int a2), (3, .int v1), (4, .int v2)] → W p l e rm_X6_falses s m args below meth c H locs 0 0 (Zi below D ca ad args s o S) (F0 m 5 ls []) := by
      intro fuel
      induction fuel with
      | zero =>
        intro v1 v2 hf
        simp [lp_X6_falses_5] at hf
      | succ fuel ih =>
        intro v1 v2 hf H locs ls hP hS hl
        rw [lp_X6_falses_5] at hf
        refine lv_iload hx hb dX6_falses_5 (lv_at hl 4 rfl) ?_
        refine lv_aload_n hx hb dX6_falses_7 rfl (lv_at hl 0 rfl) ?_
        refine g_X6_tales hx hb hX6 hown hKK hP (show qk 48 = 6 from rfl) K92 dX6_falses_8 ?_
        refine lv_icmp_ge (tgt := 63) hx hb dX6_falses_11 (by decide) (fun w => ?_) (fun w => ?_)
        · have hf := if_t w hf
          refine lv_iload_n hx hb dX6_falses_63 rfl (lv_at hl 3 rfl) ?_
          obtain rfl := Option.some.inj hf
          exact r_iret hx hb hr hP hS dX6_falses_64 hlocks
        · have hf := if_f w hf
          refine lv_iload_n hx hb dX6_falses_14 rfl (lv_at hl 3 rfl) ?_
          refine lv_aload_n hx hb dX6_falses_15 rfl (lv_at hl 0 rfl) ?_
          refine g_X6_tRow hx hb hX6 hown hKK hP (show qk 48 = 6 from rfl) K35 dX6_falses_16 ?_
          refine lv_iload hx hb dX6_falses_19 (lv_at hl 4 rfl) ?_
          obtain ⟨v3, h4, hf⟩ := bd_e hf
          refine r_iald hx hb hKK hP (show qk 57 = 7 from rfl) (show qn 57 = 10 from rfl) h4 dX6_falses_21 ?_
          refine lv_iload_n hx hb dX6_falses_22 rfl (lv_at hl 1 rfl) ?_
          obtain ⟨q5, hq5, hf⟩ := bd_e hf
          have J2 : ∀ (H : Heap) (locs : List Loc) (ls : Array Slot), va_P D vwCl (wd ca ad S) H → va_S (Aq ad s.heap.size) s.heap H locs → lv_has ls 5 [(0, .ref (ad 48)), (1, .int a1), (2, .int a2), (4, .int v2)] → W p l e rm_X6_falses s m args below meth c H locs 0 0 (Zi below D ca ad args s o S) (F0 m 55 ls [.int q5, .int v1]) := by
            intro H locs ls hP hS hl
            refine lv_ior hx hb dX6_falses_55 ?_
            refine lv_istore_n (lv' := [(3, .int (v1 ||| q5)), (0, .ref (ad 48)), (1, .int a1), (2, .int a2), (4, .int v2)]) hx hb dX6_falses_56 rfl hl (by decide) rfl (fun ls hl => ?_)
            refine lv_iinc (v := (v2 + 1)) (lv' := [(4, .int (v2 + 1)), (3, .int (v1 ||| q5)), (0, .ref (ad 48)), (1, .int a1), (2, .int a2)]) hx hb dX6_falses_57 hl (k := 4) rfl rfl (by decide) rfl (fun ls hl => ?_)
            refine lv_goto (tgt := 5) hx hb dX6_falses_60 (by decide) ?_
            exact ih _ _ hf _ _ _ hP hS (lv_sub hl [2, 3, 4, 1, 0] rfl)
          replace hf := hq5
          refine lv_icmp_ne (tgt := 54) hx hb dX6_falses_23 (by decide) (fun w => ?_) (fun w => ?_)
          · have hf := if_f w hf
            refine lv_iconst (v := 0) hx hb dX6_falses_54 (by decide) ?_
            obtain rfl := Option.some.inj hf
            exact J2 _ _ _ hP hS (lv_sub hl [0, 1, 2, 4] rfl)
          · have hf := if_t w hf
            refine lv_iload_n hx hb dX6_falses_26 rfl (lv_at hl 2 rfl) ?_
            refine lv_aload_n hx hb dX6_falses_27 rfl (lv_at hl 0 rfl) ?_
            refine g_X6_tLow hx hb hX6 hown hKK hP (show qk 48 = 6 from rfl) K38 dX6_falses_28 ?_
            refine lv_iload hx hb dX6_falses_31 (lv_at hl 4 rfl) ?_
            obtain ⟨v6, h7, hf⟩ := bd_e hf
            refine r_iald hx hb hKK hP (show qk 58 = 7 from rfl) (show qn 58 = 10 from rfl) h7 dX6_falses_33 ?_
            refine lv_aload_n hx hb dX6_falses_34 rfl (lv_at hl 0 rfl) ?_
            refine g_X6_tHigh hx hb hX6 hown hKK hP (show qk 48 = 6 from rfl) K41 dX6_falses_35 ?_
            refine lv_iload hx hb dX6_falses_38 (lv_at hl 4 rfl) ?_
            obtain ⟨v8, h9, hf⟩ := bd_e hf
            refine r_iald hx hb hKK hP (show qk 59 = 7 from rfl) (show qn 59 = 10 from rfl) h9 dX6_falses_40 ?_
            obtain ⟨v11, h10, hf⟩ := bd_e hf
            refine r_ci hS (va_runS (As := [.int a2, .int v6, .int v8]) (rest := [.int v1]) ⟨hx, hb, hml, hown, hts⟩ (m_X6_in l D ca ad hj a2 v6 v8 S _ h10 H.size) (cwS 3 hts gX6_falses_X6_in rfl rfl rfl (by decide +kernel) ⟨Nat.le_of_ble_eq_true rfl, Nat.le_of_ble_eq_true rfl⟩) (r_pre hKK hP) rfl rfl hl.1 rfl (lv_room (Nat.le_of_ble_eq_true rfl)) dX6_falses_41 ⟨Nat.le_of_ble_eq_true rfl, Nat.le_of_ble_eq_true rfl⟩) (fun H locs hP hS => ?_)
            refine lv_if_ne (tgt := 54) hx hb dX6_falses_44 (by decide) (fun w => ?_) (fun w => ?_)
            · have hf := if_f w hf
              refine lv_iconst (v := 0) hx hb dX6_falses_54 (by decide) ?_
              obtain rfl := Option.some.inj hf
              exact J2 _ _ _ hP hS (lv_sub hl [0, 1, 2, 4] rfl)
            · have hf := if_t w hf
              refine lv_iconst (v := 1) hx hb dX6_falses_47 (by decide) ?_
              refine lv_iload hx hb dX6_falses_48 (lv_at hl 4 rfl) ?_
              refine lv_ishl hx hb dX6_falses_50 ?_
              refine lv_goto (tgt := 55) hx hb dX6_falses_51 (by decide) ?_
              obtain rfl := Option.some.inj hf
              exact J2 _ _ _ hP hS (lv_sub hl [0, 1, 2, 4] rfl)
    exact L1 _ _ _ hf _ _ _ hP hS (lv_sub hl [2, 3, 4, 1, 0] rfl)
  exact main s.heap [] ls hP va_S.rf hl
def rm_X6_lets : Room := { frames := 2, cells := 0, slots := 0, locals := 46 }
set_option maxRecDepth 100000 in
set_option maxHeartbeats 4000000 in
theorem m_X6_lets (l : Launch) (D : va_G) (ca : Nat → ClassId) (ad : Nat → Nat) (hj : Inj ad) (a1 : Int32) (S : QS) (o : QS) (hf : f_X6_lets a1 S = some o) : Cv l D ca ad yX6_lets wsX6_lets rm_X6_lets [.ref (ad 48), .int a1] S o := by
  intro sz
  refine Met.ofW (cc := cX6_lets) (maxL := 4) (ret := none) (by decide) rfl ?_
  intro p e s m args below meth c s₁ B hml hv
  obtain ⟨hav, hsz, hP, hKK⟩ := hv
  have hx := B.exec
  have hb := B.bytes
  have hr := B.returns
  have hts := atoms_spec (ws := wsX6_lets) B.pre
  have hown : s.vm.findClass RX6 = some m.cls := findClass_of_methodNamed B.named
  have hlocks := B.notSynchronized
  subst hsz
  have hX6 : ∀ w ∈ wsX60, w.before _ s = true := fun w h => hts w (List.mem_cons_of_mem _ (List.mem_append_right _ h))
  have K29 := hts (Cond.fieldLink RX6 29 "CrashDeskModel" "low" "[I") (List.mem_cons_of_mem _ (List.mem_append_left _ (List.mem_of_getElem? (i := 1) rfl)))
  have K32 := hts (Cond.fieldLink RX6 32 "CrashDeskModel" "high" "[I") (List.mem_cons_of_mem _ (List.mem_append_left _ (List.mem_of_getElem? (i := 2) rfl)))
  have K44 := hts (Cond.fieldLink RX6 44 "CrashDeskModel" "isLet" "[Z") (List.mem_cons_of_mem _ (List.mem_append_left _ (List.mem_of_getElem? (i := 0) rfl)))
  have K47 := hts (Cond.fieldLink RX6 47 "CrashDeskModel" "isThere" "[Z") (List.mem_cons_of_mem _ (List.mem_append_left _ (List.mem_of_getElem? (i := 3) rfl)))
  have hl := lv_entry [.ref (ad 48), .int a1] (n := 4) (Nat.le_of_ble_eq_true rfl)
  rw [show entryFrame m args 4 = entryFrame m ([.ref (ad 48), .int a1] : List Value).toArray 4 by rw [hav], lg_entry_eq]
  generalize (lg_sl [.ref (ad 48), .int a1] ++ List.replicate (4 - (lg_sl [.ref (ad 48), .int a1]).length) Slot.unset).toArray = ls at hl ⊢
  have hl : lv_has ls 4 [(0, .ref (ad 48)), (1, .int a1)] := hl
  have main : ∀ (H : Heap) (locs : List Loc) (ls : Array Slot), va_P D vwCl (wd ca ad S) H → va_S (Aq ad s.heap.size) s.heap H locs → lv_has ls 4 [(0, .ref (ad 48)), (1, .int a1)] → W p l e rm_X6_lets s m args below meth c H locs 0 0 (Zv below D ca ad args s o) (F0 m 0 ls []) := by
    intro H locs ls hP hS hl
    unfold f_X6_lets at hf
    refine lv_iconst (v := 0) hx hb dX6_lets_0 (by decide) ?_
    refine lv_istore_n (lv' := [(2, .int 0), (0, .ref (ad 48)), (1, .int a1)]) hx hb dX6_lets_1 rfl hl (by decide) rfl (fun ls hl => ?_)
    have L1 : ∀ (fuel : Nat) (v1 : Int32) (S2 : QS), lp_X6_lets_2 a1 fuel v1 S2 = some o → ∀ (H : Heap) (locs : List Loc) (ls : Array Slot), va_P D vwCl (wd ca ad S2) H → va_S (Aq ad s.heap.size) s.heap H locs → lv_has ls 4 [(0, .ref (ad 48)), (1, .int a1), (2, .int v1)] → W p l e rm_X6_lets s m args below meth c H locs 0 0 (Zv below D ca ad args s o) (F0 m 2 ls []) := by
      intro fuel
      induction fuel with
      | zero =>
        intro v1 S2 hf
        simp [lp_X6_lets_2] at hf
      | succ fuel ih =>
        intro v1 S2 hf H locs ls hP hS hl
        rw [lp_X6_lets_2] at hf
        refine lv_iload_n hx hb dX6_lets_2 rfl (lv_at hl 2 rfl) ?_
        refine lv_bipush (v := 6) hx hb dX6_lets_3 (by decide) ?_
        refine lv_icmp_ge (tgt := 85) hx hb dX6_lets_5 (by decide) (fun w => ?_) (fun w => ?_)
        · have hf := if_t w hf
          obtain rfl := Option.some.inj hf
          exact r_vret hx hb hr hP hS dX6_lets_85 hlocks
        · have hf := if_f w hf
          refine lv_bipush (v := (-50)) hx hb dX6_lets_8 (by decide) ?_
          refine lv_istore_n (lv' := [(3, .int (-50)), (0, .ref (ad 48)), (1, .int a1), (2, .int v1)]) hx hb dX6_lets_10 rfl hl (by decide) rfl (fun ls hl => ?_)
          obtain ⟨q5, hq5, hf⟩ := bd_e hf
          have J2 : ∀ (H : Heap) (locs : List Loc) (ls : Array Slot), va_P D vwCl (wd ca ad q5) H → va_S (Aq ad s.heap.size) s.heap H locs → lv_has ls 4 [(0, .ref (ad 48)), (1, .int a1), (2, .int v1)] → W p l e rm_X6_lets s m args below meth c H locs 0 0 (Zv below D ca ad args s o) (F0 m 79 ls []) := by
            intro H locs ls hP hS hl
            refine lv_iinc (v := (v1 + 1)) (lv' := [(2, .int (v1 + 1)), (0, .ref (ad 48)), (1, .int a1)]) hx hb dX6_lets_79 hl (k := 2) rfl rfl (by decide) rfl (fun ls hl => ?_)
            refine lv_goto (tgt := 2) hx hb dX6_lets_82 (by decide) ?_
            exact ih _ _ hf _ _ _ hP hS (lv_sub hl [1, 2, 0] rfl)
          replace hf := hq5
          have L2 : ∀ (fuel : Nat) (v3 : Int32) (S4 : QS), lp_X6_lets_11 a1 v1 fuel v3 S4 = some q5 → ∀ (H : Heap) (locs : List Loc) (ls : Array Slot), va_P D vwCl (wd ca ad S4) H → va_S (Aq ad s.heap.size) s.heap H locs → lv_has ls 4 [(0, .ref (ad 48)), (1, .int a1), (2, .int v1), (3, .int v3)] → W p l e rm_X6_lets s m args below meth c H locs 0 0 (Zv below D ca ad args s o) (F0 m 11 ls []) := by
            intro fuel
            induction fuel with
            | zero =>
              intro v3 S4 hf
              simp [lp_X6_lets_11] at hf
            | succ fuel ih =>
              intro v3 S4 hf H locs ls hP hS hl
              rw [lp_X6_lets_11] at hf
              refine lv_iload_n hx hb dX6_lets_11 rfl (lv_at hl 3 rfl) ?_
              refine lv_bipush (v := 50) hx hb dX6_lets_12 (by decide) ?_
              refine lv_icmp_gt (tgt := 79) hx hb dX6_lets_14 (by decide) (fun w => ?_) (fun w => ?_)
              · have hf := if_t w hf
                obtain rfl := Option.some.inj hf
                exact J2 _ _ _ hP hS (lv_sub hl [0, 1, 2] rfl)
              · have hf := if_f w hf
                refine lv_aload_n hx hb dX6_lets_17 rfl (lv_at hl 0 rfl) ?_
                refine g_X6_isLet hx hb hX6 hown hKK hP (show qk 48 = 6 from rfl) K44 dX6_lets_18 ?_
                refine lv_iload_n hx hb dX6_lets_21 rfl (lv_at hl 2 rfl) ?_
                refine lv_iload_n hx hb dX6_lets_22 rfl (lv_at hl 3 rfl) ?_
                obtain ⟨v7, h6, hf⟩ := bd_e hf
                refine r_ci hS (va_runS (As := [.int v1, .int v3]) (rest := [.ref (ad 60)]) ⟨hx, hb, hml, hown, hts⟩ (m_X6_cell l D ca ad hj v1 v3 S4 _ h6 H.size) (cwS 2 hts gX6_lets_X6_cell rfl rfl rfl (by decide +kernel) ⟨Nat.le_of_ble_eq_true rfl, Nat.le_of_ble_eq_true rfl⟩) (r_pre hKK hP) rfl rfl hl.1 rfl (lv_room (Nat.le_of_ble_eq_true rfl)) dX6_lets_23 ⟨Nat.le_of_ble_eq_true rfl, Nat.le_of_ble_eq_true rfl⟩) (fun H locs hP hS => ?_)
                refine lv_iload_n hx hb dX6_lets_26 rfl (lv_at hl 3 rfl) ?_
                refine lv_aload_n hx hb dX6_lets_27 rfl (lv_at hl 0 rfl) ?_
                refine g_X6_low hx hb hX6 hown hKK hP (show qk 48 = 6 from rfl) K29 dX6_lets_28 ?_
                refine lv_iload_n hx hb dX6_lets_31 rfl (lv_at hl 2 rfl) ?_
                obtain ⟨v8, h9, hf⟩ := bd_e hf
                refine r_iald hx hb hKK hP (show qk 55 = 7 from rfl) (show qn 55 = 6 from rfl) h9 dX6_lets_32 ?_
                refine lv_aload_n hx hb dX6_lets_33 rfl (lv_at hl 0 rfl) ?_
                refine g_X6_high hx hb hX6 hown hKK hP (show qk 48 = 6 from rfl) K32 dX6_lets_34 ?_
                refine lv_iload_n hx hb dX6_lets_37 rfl (lv_at hl 2 rfl) ?_
                obtain ⟨v10, h11, hf⟩ := bd_e hf
                refine r_iald hx hb hKK hP (show qk 56 = 7 from rfl) (show qn 56 = 6 from rfl) h11 dX6_lets_38 ?_
                obtain ⟨v13, h12, hf⟩ := bd_e hf
                refine r_ci hS (va_runS (As := [.int v3, .int v8, .int v10]) (rest := [.int v7, .ref (ad 60)]) ⟨hx, hb, hml, hown, hts⟩ (m_X6_in l D ca ad hj v3 v8 v10 S4 _ h12 H.size) (cwS 3 hts gX6_lets_X6_in rfl rfl rfl (by decide +kernel) ⟨Nat.le_of_ble_eq_true rfl, Nat.le_of_ble_eq_true rfl⟩) (r_pre hKK hP) rfl rfl hl.1 rfl (lv_room (Nat.le_of_ble_eq_true rfl)) dX6_lets_39 ⟨Nat.le_of_ble_eq_true rfl, Nat.le_of_ble_eq_true rfl⟩) (fun H locs hP hS => ?_)
                obtain ⟨q14, hq14, hf⟩ := bd_e hf
                have J3 : ∀ (H : Heap) (locs : List Loc) (ls : Array Slot), va_P D vwCl (wd ca ad S4) H → va_S (Aq ad s.heap.size) s.heap H locs → lv_has ls 4 [(0, .ref (ad 48)), (1, .int a1), (2, .int v1), (3, .int v3)] → W p l e rm_X6_lets s m args below meth c H locs 0 0 (Zv below D ca ad args s o) (F0 m 61 ls [.int q14, .int v7, .ref (ad 60)]) := by
                  intro H locs ls hP hS hl
                  obtain ⟨S17, h18, hf⟩ := bd_e hf
                  refine r_zast hx hb hj hKK hP hS (show qk 60 = 8 from rfl) (show qn 60 = 606 from rfl) h18 dX6_lets_61 (fun H locs hP hS => ?_)
                  refine lv_aload_n hx hb dX6_lets_62 rfl (lv_at hl 0 rfl) ?_
                  refine g_X6_isThere hx hb hX6 hown hKK hP (show qk 48 = 6 from rfl) K47 dX6_lets_63 ?_
                  refine lv_iload_n hx hb dX6_lets_66 rfl (lv_at hl 2 rfl) ?_
                  refine lv_iload_n hx hb dX6_lets_67 rfl (lv_at hl 3 rfl) ?_
                  obtain ⟨v20, h19, hf⟩ := bd_e hf
                  refine r_ci hS (va_runS (As := [.int v1, .int v3]) (rest := [.ref (ad 61)]) ⟨hx, hb, hml, hown, hts⟩ (m_X6_cell l D ca ad hj v1 v3 S17 _ h19 H.size) (cwS 2 hts gX6_lets_X6_cell rfl rfl rfl (by decide +kernel) ⟨Nat.le_of_ble_eq_true rfl, Nat.le_of_ble_eq_true rfl⟩) (r_pre hKK hP) rfl rfl hl.1 rfl (lv_room (Nat.le_of_ble_eq_true rfl)) dX6_lets_68 ⟨Nat.le_of_ble_eq_true rfl, Nat.le_of_ble_eq_true rfl⟩) (fun H locs hP hS => ?_)
                  refine lv_iconst (v := 0) hx hb dX6_lets_71 (by decide) ?_
                  obtain ⟨S21, h22, hf⟩ := bd_e hf
                  refine r_zast hx hb hj hKK hP hS (show qk 61 = 8 from rfl) (show qn 61 = 606 from rfl) h22 dX6_lets_72 (fun H locs hP hS => ?_)
                  refine lv_iinc (v := (v3 + 1)) (lv' := [(3, .int (v3 + 1)), (0, .ref (ad 48)), (1, .int a1), (2, .int v1)]) hx hb dX6_lets_73 hl (k := 3) rfl rfl (by decide) rfl (fun ls hl => ?_)
                  refine lv_goto (tgt := 11) hx hb dX6_lets_76 (by decide) ?_
                  exact ih _ _ hf _ _ _ hP hS (lv_sub hl [1, 2, 3, 0] rfl)
                replace hf := hq14
                refine lv_if_eq (tgt := 60) hx hb dX6_lets_42 (by decide) (fun w => ?_) (fun w => ?_)
                · have hf := if_t w hf
                  refine lv_iconst (v := 0) hx hb dX6_lets_60 (by decide) ?_
                  obtain rfl := Option.some.inj hf
                  exact J3 _ _ _ hP hS (lv_sub hl [0, 1, 2, 3] rfl)
                · have hf := if_f w hf
                  refine lv_aload_n hx hb dX6_lets_45 rfl (lv_at hl 0 rfl) ?_
                  refine lv_iload_n hx hb dX6_lets_46 rfl (lv_at hl 2 rfl) ?_
                  refine lv_iload_n hx hb dX6_lets_47 rfl (lv_at hl 3 rfl) ?_
                  obtain ⟨v16, h15, hf⟩ := bd_e hf
                  refine r_ci hS (va_runV (As := [.int v1, .int v3]) (rest := [.int v7, .ref (ad 60)]) ⟨hx, hb, hml, hown, hts⟩ (m_X6_falses l D ca ad hj v1 v3 S4 _ h15 H.size) (cwV 2 hts gX6_lets_X6_falses rfl rfl rfl (by decide +kernel) ⟨Nat.le_of_ble_eq_true rfl, Nat.le_of_ble_eq_true rfl⟩) (r_preV hKK hP (show qk 48 = 6 from rfl) rfl) rfl rfl hl.1 rfl (lv_room (Nat.le_of_ble_eq_true rfl)) dX6_lets_48 ⟨Nat.le_of_ble_eq_true rfl, Nat.le_of_ble_eq_true rfl⟩) (fun H locs hP hS => ?_)
                  refine lv_iload_n hx hb dX6_lets_51 rfl (lv_at hl 1 rfl) ?_
                  refine lv_iand hx hb dX6_lets_52 ?_
                  refine lv_if_ne (tgt := 60) hx hb dX6_lets_53 (by decide) (fun w => ?_) (fun w => ?_)
                  · have hf := if_f w hf
                    refine lv_iconst (v := 0) hx hb dX6_lets_60 (by decide) ?_
                    obtain rfl := Option.some.inj hf
                    exact J3 _ _ _ hP hS (lv_sub hl [0, 1, 2, 3] rfl)
                  · have hf := if_t w hf
                    refine lv_iconst (v := 1) hx hb dX6_lets_56 (by decide) ?_
                    refine lv_goto (tgt := 61) hx hb dX6_lets_57 (by decide) ?_
                    obtain rfl := Option.some.inj hf
                    exact J3 _ _ _ hP hS (lv_sub hl [0, 1, 2, 3] rfl)
          exact L2 _ _ _ hf _ _ _ hP hS (lv_sub hl [1, 2, 3, 0] rfl)
    exact L1 _ _ _ hf _ _ _ hP hS (lv_sub hl [1, 2, 0] rfl)
  exact main s.heap [] ls hP va_S.rf hl
def rm_X6_takes : Room := { frames := 1, cells := 0, slots := 0, locals := 22 }
set_option maxRecDepth 100000 in
set_option maxHeartbeats 4000000 in
theorem m_X6_takes (l : Launch) (D : va_G) (ca : Nat → ClassId) (ad : Nat → Nat) (hj : Inj ad) (a1 : Int32) (a2 : Int32) (a3 : Int32) (a4 : Int32) (S : QS) (o : Int32) (hf : f_X6_takes a1 a2 a3 a4 S = some o) : Ci l D ca ad yX6_takes wsX6_takes rm_X6_takes [.ref (ad 48), .int a1, .int a2, .int a3, .int a4] S o S := by
  intro sz
  refine Met.ofW (cc := cX6_takes) (maxL := 9) (ret := (some .boolean)) (by decide) rfl ?_
  intro p e s m args below meth c s₁ B hml hv
  obtain ⟨hav, hsz, hP, hKK⟩ := hv
  have hx := B.exec
  have hb := B.bytes
  have hr := B.returns
  have hts := atoms_spec (ws := wsX6_takes) B.pre
  have hown : s.vm.findClass RX6 = some m.cls := findClass_of_methodNamed B.named
  have hlocks := B.notSynchronized
  subst hsz
  have hX6 : ∀ w ∈ wsX60, w.before _ s = true := fun w h => hts w (List.mem_cons_of_mem _ (List.mem_append_right _ h))
  have K13 := hts (Cond.fieldLink RX6 13 "CrashDeskModel" "sCar" "[I") (List.mem_cons_of_mem _ (List.mem_append_left _ (List.mem_of_getElem? (i := 1) rfl)))
  have K16 := hts (Cond.fieldLink RX6 16 "CrashDeskModel" "sBehind" "[Z") (List.mem_cons_of_mem _ (List.mem_append_left _ (List.mem_of_getElem? (i := 2) rfl)))
  have K20 := hts (Cond.fieldLink RX6 20 "CrashDeskModel" "sLeast" "[I") (List.mem_cons_of_mem _ (List.mem_append_left _ (List.mem_of_getElem? (i := 4) rfl)))
  have K23 := hts (Cond.fieldLink RX6 23 "CrashDeskModel" "sMost" "[I") (List.mem_cons_of_mem _ (List.mem_append_left _ (List.mem_of_getElem? (i := 5) rfl)))
  have K26 := hts (Cond.fieldLink RX6 26 "CrashDeskModel" "isDropped" "[Z") (List.mem_cons_of_mem _ (List.mem_append_left _ (List.mem_of_getElem? (i := 3) rfl)))
  have K82 := hts (Cond.fieldLink RX6 82 "CrashDeskModel" "skids" "I") (List.mem_cons_of_mem _ (List.mem_append_left _ (List.mem_of_getElem? (i := 0) rfl)))
  have hl := lv_entry [.ref (ad 48), .int a1, .int a2, .int a3, .int a4] (n := 9) (Nat.le_of_ble_eq_true rfl)
  rw [show entryFrame m args 9 = entryFrame m ([.ref (ad 48), .int a1, .int a2, .int a3, .int a4] : List Value).toArray 9 by rw [hav], lg_entry_eq]
  generalize (lg_sl [.ref (ad 48), .int a1, .int a2, .int a3, .int a4] ++ List.replicate (9 - (lg_sl [.ref (ad 48), .int a1, .int a2, .int a3, .int a4]).length) Slot.unset).toArray = ls at hl ⊢
  have hl : lv_has ls 9 [(0, .ref (ad 48)), (1, .int a1), (2, .int a2), (3, .int a3), (4, .int a4)] := hl
  have main : ∀ (H : Heap) (locs : List Loc) (ls : Array Slot), va_P D vwCl (wd ca ad S) H → va_S (Aq ad s.heap.size) s.heap H locs → lv_has ls 9 [(0, .ref (ad 48)), (1, .int a1), (2, .int a2), (3, .int a3), (4, .int a4)] → W p l e rm_X6_takes s m args below meth c H locs 0 0 (Zi below D ca ad args s o S) (F0 m 0 ls []) := by
    intro H locs ls hP hS hl
    unfold f_X6_takes at hf
    refine lv_iconst (v := 0) hx hb dX6_takes_0 (by decide) ?_
    refine lv_istore (lv' := [(5, .int 0), (0, .ref (ad 48)), (1, .int a1), (2, .int a2), (3, .int a3), (4, .int a4)]) hx hb dX6_takes_1 hl (by decide) rfl (fun ls hl => ?_)
    refine lv_iconst (v := 0) hx hb dX6_takes_3 (by decide) ?_
    refine lv_istore (lv' := [(6, .int 0), (5, .int 0), (0, .ref (ad 48)), (1, .int a1), (2, .int a2), (3, .int a3), (4, .int a4)]) hx hb dX6_takes_4 hl (by decide) rfl (fun ls hl => ?_)
    refine lv_iconst (v := 0) hx hb dX6_takes_6 (by decide) ?_
    refine lv_istore (lv' := [(7, .int 0), (6, .int 0), (5, .int 0), (0, .ref (ad 48)), (1, .int a1), (2, .int a2), (3, .int a3), (4, .int a4)]) hx hb dX6_takes_7 hl (by decide) rfl (fun ls hl => ?_)
    refine lv_iconst (v := 0) hx hb dX6_takes_9 (by decide) ?_
    refine lv_istore (lv' := [(8, .int 0), (7, .int 0), (6, .int 0), (5, .int 0), (0, .ref (ad 48)), (1, .int a1), (2, .int a2), (3, .int a3), (4, .int a4)]) hx hb dX6_takes_10 hl (by decide) rfl (fun ls hl => ?_)
    obtain ⟨q5, hq5, hf⟩ := bd_e hf
    have J1 : ∀ (H : Heap) (locs : List Loc) (ls : Array Slot), va_P D vwCl (wd ca ad S) H → va_S (Aq ad s.heap.size) s.heap H locs → lv_has ls 9 [(2, .int a2), (3, .int a3), (5, .int q5.1), (6, .int q5.2.1), (7, .int q5.2.2)] → W p l e rm_X6_takes s m args below meth c H locs 0 0 (Zi below D ca ad args s o S) (F0 m 96 ls []) := by
      intro H locs ls hP hS hl
      refine lv_iload_n hx hb dX6_takes_96 rfl (lv_at hl 0 rfl) ?_
      have J2 : ct_X6_takes_105 a3 q5 = some o → ∀ (H : Heap) (locs : List Loc) (ls : Array Slot), va_P D vwCl (wd ca ad S) H → va_S (Aq ad s.heap.size) s.heap H locs → lv_has ls 9 [(3, .int a3), (5, .int q5.1), (6, .int q5.2.1)] → W p l e rm_X6_takes s m args below meth c H locs 0 0 (Zi below D ca ad args s o S) (F0 m 105 ls []) := by
        intro hf H locs ls hP hS hl
        unfold ct_X6_takes_105 at hf
        refine lv_iload_n hx hb dX6_takes_105 rfl (lv_at hl 0 rfl) ?_
        refine lv_iload hx hb dX6_takes_106 (lv_at hl 1 rfl) ?_
        refine lv_iload hx hb dX6_takes_108 (lv_at hl 2 rfl) ?_
        obtain ⟨v17, h16, hf⟩ := bd_e hf
        refine r_ci hS (va_runS (As := [.int a3, .int q5.1, .int q5.2.1]) (rest := []) ⟨hx, hb, hml, hown, hts⟩ (m_X6_in l D ca ad hj a3 q5.1 q5.2.1 S _ h16 H.size) (cwS 3 hts gX6_takes_X6_in rfl rfl rfl (by decide +kernel) ⟨Nat.le_of_ble_eq_true rfl, Nat.le_of_ble_eq_true rfl⟩) (r_pre hKK hP) rfl rfl hl.1 rfl (lv_room (Nat.le_of_ble_eq_true rfl)) dX6_takes_110 ⟨Nat.le_of_ble_eq_true rfl, Nat.le_of_ble_eq_true rfl⟩) (fun H locs hP hS => ?_)
        refine lv_if_eq (tgt := 120) hx hb dX6_takes_113 (by decide) (fun w => ?_) (fun w => ?_)
        · have hf := if_t w hf
          refine lv_iconst (v := 0) hx hb dX6_takes_120 (by decide) ?_
          obtain rfl := Option.some.inj hf
          exact r_zret hx hb hr hP hS (Or.inl rfl) dX6_takes_121 hlocks
        · have hf := if_f w hf
          refine lv_iconst (v := 1) hx hb dX6_takes_116 (by decide) ?_
          refine lv_goto (tgt := 121) hx hb dX6_takes_117 (by decide) ?_
          obtain rfl := Option.some.inj hf
          exact r_zret hx hb hr hP hS (Or.inr rfl) dX6_takes_121 hlocks
      refine lv_if_eq (tgt := 105) hx hb dX6_takes_97 (by decide) (fun w => ?_) (fun w => ?_)
      · have hf := if_t w hf
        exact J2 hf _ _ _ hP hS (lv_sub hl [1, 2, 3] rfl)
      · have hf := if_f w hf
        refine lv_iload hx hb dX6_takes_100 (lv_at hl 4 rfl) ?_
        refine lv_if_eq (tgt := 116) hx hb dX6_takes_102 (by decide) (fun w => ?_) (fun w => ?_)
        · have hf := if_t w hf
          refine lv_iconst (v := 1) hx hb dX6_takes_116 (by decide) ?_
          refine lv_goto (tgt := 121) hx hb dX6_takes_117 (by decide) ?_
          obtain rfl := Option.some.inj hf
          exact r_zret hx hb hr hP hS (Or.inr rfl) dX6_takes_121 hlocks
        · have hf := if_f w hf
          exact J2 hf _ _ _ hP hS (lv_sub hl [1, 2, 3] rfl)
    replace hf := hq5
    have L1 : ∀ (fuel : Nat) (v1 : Int32) (v2 : Int32) (v3 : Int32) (v4 : Int32), lp_X6_takes_12 a1 a2 a4 S fuel v1 v2 v3 v4 = some q5 → ∀ (H : Heap) (locs : List Loc) (ls : Array Slot), va_P D vwCl (wd ca ad S) H → va_S (Aq ad s.heap.size) s.heap H locs → lv_has ls 9 [(0, .ref (ad 48)), (1, .int a1), (2, .int a2), (3, .int a3), (4, .int a4), (5, .int v1), (6, .int v2), (7, .int v3), (8, .int v4)] → W p l e rm_X6_takes s m args below meth c H locs 0 0 (Zi below D ca ad args s o S) (F0 m 12 ls []) := by
      intro fuel
      induction fuel with
      | zero =>
        intro v1 v2 v3 v4 hf
        simp [lp_X6_takes_12] at hf
      | succ fuel ih =>
        intro v1 v2 v3 v4 hf H locs ls hP hS hl
        rw [lp_X6_takes_12] at hf
        refine lv_iload hx hb dX6_takes_12 (lv_at hl 8 rfl) ?_
        refine lv_aload_n hx hb dX6_takes_14 rfl (lv_at hl 0 rfl) ?_
        refine g_X6_skids hx hb hX6 hown hKK hP (show qk 48 = 6 from rfl) K82 dX6_takes_15 ?_
        refine lv_icmp_ge (tgt := 96) hx hb dX6_takes_18 (by decide) (fun w => ?_) (fun w => ?_)
        · have hf := if_t w hf
          obtain rfl := Option.some.inj hf
          exact J1 _ _ _ hP hS (lv_sub hl [2, 3, 5, 6, 7] rfl)
        · have hf := if_f w hf
          refine lv_aload_n hx hb dX6_takes_21 rfl (lv_at hl 0 rfl) ?_
          refine g_X6_sCar hx hb hX6 hown hKK hP (show qk 48 = 6 from rfl) K13 dX6_takes_22 ?_
          refine lv_iload hx hb dX6_takes_25 (lv_at hl 8 rfl) ?_
          obtain ⟨v6, h7, hf⟩ := bd_e hf
          refine r_iald hx hb hKK hP (show qk 50 = 7 from rfl) (show qn 50 = 12 from rfl) h7 dX6_takes_27 ?_
          refine lv_iload_n hx hb dX6_takes_28 rfl (lv_at hl 1 rfl) ?_
          refine lv_icmp_ne (tgt := 90) hx hb dX6_takes_29 (by decide) (fun w => ?_) (fun w => ?_)
          · have hf := if_f w hf
            refine lv_iinc (v := (v4 + 1)) (lv' := [(8, .int (v4 + 1)), (0, .ref (ad 48)), (1, .int a1), (2, .int a2), (3, .int a3), (4, .int a4), (5, .int v1), (6, .int v2), (7, .int v3)]) hx hb dX6_takes_90 hl (k := 8) rfl rfl (by decide) rfl (fun ls hl => ?_)
            refine lv_goto (tgt := 12) hx hb dX6_takes_93 (by decide) ?_
            exact ih _ _ _ _ hf _ _ _ hP hS (lv_sub hl [1, 2, 3, 4, 5, 6, 7, 8, 0] rfl)
          · have hf := if_t w hf
            refine lv_aload_n hx hb dX6_takes_32 rfl (lv_at hl 0 rfl) ?_
            refine g_X6_sBehind hx hb hX6 hown hKK hP (show qk 48 = 6 from rfl) K16 dX6_takes_33 ?_
            refine lv_iload hx hb dX6_takes_36 (lv_at hl 8 rfl) ?_
            obtain ⟨v8, h9, hf⟩ := bd_e hf
            refine r_zald hx hb hKK hP (show qk 51 = 8 from rfl) (show qn 51 = 12 from rfl) h9 dX6_takes_38 ?_
            refine lv_iload_n hx hb dX6_takes_39 rfl (lv_at hl 2 rfl) ?_
            refine lv_icmp_ne (tgt := 90) hx hb dX6_takes_40 (by decide) (fun w => ?_) (fun w => ?_)
            · have hf := if_f w hf
              refine lv_iinc (v := (v4 + 1)) (lv' := [(8, .int (v4 + 1)), (0, .ref (ad 48)), (1, .int a1), (2, .int a2), (3, .int a3), (4, .int a4), (5, .int v1), (6, .int v2), (7, .int v3)]) hx hb dX6_takes_90 hl (k := 8) rfl rfl (by decide) rfl (fun ls hl => ?_)
              refine lv_goto (tgt := 12) hx hb dX6_takes_93 (by decide) ?_
              exact ih _ _ _ _ hf _ _ _ hP hS (lv_sub hl [1, 2, 3, 4, 5, 6, 7, 8, 0] rfl)
            · have hf := if_t w hf
              refine lv_aload_n hx hb dX6_takes_43 rfl (lv_at hl 0 rfl) ?_
              refine g_X6_isDropped hx hb hX6 hown hKK hP (show qk 48 = 6 from rfl) K26 dX6_takes_44 ?_
              refine lv_iload hx hb dX6_takes_47 (lv_at hl 8 rfl) ?_
              obtain ⟨v10, h11, hf⟩ := bd_e hf
              refine r_zald hx hb hKK hP (show qk 54 = 8 from rfl) (show qn 54 = 12 from rfl) h11 dX6_takes_49 ?_
              refine lv_if_ne (tgt := 90) hx hb dX6_takes_50 (by decide) (fun w => ?_) (fun w => ?_)
              · have hf := if_f w hf
                refine lv_iinc (v := (v4 + 1)) (lv' := [(8, .int (v4 + 1)), (0, .ref (ad 48)), (1, .int a1), (2, .int a2), (3, .int a3), (4, .int a4), (5, .int v1), (6, .int v2), (7, .int v3)]) hx hb dX6_takes_90 hl (k := 8) rfl rfl (by decide) rfl (fun ls hl => ?_)
                refine lv_goto (tgt := 12) hx hb dX6_takes_93 (by decide) ?_
                exact ih _ _ _ _ hf _ _ _ hP hS (lv_sub hl [1, 2, 3, 4, 5, 6, 7, 8, 0] rfl)
              · have hf := if_t w hf
                refine lv_iload hx hb dX6_takes_53 (lv_at hl 8 rfl) ?_
                refine lv_iload hx hb dX6_takes_55 (lv_at hl 4 rfl) ?_
                refine lv_icmp_ne (tgt := 63) hx hb dX6_takes_57 (by decide) (fun w => ?_) (fun w => ?_)
                · have hf := if_f w hf
                  refine lv_iload hx hb dX6_takes_63 (lv_at hl 5 rfl) ?_
                  refine lv_aload_n hx hb dX6_takes_65 rfl (lv_at hl 0 rfl) ?_
                  refine g_X6_sLeast hx hb hX6 hown hKK hP (show qk 48 = 6 from rfl) K20 dX6_takes_66 ?_
                  refine lv_iload hx hb dX6_takes_69 (lv_at hl 8 rfl) ?_
                  obtain ⟨v12, h13, hf⟩ := bd_e hf
                  refine r_iald hx hb hKK hP (show qk 52 = 7 from rfl) (show qn 52 = 12 from rfl) h13 dX6_takes_71 ?_
                  refine lv_iadd hx hb dX6_takes_72 ?_
                  refine lv_istore (lv' := [(5, .int (v1 + v12)), (0, .ref (ad 48)), (1, .int a1), (2, .int a2), (3, .int a3), (4, .int a4), (6, .int v2), (7, .int v3), (8, .int v4)]) hx hb dX6_takes_73 hl (by decide) rfl (fun ls hl => ?_)
                  refine lv_iload hx hb dX6_takes_75 (lv_at hl 6 rfl) ?_
                  refine lv_aload_n hx hb dX6_takes_77 rfl (lv_at hl 1 rfl) ?_
                  refine g_X6_sMost hx hb hX6 hown hKK hP (show qk 48 = 6 from rfl) K23 dX6_takes_78 ?_
                  refine lv_iload hx hb dX6_takes_81 (lv_at hl 8 rfl) ?_
                  obtain ⟨v14, h15, hf⟩ := bd_e hf
                  refine r_iald hx hb hKK hP (show qk 53 = 7 from rfl) (show qn 53 = 12 from rfl) h15 dX6_takes_83 ?_
                  refine lv_iadd hx hb dX6_takes_84 ?_
                  refine lv_istore (lv' := [(6, .int (v2 + v14)), (5, .int (v1 + v12)), (0, .ref (ad 48)), (1, .int a1), (2, .int a2), (3, .int a3), (4, .int a4), (7, .int v3), (8, .int v4)]) hx hb dX6_takes_85 hl (by decide) rfl (fun ls hl => ?_)
                  refine lv_iinc (v := (v3 + 1)) (lv' := [(7, .int (v3 + 1)), (6, .int (v2 + v14)), (5, .int (v1 + v12)), (0, .ref (ad 48)), (1, .int a1), (2, .int a2), (3, .int a3), (4, .int a4), (8, .int v4)]) hx hb dX6_takes_87 hl (k := 7) rfl rfl (by decide) rfl (fun ls hl => ?_)
                  refine lv_iinc (v := (v4 + 1)) (lv' := [(8, .int (v4 + 1)), (7, .int (v3 + 1)), (6, .int (v2 + v14)), (5, .int (v1 + v12)), (0, .ref (ad 48)), (1, .int a1), (2, .int a2), (3, .int a3), (4, .int a4)]) hx hb dX6_takes_90 hl (k := 8) rfl rfl (by decide) rfl (fun ls hl => ?_)
                  refine lv_goto (tgt := 12) hx hb dX6_takes_93 (by decide) ?_
                  exact ih _ _ _ _ hf _ _ _ hP hS (lv_sub hl [4, 5, 6, 7, 8, 3, 2, 1, 0] rfl)
                · have hf := if_t w hf
                  refine lv_goto (tgt := 90) hx hb dX6_takes_60 (by decide) ?_
                  refine lv_iinc (v := (v4 + 1)) (lv' := [(8, .int (v4 + 1)), (0, .ref (ad 48)), (1, .int a1), (2, .int a2), (3, .int a3), (4, .int a4), (5, .int v1), (6, .int v2), (7, .int v3)]) hx hb dX6_takes_90 hl (k := 8) rfl rfl (by decide) rfl (fun ls hl => ?_)
                  refine lv_goto (tgt := 12) hx hb dX6_takes_93 (by decide) ?_
                  exact ih _ _ _ _ hf _ _ _ hP hS (lv_sub hl [1, 2, 3, 4, 5, 6, 7, 8, 0] rfl)
    exact L1 _ _ _ _ _ hf _ _ _ hP hS (lv_sub hl [4, 5, 6, 7, 8, 3, 2, 1, 0] rfl)
  exact main s.heap [] ls hP va_S.rf hl
def rm_X6_isFirst : Room := { frames := 2, cells := 0, slots := 0, locals := 50 }
set_option maxRecDepth 100000 in
set_option maxHeartbeats 4000000 in
theorem m_X6_isFirst (l : Launch) (D : va_G) (ca : Nat → ClassId) (ad : Nat → Nat) (hj : Inj ad) (a1 : Int32) (a2 : Int32) (a3 : Int32) (a4 : Int32) (S : QS) (o : Int32) (hf : f_X6_isFirst a1 a2 a3 a4 S = some o) : Ci l D ca ad yX6_isFirst wsX6_isFirst rm_X6_isFirst [.ref (ad 48), .int a1, .int a2, .int a3, .int a4] S o S := by
  intro sz
  refine Met.ofW (cc := cX6_isFirst) (maxL := 6) (ret := (some .boolean)) (by decide) rfl ?_
  intro p e s m args below meth c s₁ B hml hv
  obtain ⟨hav, hsz, hP, hKK⟩ := hv
  have hx := B.exec
  have hb := B.bytes
  have hr := B.returns
  have hts := atoms_spec (ws := wsX6_isFirst) B.pre
  have hown : s.vm.findClass RX6 = some m.cls := findClass_of_methodNamed B.named
  have hlocks := B.notSynchronized
  subst hsz
  have hX6 : ∀ w ∈ wsX60, w.before _ s = true := fun w h => hts w (List.mem_cons_of_mem _ (List.mem_append_right _ h))
  have K44 := hts (Cond.fieldLink RX6 44 "CrashDeskModel" "isLet" "[Z") (List.mem_cons_of_mem _ (List.mem_append_left _ (List.mem_of_getElem? (i := 0) rfl)))
  have hl := lv_entry [.ref (ad 48), .int a1, .int a2, .int a3, .int a4] (n := 6) (Nat.le_of_ble_eq_true rfl)
  rw [show entryFrame m args 6 = entryFrame m ([.ref (ad 48), .int a1, .int a2, .int a3, .int a4] : List Value).toArray 6 by rw [hav], lg_entry_eq]
  generalize (lg_sl [.ref (ad 48), .int a1, .int a2, .int a3, .int a4] ++ List.replicate (6 - (lg_sl [.ref (ad 48), .int a1, .int a2, .int a3, .int a4]).length) Slot.unset).toArray = ls at hl ⊢
  have hl : lv_has ls 6 [(0, .ref (ad 48)), (1, .int a1), (2, .int a2), (3, .int a3), (4, .int a4)] := hl
  have main : ∀ (H : Heap) (locs : List Loc) (ls : Array Slot), va_P D vwCl (wd ca ad S) H → va_S (Aq ad s.heap.size) s.heap H locs → lv_has ls 6 [(0, .ref (ad 48)), (1, .int a1), (2, .int a2), (3, .int a3), (4, .int a4)] → W p l e rm_X6_isFirst s m args below meth c H locs 0 0 (Zi below D ca ad args s o S) (F0 m 0 ls []) := by
    intro H locs ls hP hS hl
    unfold f_X6_isFirst at hf
    refine lv_iload_n hx hb dX6_isFirst_0 rfl (lv_at hl 3 rfl) ?_
    obtain ⟨q1, hq1, hf⟩ := bd_e hf
    have J1 : ∀ (H : Heap) (locs : List Loc) (ls : Array Slot), va_P D vwCl (wd ca ad S) H → va_S (Aq ad s.heap.size) s.heap H locs → lv_has ls 6 [(0, .ref (ad 48)), (1, .int a1), (2, .int a2), (3, .int a3), (4, .int a4)] → W p l e rm_X6_isFirst s m args below meth c H locs 0 0 (Zi below D ca ad args s o S) (F0 m 41 ls [.int q1]) := by
      intro H locs ls hP hS hl
      refine lv_istore (lv' := [(5, .int q1), (0, .ref (ad 48)), (1, .int a1), (2, .int a2), (3, .int a3), (4, .int a4)]) hx hb dX6_isFirst_41 hl (by decide) rfl (fun ls hl => ?_)
      refine lv_iload hx hb dX6_isFirst_43 (lv_at hl 0 rfl) ?_
      refine lv_if_eq (tgt := 88) hx hb dX6_isFirst_45 (by decide) (fun w => ?_) (fun w => ?_)
      · have hf := if_t w hf
        refine lv_iconst (v := 0) hx hb dX6_isFirst_88 (by decide) ?_
        obtain rfl := Option.some.inj hf
        exact r_zret hx hb hr hP hS (Or.inl rfl) dX6_isFirst_89 hlocks
      · have hf := if_f w hf
        refine lv_aload_n hx hb dX6_isFirst_48 rfl (lv_at hl 1 rfl) ?_
        refine g_X6_isLet hx hb hX6 hown hKK hP (show qk 48 = 6 from rfl) K44 dX6_isFirst_49 ?_
        refine lv_iconst (v := 3) hx hb dX6_isFirst_52 (by decide) ?_
        refine lv_iload_n hx hb dX6_isFirst_53 rfl (lv_at hl 2 rfl) ?_
        refine lv_imul hx hb dX6_isFirst_54 ?_
        refine lv_iload_n hx hb dX6_isFirst_55 rfl (lv_at hl 3 rfl) ?_
        obtain ⟨v3, h2, hf⟩ := bd_e hf
        refine r_ci hS (va_runS (As := [.int (3 * a1), .int a2]) (rest := [.ref (ad 60)]) ⟨hx, hb, hml, hown, hts⟩ (m_X6_cell l D ca ad hj (3 * a1) a2 S _ h2 H.size) (cwS 2 hts gX6_isFirst_X6_cell rfl rfl rfl (by decide +kernel) ⟨Nat.le_of_ble_eq_true rfl, Nat.le_of_ble_eq_true rfl⟩) (r_pre hKK hP) rfl rfl hl.1 rfl (lv_room (Nat.le_of_ble_eq_true rfl)) dX6_isFirst_56 ⟨Nat.le_of_ble_eq_true rfl, Nat.le_of_ble_eq_true rfl⟩) (fun H locs hP hS => ?_)
        obtain ⟨v4, h5, hf⟩ := bd_e hf
        refine r_zald hx hb hKK hP (show qk 60 = 8 from rfl) (show qn 60 = 606 from rfl) h5 dX6_isFirst_59 ?_
        refine lv_if_eq (tgt := 88) hx hb dX6_isFirst_60 (by decide) (fun w => ?_) (fun w => ?_)
        · have hf := if_t w hf
          refine lv_iconst (v := 0) hx hb dX6_isFirst_88 (by decide) ?_
          obtain rfl := Option.some.inj hf
          exact r_zret hx hb hr hP hS (Or.inl rfl) dX6_isFirst_89 hlocks
        · have hf := if_f w hf
          refine lv_aload_n hx hb dX6_isFirst_63 rfl (lv_at hl 1 rfl) ?_
          refine lv_iload_n hx hb dX6_isFirst_64 rfl (lv_at hl 2 rfl) ?_
          refine lv_iconst (v := 0) hx hb dX6_isFirst_65 (by decide) ?_
          refine lv_bipush (v := 51) hx hb dX6_isFirst_66 (by decide) ?_
          refine lv_iload_n hx hb dX6_isFirst_68 rfl (lv_at hl 3 rfl) ?_
          refine lv_iload_n hx hb dX6_isFirst_69 rfl (lv_at hl 3 rfl) ?_
          refine lv_imul hx hb dX6_isFirst_70 ?_
          refine lv_iload_n hx hb dX6_isFirst_71 rfl (lv_at hl 4 rfl) ?_
          refine lv_iload_n hx hb dX6_isFirst_72 rfl (lv_at hl 4 rfl) ?_
          refine lv_imul hx hb dX6_isFirst_73 ?_
          refine lv_isub hx hb dX6_isFirst_74 ?_
          refine lv_imul hx hb dX6_isFirst_75 ?_
          refine lv_iload hx hb dX6_isFirst_76 (lv_at hl 5 rfl) ?_
          obtain ⟨v7, h6, hf⟩ := bd_e hf
          refine r_ci hS (va_runV (As := [.int a1, .int 0, .int (51 * ((a2 * a2) - (a3 * a3))), .int a4]) (rest := []) ⟨hx, hb, hml, hown, hts⟩ (m_X6_takes l D ca ad hj a1 0 (51 * ((a2 * a2) - (a3 * a3))) a4 S _ h6 H.size) (cwV 4 hts gX6_isFirst_X6_takes rfl rfl rfl (by decide +kernel) ⟨Nat.le_of_ble_eq_true rfl, Nat.le_of_ble_eq_true rfl⟩) (r_preV hKK hP (show qk 48 = 6 from rfl) rfl) rfl rfl hl.1 rfl (lv_room (Nat.le_of_ble_eq_true rfl)) dX6_isFirst_78 ⟨Nat.le_of_ble_eq_true rfl, Nat.le_of_ble_eq_true rfl⟩) (fun H locs hP hS => ?_)
          refine lv_if_eq (tgt := 88) hx hb dX6_isFirst_81 (by decide) (fun w => ?_) (fun w => ?_)
          · have hf := if_t w hf
            refine lv_iconst (v := 0) hx hb dX6_isFirst_88 (by decide) ?_
            obtain rfl := Option.some.inj hf
            exact r_zret hx hb hr hP hS (Or.inl rfl) dX6_isFirst_89 hlocks
          · have hf := if_f w hf
            refine lv_iconst (v := 1) hx hb dX6_isFirst_84 (by decide) ?_
            refine lv_goto (tgt := 89) hx hb dX6_isFirst_85 (by decide) ?_
            obtain rfl := Option.some.inj hf
            exact r_zret hx hb hr hP hS (Or.inr rfl) dX6_isFirst_89 hlocks
    replace hf := hq1
    refine lv_if_le (tgt := 16) hx hb dX6_isFirst_1 (by decide) (fun w => ?_) (fun w => ?_)
    · have hf := if_t w hf
      refine lv_iload_n hx hb dX6_isFirst_16 rfl (lv_at hl 3 rfl) ?_
      refine lv_if_ge (tgt := 32) hx hb dX6_isFirst_17 (by decide) (fun w => ?_) (fun w => ?_)
      · have hf := if_t w hf
        refine lv_iload_n hx hb dX6_isFirst_32 rfl (lv_at hl 2 rfl) ?_
        refine lv_if_lt (tgt := 40) hx hb dX6_isFirst_33 (by decide) (fun w => ?_) (fun w => ?_)
        · have hf := if_t w hf
          refine lv_iconst (v := 0) hx hb dX6_isFirst_40 (by decide) ?_
          obtain rfl := Option.some.inj hf
          exact J1 _ _ _ hP hS (lv_sub hl [0, 1, 2, 3, 4] rfl)
        · have hf := if_f w hf
          refine lv_iconst (v := 1) hx hb dX6_isFirst_36 (by decide) ?_
          refine lv_goto (tgt := 41) hx hb dX6_isFirst_37 (by decide) ?_
          obtain rfl := Option.some.inj hf
          exact J1 _ _ _ hP hS (lv_sub hl [0, 1, 2, 3, 4] rfl)
      · have hf := if_f w hf
        refine lv_iload_n hx hb dX6_isFirst_20 rfl (lv_at hl 2 rfl) ?_
        refine lv_if_ge (tgt := 28) hx hb dX6_isFirst_21 (by decide) (fun w => ?_) (fun w => ?_)
        · have hf := if_t w hf
          refine lv_iconst (v := 0) hx hb dX6_isFirst_28 (by decide) ?_
          refine lv_goto (tgt := 41) hx hb dX6_isFirst_29 (by decide) ?_
          obtain rfl := Option.some.inj hf
          exact J1 _ _ _ hP hS (lv_sub hl [0, 1, 2, 3, 4] rfl)
        · have hf := if_f w hf
          refine lv_iconst (v := 1) hx hb dX6_isFirst_24 (by decide) ?_
          refine lv_goto (tgt := 41) hx hb dX6_isFirst_25 (by decide) ?_
          obtain rfl := Option.some.inj hf
          exact J1 _ _ _ hP hS (lv_sub hl [0, 1, 2, 3, 4] rfl)
    · have hf := if_f w hf
      refine lv_iload_n hx hb dX6_isFirst_4 rfl (lv_at hl 2 rfl) ?_
      refine lv_if_le (tgt := 12) hx hb dX6_isFirst_5 (by decide) (fun w => ?_) (fun w => ?_)
      · have hf := if_t w hf
        refine lv_iconst (v := 0) hx hb dX6_isFirst_12 (by decide) ?_
        refine lv_goto (tgt := 41) hx hb dX6_isFirst_13 (by decide) ?_
        obtain rfl := Option.some.inj hf
        exact J1 _ _ _ hP hS (lv_sub hl [0, 1, 2, 3, 4] rfl)
      · have hf := if_f w hf
        refine lv_iconst (v := 1) hx hb dX6_isFirst_8 (by decide) ?_
        refine lv_goto (tgt := 41) hx hb dX6_isFirst_9 (by decide) ?_
        obtain rfl := Option.some.inj hf
        exact J1 _ _ _ hP hS (lv_sub hl [0, 1, 2, 3, 4] rfl)
  exact main s.heap [] ls hP va_S.rf hl
def rm_X6_counts : Room := { frames := 3, cells := 0, slots := 0, locals := 75 }
set_option maxRecDepth 100000 in
set_option maxHeartbeats 4000000 in
theorem m_X6_counts (l : Launch) (D : va_G) (ca : Nat → ClassId) (ad : Nat → Nat) (hj : Inj ad) (a1 : Int32) (S : QS) (o : QS) (hf : f_X6_counts a1 S = some o) : Cv l D ca ad yX6_counts wsX6_counts rm_X6_counts [.ref (ad 48), .int a1] S o := by
  intro sz
  refine Met.ofW (cc := cX6_counts) (maxL := 6) (ret := none) (by decide) rfl ?_
  intro p e s m args below meth c s₁ B hml hv
  obtain ⟨hav, hsz, hP, hKK⟩ := hv
  have hx := B.exec
  have hb := B.bytes
  have hr := B.returns
  have hts := atoms_spec (ws := wsX6_counts) B.pre
  have hown : s.vm.findClass RX6 = some m.cls := findClass_of_methodNamed B.named
  have hlocks := B.notSynchronized
  subst hsz
  have hX6 : ∀ w ∈ wsX60, w.before _ s = true := fun w h => hts w (List.mem_cons_of_mem _ (List.mem_append_right _ h))
  have K44 := hts (Cond.fieldLink RX6 44 "CrashDeskModel" "isLet" "[Z") (List.mem_cons_of_mem _ (List.mem_append_left _ (List.mem_of_getElem? (i := 0) rfl)))
  have K50 := hts (Cond.fieldLink RX6 50 "CrashDeskModel" "firsts" "[I") (List.mem_cons_of_mem _ (List.mem_append_left _ (List.mem_of_getElem? (i := 1) rfl)))
  have hl := lv_entry [.ref (ad 48), .int a1] (n := 6) (Nat.le_of_ble_eq_true rfl)
  rw [show entryFrame m args 6 = entryFrame m ([.ref (ad 48), .int a1] : List Value).toArray 6 by rw [hav], lg_entry_eq]
  generalize (lg_sl [.ref (ad 48), .int a1] ++ List.replicate (6 - (lg_sl [.ref (ad 48), .int a1]).length) Slot.unset).toArray = ls at hl ⊢
  have hl : lv_has ls 6 [(0, .ref (ad 48)), (1, .int a1)] := hl
  have main : ∀ (H : Heap) (locs : List Loc) (ls : Array Slot), va_P D vwCl (wd ca ad S) H → va_S (Aq ad s.heap.size) s.heap H locs → lv_has ls 6 [(0, .ref (ad 48)), (1, .int a1)] → W p l e rm_X6_counts s m args below meth c H locs 0 0 (Zv below D ca ad args s o) (F0 m 0 ls []) := by
    intro H locs ls hP hS hl
    unfold f_X6_counts at hf
    refine lv_iconst (v := 0) hx hb dX6_counts_0 (by decide) ?_
    refine lv_istore_n (lv' := [(2, .int 0), (0, .ref (ad 48)), (1, .int a1)]) hx hb dX6_counts_1 rfl hl (by decide) rfl (fun ls hl => ?_)
    have L1 : ∀ (fuel : Nat) (v1 : Int32) (S2 : QS), lp_X6_counts_2 a1 fuel v1 S2 = some o → ∀ (H : Heap) (locs : List Loc) (ls : Array Slot), va_P D vwCl (wd ca ad S2) H → va_S (Aq ad s.heap.size) s.heap H locs → lv_has ls 6 [(0, .ref (ad 48)), (1, .int a1), (2, .int v1)] → W p l e rm_X6_counts s m args below meth c H locs 0 0 (Zv below D ca ad args s o) (F0 m 2 ls []) := by
      intro fuel
      induction fuel with
      | zero =>
        intro v1 S2 hf
        simp [lp_X6_counts_2] at hf
      | succ fuel ih =>
        intro v1 S2 hf H locs ls hP hS hl
        rw [lp_X6_counts_2] at hf
        refine lv_iload_n hx hb dX6_counts_2 rfl (lv_at hl 2 rfl) ?_
        refine lv_iconst (v := 2) hx hb dX6_counts_3 (by decide) ?_
        refine lv_icmp_ge (tgt := 152) hx hb dX6_counts_4 (by decide) (fun w => ?_) (fun w => ?_)
        · have hf := if_t w hf
          obtain rfl := Option.some.inj hf
          exact r_vret hx hb hr hP hS dX6_counts_152 hlocks
        · have hf := if_f w hf
          refine lv_bipush (v := (-50)) hx hb dX6_counts_7 (by decide) ?_
          refine lv_istore_n (lv' := [(3, .int (-50)), (0, .ref (ad 48)), (1, .int a1), (2, .int v1)]) hx hb dX6_counts_9 rfl hl (by decide) rfl (fun ls hl => ?_)
          obtain ⟨q5, hq5, hf⟩ := bd_e hf
          have J2 : ∀ (H : Heap) (locs : List Loc) (ls : Array Slot), va_P D vwCl (wd ca ad q5) H → va_S (Aq ad s.heap.size) s.heap H locs → lv_has ls 6 [(0, .ref (ad 48)), (1, .int a1), (2, .int v1)] → W p l e rm_X6_counts s m args below meth c H locs 0 0 (Zv below D ca ad args s o) (F0 m 146 ls []) := by
            intro H locs ls hP hS hl
            refine lv_iinc (v := (v1 + 1)) (lv' := [(2, .int (v1 + 1)), (0, .ref (ad 48)), (1, .int a1)]) hx hb dX6_counts_146 hl (k := 2) rfl rfl (by decide) rfl (fun ls hl => ?_)
            refine lv_goto (tgt := 2) hx hb dX6_counts_149 (by decide) ?_
            exact ih _ _ hf _ _ _ hP hS (lv_sub hl [1, 2, 0] rfl)
          replace hf := hq5
          have L2 : ∀ (fuel : Nat) (v3 : Int32) (S4 : QS), lp_X6_counts_10 a1 v1 fuel v3 S4 = some q5 → ∀ (H : Heap) (locs : List Loc) (ls : Array Slot), va_P D vwCl (wd ca ad S4) H → va_S (Aq ad s.heap.size) s.heap H locs → lv_has ls 6 [(0, .ref (ad 48)), (1, .int a1), (2, .int v1), (3, .int v3)] → W p l e rm_X6_counts s m args below meth c H locs 0 0 (Zv below D ca ad args s o) (F0 m 10 ls []) := by
            intro fuel
            induction fuel with
            | zero =>
              intro v3 S4 hf
              simp [lp_X6_counts_10] at hf
            | succ fuel ih =>
              intro v3 S4 hf H locs ls hP hS hl
              rw [lp_X6_counts_10] at hf
              refine lv_iload_n hx hb dX6_counts_10 rfl (lv_at hl 3 rfl) ?_
              refine lv_bipush (v := 50) hx hb dX6_counts_11 (by decide) ?_
              refine lv_icmp_gt (tgt := 146) hx hb dX6_counts_13 (by decide) (fun w => ?_) (fun w => ?_)
              · have hf := if_t w hf
                obtain rfl := Option.some.inj hf
                exact J2 _ _ _ hP hS (lv_sub hl [0, 1, 2] rfl)
              · have hf := if_f w hf
                refine lv_iconst (v := 0) hx hb dX6_counts_16 (by decide) ?_
                refine lv_istore (lv' := [(4, .int 0), (0, .ref (ad 48)), (1, .int a1), (2, .int v1), (3, .int v3)]) hx hb dX6_counts_17 hl (by decide) rfl (fun ls hl => ?_)
                refine lv_bipush (v := (-50)) hx hb dX6_counts_19 (by decide) ?_
                refine lv_istore (lv' := [(5, .int (-50)), (4, .int 0), (0, .ref (ad 48)), (1, .int a1), (2, .int v1), (3, .int v3)]) hx hb dX6_counts_21 hl (by decide) rfl (fun ls hl => ?_)
                obtain ⟨q8, hq8, hf⟩ := bd_e hf
                have J3 : ∀ (H : Heap) (locs : List Loc) (ls : Array Slot), va_P D vwCl (wd ca ad S4) H → va_S (Aq ad s.heap.size) s.heap H locs → lv_has ls 6 [(0, .ref (ad 48)), (1, .int a1), (2, .int v1), (3, .int v3), (4, .int q8)] → W p l e rm_X6_counts s m args below meth c H locs 0 0 (Zv below D ca ad args s o) (F0 m 75 ls []) := by
                  intro H locs ls hP hS hl
                  refine lv_aload_n hx hb dX6_counts_75 rfl (lv_at hl 0 rfl) ?_
                  refine g_X6_firsts hx hb hX6 hown hKK hP (show qk 48 = 6 from rfl) K50 dX6_counts_76 ?_
                  refine lv_bipush (v := 101) hx hb dX6_counts_79 (by decide) ?_
                  refine lv_iload_n hx hb dX6_counts_81 rfl (lv_at hl 2 rfl) ?_
                  refine lv_imul hx hb dX6_counts_82 ?_
                  refine lv_iload_n hx hb dX6_counts_83 rfl (lv_at hl 3 rfl) ?_
                  refine lv_iadd hx hb dX6_counts_84 ?_
                  refine lv_bipush (v := 50) hx hb dX6_counts_85 (by decide) ?_
                  refine lv_iadd hx hb dX6_counts_87 ?_
                  refine lv_iload hx hb dX6_counts_88 (lv_at hl 4 rfl) ?_
                  obtain ⟨S16, h17, hf⟩ := bd_e hf
                  refine r_iast hx hb hj hKK hP hS (show qk 62 = 7 from rfl) (show qn 62 = 202 from rfl) h17 dX6_counts_90 (fun H locs hP hS => ?_)
                  refine lv_iconst (v := 3) hx hb dX6_counts_91 (by decide) ?_
                  refine lv_iload_n hx hb dX6_counts_92 rfl (lv_at hl 2 rfl) ?_
                  refine lv_imul hx hb dX6_counts_93 ?_
                  refine lv_iconst (v := 2) hx hb dX6_counts_94 (by decide) ?_
                  refine lv_iadd hx hb dX6_counts_95 ?_
                  refine lv_iload_n hx hb dX6_counts_96 rfl (lv_at hl 3 rfl) ?_
                  obtain ⟨v19, h18, hf⟩ := bd_e hf
                  refine r_ci hS (va_runS (As := [.int ((3 * v1) + 2), .int v3]) (rest := []) ⟨hx, hb, hml, hown, hts⟩ (m_X6_cell l D ca ad hj ((3 * v1) + 2) v3 S16 _ h18 H.size) (cwS 2 hts gX6_counts_X6_cell rfl rfl rfl (by decide +kernel) ⟨Nat.le_of_ble_eq_true rfl, Nat.le_of_ble_eq_true rfl⟩) (r_pre hKK hP) rfl rfl hl.1 rfl (lv_room (Nat.le_of_ble_eq_true rfl)) dX6_counts_97 ⟨Nat.le_of_ble_eq_true rfl, Nat.le_of_ble_eq_true rfl⟩) (fun H locs hP hS => ?_)
                  refine lv_istore (lv' := [(5, .int v19), (0, .ref (ad 48)), (1, .int a1), (2, .int v1), (3, .int v3), (4, .int q8)]) hx hb dX6_counts_100 hl (by decide) rfl (fun ls hl => ?_)
                  refine lv_aload_n hx hb dX6_counts_102 rfl (lv_at hl 1 rfl) ?_
                  refine g_X6_isLet hx hb hX6 hown hKK hP (show qk 48 = 6 from rfl) K44 dX6_counts_103 ?_
                  refine lv_iload hx hb dX6_counts_106 (lv_at hl 0 rfl) ?_
                  refine lv_aload_n hx hb dX6_counts_108 rfl (lv_at hl 1 rfl) ?_
                  refine g_X6_isLet hx hb hX6 hown hKK hP (show qk 48 = 6 from rfl) K44 dX6_counts_109 ?_
                  refine lv_iload hx hb dX6_counts_112 (lv_at hl 0 rfl) ?_
                  obtain ⟨v20, h21, hf⟩ := bd_e hf
                  refine r_zald hx hb hKK hP (show qk 60 = 8 from rfl) (show qn 60 = 606 from rfl) h21 dX6_counts_114 ?_
                  obtain ⟨q22, hq22, hf⟩ := bd_e hf
                  have J5 : ∀ (H : Heap) (locs : List Loc) (ls : Array Slot), va_P D vwCl (wd ca ad S16) H → va_S (Aq ad s.heap.size) s.heap H locs → lv_has ls 6 [(0, .ref (ad 48)), (1, .int a1), (2, .int v1), (3, .int v3)] → W p l e rm_X6_counts s m args below meth c H locs 0 0 (Zv below D ca ad args s o) (F0 m 139 ls [.int q22, .int v19, .ref (ad 60)]) := by
                    intro H locs ls hP hS hl
                    obtain ⟨S25, h26, hf⟩ := bd_e hf
                    refine r_zast hx hb hj hKK hP hS (show qk 60 = 8 from rfl) (show qn 60 = 606 from rfl) h26 dX6_counts_139 (fun H locs hP hS => ?_)
                    refine lv_iinc (v := (v3 + 1)) (lv' := [(3, .int (v3 + 1)), (0, .ref (ad 48)), (1, .int a1), (2, .int v1)]) hx hb dX6_counts_140 hl (k := 3) rfl rfl (by decide) rfl (fun ls hl => ?_)
                    refine lv_goto (tgt := 10) hx hb dX6_counts_143 (by decide) ?_
                    exact ih _ _ hf _ _ _ hP hS (lv_sub hl [1, 2, 3, 0] rfl)
                  replace hf := hq22
                  refine lv_if_eq (tgt := 138) hx hb dX6_counts_115 (by decide) (fun w => ?_) (fun w => ?_)
                  · have hf := if_t w hf
                    refine lv_iconst (v := 0) hx hb dX6_counts_138 (by decide) ?_
                    obtain rfl := Option.some.inj hf
                    exact J5 _ _ _ hP hS (lv_sub hl [1, 2, 3, 4] rfl)
                  · have hf := if_f w hf
                    refine lv_aload_n hx hb dX6_counts_118 rfl (lv_at hl 1 rfl) ?_
                    refine lv_iload_n hx hb dX6_counts_119 rfl (lv_at hl 3 rfl) ?_
                    refine lv_iconst (v := 1) hx hb dX6_counts_120 (by decide) ?_
                    refine lv_bipush (v := 51) hx hb dX6_counts_121 (by decide) ?_
                    refine lv_iload_n hx hb dX6_counts_123 rfl (lv_at hl 4 rfl) ?_
                    refine lv_imul hx hb dX6_counts_124 ?_
                    refine lv_iload_n hx hb dX6_counts_125 rfl (lv_at hl 4 rfl) ?_
                    refine lv_imul hx hb dX6_counts_126 ?_
                    refine lv_iload_n hx hb dX6_counts_127 rfl (lv_at hl 2 rfl) ?_
                    obtain ⟨v24, h23, hf⟩ := bd_e hf
                    refine r_ci hS (va_runV (As := [.int v1, .int 1, .int ((51 * v3) * v3), .int a1]) (rest := [.int v19, .ref (ad 60)]) ⟨hx, hb, hml, hown, hts⟩ (m_X6_takes l D ca ad hj v1 1 ((51 * v3) * v3) a1 S16 _ h23 H.size) (cwV 4 hts gX6_counts_X6_takes rfl rfl rfl (by decide +kernel) ⟨Nat.le_of_ble_eq_true rfl, Nat.le_of_ble_eq_true rfl⟩) (r_preV hKK hP (show qk 48 = 6 from rfl) rfl) rfl rfl hl.1 rfl (lv_room (Nat.le_of_ble_eq_true rfl)) dX6_counts_128 ⟨Nat.le_of_ble_eq_true rfl, Nat.le_of_ble_eq_true rfl⟩) (fun H locs hP hS => ?_)
                    refine lv_if_eq (tgt := 138) hx hb dX6_counts_131 (by decide) (fun w => ?_) (fun w => ?_)
                    · have hf := if_t w hf
                      refine lv_iconst (v := 0) hx hb dX6_counts_138 (by decide) ?_
                      obtain rfl := Option.some.inj hf
                      exact J5 _ _ _ hP hS (lv_sub hl [1, 2, 3, 4] rfl)
                    · have hf := if_f w hf
                      refine lv_iconst (v := 1) hx hb dX6_counts_134 (by decide) ?_
                      refine lv_goto (tgt := 139) hx hb dX6_counts_135 (by decide) ?_
                      obtain rfl := Option.some.inj hf
                      exact J5 _ _ _ hP hS (lv_sub hl [1, 2, 3, 4] rfl)
                replace hf := hq8
                have L3 : ∀ (fuel : Nat) (v6 : Int32) (v7 : Int32), lp_X6_counts_23 a1 v1 v3 S4 fuel v6 v7 = some q8 → ∀ (H : Heap) (locs : List Loc) (ls : Array Slot), va_P D vwCl (wd ca ad S4) H → va_S (Aq ad s.heap.size) s.heap H locs → lv_has ls 6 [(0, .ref (ad 48)), (1, .int a1), (2, .int v1), (3, .int v3), (4, .int v6), (5, .int v7)] → W p l e rm_X6_counts s m args below meth c H locs 0 0 (Zv below D ca ad args s o) (F0 m 23 ls []) := by
                  intro fuel
                  induction fuel with
                  | zero =>
                    intro v6 v7 hf
                    simp [lp_X6_counts_23] at hf
                  | succ fuel ih =>
                    intro v6 v7 hf H locs ls hP hS hl
                    rw [lp_X6_counts_23] at hf
                    refine lv_iload hx hb dX6_counts_23 (lv_at hl 5 rfl) ?_
                    refine lv_bipush (v := 50) hx hb dX6_counts_25 (by decide) ?_
                    refine lv_icmp_gt (tgt := 75) hx hb dX6_counts_27 (by decide) (fun w => ?_) (fun w => ?_)
                    · have hf := if_t w hf
                      obtain rfl := Option.some.inj hf
                      exact J3 _ _ _ hP hS (lv_sub hl [0, 1, 2, 3, 4] rfl)
                    · have hf := if_f w hf
                      refine lv_aload_n hx hb dX6_counts_30 rfl (lv_at hl 0 rfl) ?_
                      refine g_X6_isLet hx hb hX6 hown hKK hP (show qk 48 = 6 from rfl) K44 dX6_counts_31 ?_
                      refine lv_iconst (v := 3) hx hb dX6_counts_34 (by decide) ?_
                      refine lv_iload_n hx hb dX6_counts_35 rfl (lv_at hl 2 rfl) ?_
                      refine lv_imul hx hb dX6_counts_36 ?_
                      refine lv_iconst (v := 1) hx hb dX6_counts_37 (by decide) ?_
                      refine lv_iadd hx hb dX6_counts_38 ?_
                      refine lv_iload_n hx hb dX6_counts_39 rfl (lv_at hl 3 rfl) ?_
                      obtain ⟨v10, h9, hf⟩ := bd_e hf
                      refine r_ci hS (va_runS (As := [.int ((3 * v1) + 1), .int v3]) (rest := [.ref (ad 60)]) ⟨hx, hb, hml, hown, hts⟩ (m_X6_cell l D ca ad hj ((3 * v1) + 1) v3 S4 _ h9 H.size) (cwS 2 hts gX6_counts_X6_cell rfl rfl rfl (by decide +kernel) ⟨Nat.le_of_ble_eq_true rfl, Nat.le_of_ble_eq_true rfl⟩) (r_pre hKK hP) rfl rfl hl.1 rfl (lv_room (Nat.le_of_ble_eq_true rfl)) dX6_counts_40 ⟨Nat.le_of_ble_eq_true rfl, Nat.le_of_ble_eq_true rfl⟩) (fun H locs hP hS => ?_)
                      obtain ⟨v11, h12, hf⟩ := bd_e hf
                      refine r_zald hx hb hKK hP (show qk 60 = 8 from rfl) (show qn 60 = 606 from rfl) h12 dX6_counts_43 ?_
                      refine lv_if_eq (tgt := 75) hx hb dX6_counts_44 (by decide) (fun w => ?_) (fun w => ?_)
                      · have hf := if_t w hf
                        obtain rfl := Option.some.inj hf
                        exact J3 _ _ _ hP hS (lv_sub hl [0, 1, 2, 3, 4] rfl)
                      · have hf := if_f w hf
                        refine lv_iload hx hb dX6_counts_47 (lv_at hl 4 rfl) ?_
                        refine lv_aload_n hx hb dX6_counts_49 rfl (lv_at hl 0 rfl) ?_
                        refine lv_iload_n hx hb dX6_counts_50 rfl (lv_at hl 2 rfl) ?_
                        refine lv_iload hx hb dX6_counts_51 (lv_at hl 5 rfl) ?_
                        refine lv_iload_n hx hb dX6_counts_53 rfl (lv_at hl 3 rfl) ?_
                        refine lv_iload_n hx hb dX6_counts_54 rfl (lv_at hl 1 rfl) ?_
                        obtain ⟨v14, h13, hf⟩ := bd_e hf
                        refine r_ci hS (va_runV (As := [.int v1, .int v7, .int v3, .int a1]) (rest := [.int v6]) ⟨hx, hb, hml, hown, hts⟩ (m_X6_isFirst l D ca ad hj v1 v7 v3 a1 S4 _ h13 H.size) (cwV 4 hts gX6_counts_X6_isFirst rfl rfl rfl (by decide +kernel) ⟨Nat.le_of_ble_eq_true rfl, Nat.le_of_ble_eq_true rfl⟩) (r_preV hKK hP (show qk 48 = 6 from rfl) rfl) rfl rfl hl.1 rfl (lv_room (Nat.le_of_ble_eq_true rfl)) dX6_counts_55 ⟨Nat.le_of_ble_eq_true rfl, Nat.le_of_ble_eq_true rfl⟩) (fun H locs hP hS => ?_)
                        obtain ⟨q15, hq15, hf⟩ := bd_e hf
                        have J4 : ∀ (H : Heap) (locs : List Loc) (ls : Array Slot), va_P D vwCl (wd ca ad S4) H → va_S (Aq ad s.heap.size) s.heap H locs → lv_has ls 6 [(0, .ref (ad 48)), (1, .int a1), (2, .int v1), (3, .int v3), (5, .int v7)] → W p l e rm_X6_counts s m args below meth c H locs 0 0 (Zv below D ca ad args s o) (F0 m 66 ls [.int q15, .int v6]) := by
                          intro H locs ls hP hS hl
                          refine lv_iadd hx hb dX6_counts_66 ?_
                          refine lv_istore (lv' := [(4, .int (v6 + q15)), (0, .ref (ad 48)), (1, .int a1), (2, .int v1), (3, .int v3), (5, .int v7)]) hx hb dX6_counts_67 hl (by decide) rfl (fun ls hl => ?_)
                          refine lv_iinc (v := (v7 + 1)) (lv' := [(5, .int (v7 + 1)), (4, .int (v6 + q15)), (0, .ref (ad 48)), (1, .int a1), (2, .int v1), (3, .int v3)]) hx hb dX6_counts_69 hl (k := 5) rfl rfl (by decide) rfl (fun ls hl => ?_)
                          refine lv_goto (tgt := 23) hx hb dX6_counts_72 (by decide) ?_
                          exact ih _ _ hf _ _ _ hP hS (lv_sub hl [2, 3, 4, 5, 1, 0] rfl)
                        replace hf := hq15
                        refine lv_if_eq (tgt := 65) hx hb dX6_counts_58 (by decide) (fun w => ?_) (fun w => ?_)
                        · have hf := if_t w hf
                          refine lv_iconst (v := 0) hx hb dX6_counts_65 (by decide) ?_
                          obtain rfl := Option.some.inj hf
                          exact J4 _ _ _ hP hS (lv_sub hl [0, 1, 2, 3, 5] rfl)
                        · have hf := if_f w hf
                          refine lv_iconst (v := 1) hx hb dX6_counts_61 (by decide) ?_
                          refine lv_goto (tgt := 66) hx hb dX6_counts_62 (by decide) ?_
                          obtain rfl := Option.some.inj hf
                          exact J4 _ _ _ hP hS (lv_sub hl [0, 1, 2, 3, 5] rfl)
                exact L3 _ _ _ hf _ _ _ hP hS (lv_sub hl [2, 3, 4, 5, 1, 0] rfl)
          exact L2 _ _ _ hf _ _ _ hP hS (lv_sub hl [1, 2, 3, 0] rfl)
    exact L1 _ _ _ hf _ _ _ hP hS (lv_sub hl [1, 2, 0] rfl)
  exact main s.heap [] ls hP va_S.rf hl
def rm_X6_masks : Room := { frames := 0, cells := 0, slots := 0, locals := 0 }
set_option maxRecDepth 100000 in
set_option maxHeartbeats 4000000 in
theorem m_X6_masks (l : Launch) (D : va_G) (ca : Nat → ClassId) (ad : Nat → Nat) (hj : Inj ad) (a1 : Int32) (a2 : Int32) (a3 : Int32) (S : QS) (o : QS) (hf : f_X6_masks a1 a2 a3 S = some o) : Cv l D ca ad yX6_masks wsX6_masks rm_X6_masks [.ref (ad 48), .int a1, .int a2, .int a3] S o := by
  intro sz
  refine Met.ofW (cc := cX6_masks) (maxL := 8) (ret := none) (by decide) rfl ?_
  intro p e s m args below meth c s₁ B hml hv
  obtain ⟨hav, hsz, hP, hKK⟩ := hv
  have hx := B.exec
  have hb := B.bytes
  have hr := B.returns
  have hts := atoms_spec (ws := wsX6_masks) B.pre
  have hown : s.vm.findClass RX6 = some m.cls := findClass_of_methodNamed B.named
  have hlocks := B.notSynchronized
  subst hsz
  have hX6 : ∀ w ∈ wsX60, w.before _ s = true := fun w h => hts w (List.mem_cons_of_mem _ (List.mem_append_right _ h))
  have K53 := hts (Cond.fieldLink RX6 53 "CrashDeskModel" "isMask" "[Z") (List.mem_cons_of_mem _ (List.mem_append_left _ (List.mem_of_getElem? (i := 1) rfl)))
  have K60 := hts (Cond.fieldLink RX6 60 "CrashDeskModel" "made" "[I") (List.mem_cons_of_mem _ (List.mem_append_left _ (List.mem_of_getElem? (i := 2) rfl)))
  have K63 := hts (Cond.fieldLink RX6 63 "CrashDeskModel" "mades" "[I") (List.mem_cons_of_mem _ (List.mem_append_left _ (List.mem_of_getElem? (i := 0) rfl)))
  have hl := lv_entry [.ref (ad 48), .int a1, .int a2, .int a3] (n := 8) (Nat.le_of_ble_eq_true rfl)
  rw [show entryFrame m args 8 = entryFrame m ([.ref (ad 48), .int a1, .int a2, .int a3] : List Value).toArray 8 by rw [hav], lg_entry_eq]
  generalize (lg_sl [.ref (ad 48), .int a1, .int a2, .int a3] ++ List.replicate (8 - (lg_sl [.ref (ad 48), .int a1, .int a2, .int a3]).length) Slot.unset).toArray = ls at hl ⊢
  have hl : lv_has ls 8 [(0, .ref (ad 48)), (1, .int a1), (2, .int a2), (3, .int a3)] := hl
  have main : ∀ (H : Heap) (locs : List Loc) (ls : Array Slot), va_P D vwCl (wd ca ad S) H → va_S (Aq ad s.heap.size) s.heap H locs → lv_has ls 8 [(0, .ref (ad 48)), (1, .int a1), (2, .int a2), (3, .int a3)] → W p l e rm_X6_masks s m args below meth c H locs 0 0 (Zv below D ca ad args s o) (F0 m 0 ls []) := by
    intro H locs ls hP hS hl
    unfold f_X6_masks at hf
    refine lv_iload_n hx hb dX6_masks_0 rfl (lv_at hl 1 rfl) ?_
    refine lv_bipush (v := 50) hx hb dX6_masks_1 (by decide) ?_
    refine lv_iadd hx hb dX6_masks_3 ?_
    refine lv_istore (lv' := [(4, .int (a1 + 50)), (0, .ref (ad 48)), (1, .int a1), (2, .int a2), (3, .int a3)]) hx hb dX6_masks_4 hl (by decide) rfl (fun ls hl => ?_)
    refine lv_bipush (v := 101) hx hb dX6_masks_6 (by decide) ?_
    refine lv_iload_n hx hb dX6_masks_8 rfl (lv_at hl 3 rfl) ?_
    refine lv_iadd hx hb dX6_masks_9 ?_
    refine lv_bipush (v := 50) hx hb dX6_masks_10 (by decide) ?_
    refine lv_iadd hx hb dX6_masks_12 ?_
    refine lv_istore (lv' := [(5, .int ((101 + a2) + 50)), (4, .int (a1 + 50)), (0, .ref (ad 48)), (1, .int a1), (2, .int a2), (3, .int a3)]) hx hb dX6_masks_13 hl (by decide) rfl (fun ls hl => ?_)
    refine lv_iconst (v := 0) hx hb dX6_masks_15 (by decide) ?_
    refine lv_istore (lv' := [(6, .int 0), (5, .int ((101 + a2) + 50)), (4, .int (a1 + 50)), (0, .ref (ad 48)), (1, .int a1), (2, .int a2), (3, .int a3)]) hx hb dX6_masks_16 hl (by decide) rfl (fun ls hl => ?_)
    have L1 : ∀ (fuel : Nat) (v1 : Int32) (S2 : QS), lp_X6_masks_18 a1 a2 a3 fuel v1 S2 = some o → ∀ (H : Heap) (locs : List Loc) (ls : Array Slot), va_P D vwCl (wd ca ad S2) H → va_S (Aq ad s.heap.size) s.heap H locs → lv_has ls 8 [(0, .ref (ad 48)), (3, .int a3), (4, .int (a1 + 50)), (5, .int ((101 + a2) + 50)), (6, .int v1)] → W p l e rm_X6_masks s m args below meth c H locs 0 0 (Zv below D ca ad args s o) (F0 m 18 ls []) := by
      intro fuel
      induction fuel with
      | zero =>
        intro v1 S2 hf
        simp [lp_X6_masks_18] at hf
      | succ fuel ih =>
        intro v1 S2 hf H locs ls hP hS hl
        rw [lp_X6_masks_18] at hf
        refine lv_iload hx hb dX6_masks_18 (lv_at hl 4 rfl) ?_
        refine lv_aload_n hx hb dX6_masks_20 rfl (lv_at hl 0 rfl) ?_
        refine g_X6_mades hx hb hX6 hown hKK hP (show qk 48 = 6 from rfl) K63 dX6_masks_21 ?_
        refine lv_iload hx hb dX6_masks_24 (lv_at hl 2 rfl) ?_
        obtain ⟨v3, h4, hf⟩ := bd_e hf
        refine r_iald hx hb hKK hP (show qk 66 = 7 from rfl) (show qn 66 = 202 from rfl) h4 dX6_masks_26 ?_
        refine lv_icmp_ge (tgt := 92) hx hb dX6_masks_27 (by decide) (fun w => ?_) (fun w => ?_)
        · have hf := if_t w hf
          obtain rfl := Option.some.inj hf
          exact r_vret hx hb hr hP hS dX6_masks_92 hlocks
        · have hf := if_f w hf
          refine lv_iconst (v := 0) hx hb dX6_masks_30 (by decide) ?_
          refine lv_istore (lv' := [(7, .int 0), (0, .ref (ad 48)), (3, .int a3), (4, .int (a1 + 50)), (5, .int ((101 + a2) + 50)), (6, .int v1)]) hx hb dX6_masks_31 hl (by decide) rfl (fun ls hl => ?_)
          obtain ⟨q7, hq7, hf⟩ := bd_e hf
          have J2 : ∀ (H : Heap) (locs : List Loc) (ls : Array Slot), va_P D vwCl (wd ca ad q7) H → va_S (Aq ad s.heap.size) s.heap H locs → lv_has ls 8 [(0, .ref (ad 48)), (3, .int a3), (4, .int (a1 + 50)), (5, .int ((101 + a2) + 50)), (6, .int v1)] → W p l e rm_X6_masks s m args below meth c H locs 0 0 (Zv below D ca ad args s o) (F0 m 86 ls []) := by
            intro H locs ls hP hS hl
            refine lv_iinc (v := (v1 + 1)) (lv' := [(6, .int (v1 + 1)), (0, .ref (ad 48)), (3, .int a3), (4, .int (a1 + 50)), (5, .int ((101 + a2) + 50))]) hx hb dX6_masks_86 hl (k := 4) rfl rfl (by decide) rfl (fun ls hl => ?_)
            refine lv_goto (tgt := 18) hx hb dX6_masks_89 (by decide) ?_
            exact ih _ _ hf _ _ _ hP hS (lv_sub hl [1, 2, 3, 4, 0] rfl)
          replace hf := hq7
          have L2 : ∀ (fuel : Nat) (v5 : Int32) (S6 : QS), lp_X6_masks_33 a1 a2 a3 v1 fuel v5 S6 = some q7 → ∀ (H : Heap) (locs : List Loc) (ls : Array Slot), va_P D vwCl (wd ca ad S6) H → va_S (Aq ad s.heap.size) s.heap H locs → lv_has ls 8 [(0, .ref (ad 48)), (3, .int a3), (4, .int (a1 + 50)), (5, .int ((101 + a2) + 50)), (6, .int v1), (7, .int v5)] → W p l e rm_X6_masks s m args below meth c H locs 0 0 (Zv below D ca ad args s o) (F0 m 33 ls []) := by
            intro fuel
            induction fuel with
            | zero =>
              intro v5 S6 hf
              simp [lp_X6_masks_33] at hf
            | succ fuel ih =>
              intro v5 S6 hf H locs ls hP hS hl
              rw [lp_X6_masks_33] at hf
              refine lv_iload hx hb dX6_masks_33 (lv_at hl 5 rfl) ?_
              refine lv_aload_n hx hb dX6_masks_35 rfl (lv_at hl 0 rfl) ?_
              refine g_X6_mades hx hb hX6 hown hKK hP (show qk 48 = 6 from rfl) K63 dX6_masks_36 ?_
              refine lv_iload hx hb dX6_masks_39 (lv_at hl 3 rfl) ?_
              obtain ⟨v8, h9, hf⟩ := bd_e hf
              refine r_iald hx hb hKK hP (show qk 66 = 7 from rfl) (show qn 66 = 202 from rfl) h9 dX6_masks_41 ?_
              refine lv_icmp_ge (tgt := 86) hx hb dX6_masks_42 (by decide) (fun w => ?_) (fun w => ?_)
              · have hf := if_t w hf
                obtain rfl := Option.some.inj hf
                exact J2 _ _ _ hP hS (lv_sub hl [0, 1, 2, 3, 4] rfl)
              · have hf := if_f w hf
                refine lv_aload_n hx hb dX6_masks_45 rfl (lv_at hl 0 rfl) ?_
                refine g_X6_isMask hx hb hX6 hown hKK hP (show qk 48 = 6 from rfl) K53 dX6_masks_46 ?_
                refine lv_aload_n hx hb dX6_masks_49 rfl (lv_at hl 0 rfl) ?_
                refine g_X6_made hx hb hX6 hown hKK hP (show qk 48 = 6 from rfl) K60 dX6_masks_50 ?_
                refine lv_bipush (v := 101) hx hb dX6_masks_53 (by decide) ?_
                refine lv_iload hx hb dX6_masks_55 (lv_at hl 2 rfl) ?_
                refine lv_imul hx hb dX6_masks_57 ?_
                refine lv_iload hx hb dX6_masks_58 (lv_at hl 4 rfl) ?_
                refine lv_iadd hx hb dX6_masks_60 ?_
                obtain ⟨v10, h11, hf⟩ := bd_e hf
                refine r_iald hx hb hKK hP (show qk 65 = 7 from rfl) (show qn 65 = 20402 from rfl) h11 dX6_masks_61 ?_
                refine lv_aload_n hx hb dX6_masks_62 rfl (lv_at hl 0 rfl) ?_
                refine g_X6_made hx hb hX6 hown hKK hP (show qk 48 = 6 from rfl) K60 dX6_masks_63 ?_
                refine lv_bipush (v := 101) hx hb dX6_masks_66 (by decide) ?_
                refine lv_iload hx hb dX6_masks_68 (lv_at hl 3 rfl) ?_
                refine lv_imul hx hb dX6_masks_70 ?_
                refine lv_iload hx hb dX6_masks_71 (lv_at hl 5 rfl) ?_
                refine lv_iadd hx hb dX6_masks_73 ?_
                obtain ⟨v12, h13, hf⟩ := bd_e hf
                refine r_iald hx hb hKK hP (show qk 65 = 7 from rfl) (show qn 65 = 20402 from rfl) h13 dX6_masks_74 ?_
                refine lv_ior hx hb dX6_masks_75 ?_
                refine lv_iload_n hx hb dX6_masks_76 rfl (lv_at hl 1 rfl) ?_
                refine lv_ior hx hb dX6_masks_77 ?_
                refine lv_iconst (v := 1) hx hb dX6_masks_78 (by decide) ?_
                obtain ⟨S14, h15, hf⟩ := bd_e hf
                refine r_zast hx hb hj hKK hP hS (show qk 63 = 8 from rfl) (show qn 63 = 1024 from rfl) h15 dX6_masks_79 (fun H locs hP hS => ?_)
                refine lv_iinc (v := (v5 + 1)) (lv' := [(7, .int (v5 + 1)), (0, .ref (ad 48)), (3, .int a3), (4, .int (a1 + 50)), (5, .int ((101 + a2) + 50)), (6, .int v1)]) hx hb dX6_masks_80 hl (k := 5) rfl rfl (by decide) rfl (fun ls hl => ?_)
                refine lv_goto (tgt := 33) hx hb dX6_masks_83 (by decide) ?_
                exact ih _ _ hf _ _ _ hP hS (lv_sub hl [1, 2, 3, 4, 5, 0] rfl)
          exact L2 _ _ _ hf _ _ _ hP hS (lv_sub hl [1, 2, 3, 4, 5, 0] rfl)
    exact L1 _ _ _ hf _ _ _ hP hS (lv_sub hl [3, 6, 2, 1, 0] rfl)
  exact main s.heap [] ls hP va_S.rf hl
def rm_X6_mass : Room := { frames := 2, cells := 0, slots := 0, locals := 42 }
set_option maxRecDepth 100000 in
set_option maxHeartbeats 4000000 in
theorem m_X6_mass (l : Launch) (D : va_G) (ca : Nat → ClassId) (ad : Nat → Nat) (hj : Inj ad) (a1 : Int32) (a2 : Int32) (S : QS) (o : QS) (hf : f_X6_mass a1 a2 S = some o) : Cv l D ca ad yX6_mass wsX6_mass rm_X6_mass [.ref (ad 48), .int a1, .int a2] S o := by
  intro sz
  refine Met.ofW (cc := cX6_mass) (maxL := 3) (ret := none) (by decide) rfl ?_
  intro p e s m args below meth c s₁ B hml hv
  obtain ⟨hav, hsz, hP, hKK⟩ := hv
  have hx := B.exec
  have hb := B.bytes
  have hr := B.returns
  have hts := atoms_spec (ws := wsX6_mass) B.pre
  have hown : s.vm.findClass RX6 = some m.cls := findClass_of_methodNamed B.named
  have hlocks := B.notSynchronized
  subst hsz
  have hX6 : ∀ w ∈ wsX60, w.before _ s = true := fun w h => hts w (List.mem_cons_of_mem _ (List.mem_append_right _ h))
  have K7 := hts (Cond.fieldLink RX6 7 "CrashDeskModel" "mass" "[I") (List.mem_cons_of_mem _ (List.mem_append_left _ (List.mem_of_getElem? (i := 1) rfl)))
  have K66 := hts (Cond.fieldLink RX6 66 "CrashDeskModel" "thrown" "I") (List.mem_cons_of_mem _ (List.mem_append_left _ (List.mem_of_getElem? (i := 0) rfl)))
  have hl := lv_entry [.ref (ad 48), .int a1, .int a2] (n := 3) (Nat.le_of_ble_eq_true rfl)
  rw [show entryFrame m args 3 = entryFrame m ([.ref (ad 48), .int a1, .int a2] : List Value).toArray 3 by rw [hav], lg_entry_eq]
  generalize (lg_sl [.ref (ad 48), .int a1, .int a2] ++ List.replicate (3 - (lg_sl [.ref (ad 48), .int a1, .int a2]).length) Slot.unset).toArray = ls at hl ⊢
  have hl : lv_has ls 3 [(0, .ref (ad 48)), (1, .int a1), (2, .int a2)] := hl
  have main : ∀ (H : Heap) (locs : List Loc) (ls : Array Slot), va_P D vwCl (wd ca ad S) H → va_S (Aq ad s.heap.size) s.heap H locs → lv_has ls 3 [(0, .ref (ad 48)), (1, .int a1), (2, .int a2)] → W p l e rm_X6_mass s m args below meth c H locs 0 0 (Zv below D ca ad args s o) (F0 m 0 ls []) := by
    intro H locs ls hP hS hl
    unfold f_X6_mass at hf
    refine lv_aload_n hx hb dX6_mass_0 rfl (lv_at hl 0 rfl) ?_
    refine lv_iconst (v := 0) hx hb dX6_mass_1 (by decide) ?_
    obtain ⟨S1, h2, hf⟩ := bd_e hf
    obtain rfl := Option.some.inj h2
    refine p_X6_thrown hx hb hX6 hown hj hKK hP hS (show qk 48 = 6 from rfl) K66 dX6_mass_2 (fun H locs hP hS => ?_)
    refine lv_aload_n hx hb dX6_mass_5 rfl (lv_at hl 0 rfl) ?_
    refine lv_iload_n hx hb dX6_mass_6 rfl (lv_at hl 1 rfl) ?_
    obtain ⟨v4, h3, hf⟩ := bd_e hf
    refine r_ci hS (va_runS (As := [.int a1]) (rest := [.ref (ad 48)]) ⟨hx, hb, hml, hown, hts⟩ (m_X6_noCar l D ca ad hj a1 (setF 48 0 0 S) _ h3 H.size) (cwS 1 hts gX6_mass_X6_noCar rfl rfl rfl (by decide +kernel) ⟨Nat.le_of_ble_eq_true rfl, Nat.le_of_ble_eq_true rfl⟩) (r_pre hKK hP) rfl rfl hl.1 rfl (lv_room (Nat.le_of_ble_eq_true rfl)) dX6_mass_7 ⟨Nat.le_of_ble_eq_true rfl, Nat.le_of_ble_eq_true rfl⟩) (fun H locs hP hS => ?_)
    refine lv_iconst (v := 1) hx hb dX6_mass_10 (by decide) ?_
    obtain ⟨q6, h5, hf⟩ := bd_e hf
    refine r_ci hS (va_runV (As := [.int v4, .int 1]) (rest := []) ⟨hx, hb, hml, hown, hts⟩ (m_X6_throwsIf l D ca ad hj v4 1 (setF 48 0 0 S) _ h5 H.size) (cwV 2 hts gX6_mass_X6_throwsIf rfl rfl rfl (by decide +kernel) ⟨Nat.le_of_ble_eq_true rfl, Nat.le_of_ble_eq_true rfl⟩) (r_preV hKK hP (show qk 48 = 6 from rfl) rfl) rfl rfl hl.1 rfl (lv_room (Nat.le_of_ble_eq_true rfl)) dX6_mass_11 ⟨Nat.le_of_ble_eq_true rfl, Nat.le_of_ble_eq_true rfl⟩) (fun H locs hP hS => ?_)
    refine lv_if_ne (tgt := 40) hx hb dX6_mass_14 (by decide) (fun w => ?_) (fun w => ?_)
    · have hf := if_f w hf
      obtain rfl := Option.some.inj hf
      exact r_vret hx hb hr hP hS dX6_mass_40 hlocks
    · have hf := if_t w hf
      refine lv_aload_n hx hb dX6_mass_17 rfl (lv_at hl 0 rfl) ?_
      refine lv_iload_n hx hb dX6_mass_18 rfl (lv_at hl 2 rfl) ?_
      refine lv_iconst (v := 1) hx hb dX6_mass_19 (by decide) ?_
      refine lv_bipush (v := 100) hx hb dX6_mass_20 (by decide) ?_
      obtain ⟨v8, h7, hf⟩ := bd_e hf
      refine r_ci hS (va_runS (As := [.int a2, .int 1, .int 100]) (rest := [.ref (ad 48)]) ⟨hx, hb, hml, hown, hts⟩ (m_X6_in l D ca ad hj a2 1 100 q6.2 _ h7 H.size) (cwS 3 hts gX6_mass_X6_in rfl rfl rfl (by decide +kernel) ⟨Nat.le_of_ble_eq_true rfl, Nat.le_of_ble_eq_true rfl⟩) (r_pre hKK hP) rfl rfl hl.1 rfl (lv_room (Nat.le_of_ble_eq_true rfl)) dX6_mass_22 ⟨Nat.le_of_ble_eq_true rfl, Nat.le_of_ble_eq_true rfl⟩) (fun H locs hP hS => ?_)
      obtain ⟨q9, hq9, hf⟩ := bd_e hf
      have J1 : ∀ (H : Heap) (locs : List Loc) (ls : Array Slot), va_P D vwCl (wd ca ad q6.2) H → va_S (Aq ad s.heap.size) s.heap H locs → lv_has ls 3 [(0, .ref (ad 48)), (1, .int a1), (2, .int a2)] → W p l e rm_X6_mass s m args below meth c H locs 0 0 (Zv below D ca ad args s o) (F0 m 33 ls [.int q9, .ref (ad 48)]) := by
        intro H locs ls hP hS hl
        refine lv_iconst (v := 2) hx hb dX6_mass_33 (by decide) ?_
        obtain ⟨q11, h10, hf⟩ := bd_e hf
        refine r_ci hS (va_runV (As := [.int q9, .int 2]) (rest := []) ⟨hx, hb, hml, hown, hts⟩ (m_X6_throwsIf l D ca ad hj q9 2 q6.2 _ h10 H.size) (cwV 2 hts gX6_mass_X6_throwsIf rfl rfl rfl (by decide +kernel) ⟨Nat.le_of_ble_eq_true rfl, Nat.le_of_ble_eq_true rfl⟩) (r_preV hKK hP (show qk 48 = 6 from rfl) rfl) rfl rfl hl.1 rfl (lv_room (Nat.le_of_ble_eq_true rfl)) dX6_mass_34 ⟨Nat.le_of_ble_eq_true rfl, Nat.le_of_ble_eq_true rfl⟩) (fun H locs hP hS => ?_)
        refine lv_if_eq (tgt := 41) hx hb dX6_mass_37 (by decide) (fun w => ?_) (fun w => ?_)
        · have hf := if_t w hf
          refine lv_aload_n hx hb dX6_mass_41 rfl (lv_at hl 0 rfl) ?_
          refine g_X6_mass hx hb hX6 hown hKK hP (show qk 48 = 6 from rfl) K7 dX6_mass_42 ?_
          refine lv_iload_n hx hb dX6_mass_45 rfl (lv_at hl 1 rfl) ?_
          refine lv_iload_n hx hb dX6_mass_46 rfl (lv_at hl 2 rfl) ?_
          obtain ⟨S12, h13, hf⟩ := bd_e hf
          refine r_iast hx hb hj hKK hP hS (show qk 49 = 7 from rfl) (show qn 49 = 2 from rfl) h13 dX6_mass_47 (fun H locs hP hS => ?_)
          obtain rfl := Option.some.inj hf
          exact r_vret hx hb hr hP hS dX6_mass_48 hlocks
        · have hf := if_f w hf
          obtain rfl := Option.some.inj hf
          exact r_vret hx hb hr hP hS dX6_mass_40 hlocks
      replace hf := hq9
      refine lv_if_ne (tgt := 32) hx hb dX6_mass_25 (by decide) (fun w => ?_) (fun w => ?_)
      · have hf := if_f w hf
        refine lv_iconst (v := 0) hx hb dX6_mass_32 (by decide) ?_
        obtain rfl := Option.some.inj hf
        exact J1 _ _ _ hP hS (lv_sub hl [0, 1, 2] rfl)
      · have hf := if_t w hf
        refine lv_iconst (v := 1) hx hb dX6_mass_28 (by decide) ?_
        refine lv_goto (tgt := 33) hx hb dX6_mass_29 (by decide) ?_
        obtain rfl := Option.some.inj hf
        exact J1 _ _ _ hP hS (lv_sub hl [0, 1, 2] rfl)
  exact main s.heap [] ls hP va_S.rf hl
def rm_X6_drop : Room := { frames := 1, cells := 0, slots := 0, locals := 22 }
set_option maxRecDepth 100000 in
set_option maxHeartbeats 4000000 in
theorem m_X6_drop (l : Launch) (D : va_G) (ca : Nat → ClassId) (ad : Nat → Nat) (hj : Inj ad) (a1 : Int32) (a2 : Int32) (S : QS) (o : Int32 × QS) (hf : f_X6_drop a1 a2 S = some o) : Ci l D ca ad yX6_drop wsX6_drop rm_X6_drop [.ref (ad 48), .int a1, .int a2] S o.1 o.2 := by
  intro sz
  refine Met.ofW (cc := cX6_drop) (maxL := 4) (ret := (some .boolean)) (by decide) rfl ?_
  intro p e s m args below meth c s₁ B hml hv
  obtain ⟨hav, hsz, hP, hKK⟩ := hv
  have hx := B.exec
  have hb := B.bytes
  have hr := B.returns
  have hts := atoms_spec (ws := wsX6_drop) B.pre
  have hown : s.vm.findClass RX6 = some m.cls := findClass_of_methodNamed B.named
  have hlocks := B.notSynchronized
  subst hsz
  have hX6 : ∀ w ∈ wsX60, w.before _ s = true := fun w h => hts w (List.mem_cons_of_mem _ (List.mem_append_right _ h))
  have K26 := hts (Cond.fieldLink RX6 26 "CrashDeskModel" "isDropped" "[Z") (List.mem_cons_of_mem _ (List.mem_append_left _ (List.mem_of_getElem? (i := 2) rfl)))
  have K66 := hts (Cond.fieldLink RX6 66 "CrashDeskModel" "thrown" "I") (List.mem_cons_of_mem _ (List.mem_append_left _ (List.mem_of_getElem? (i := 0) rfl)))
  have K82 := hts (Cond.fieldLink RX6 82 "CrashDeskModel" "skids" "I") (List.mem_cons_of_mem _ (List.mem_append_left _ (List.mem_of_getElem? (i := 1) rfl)))
  have hl := lv_entry [.ref (ad 48), .int a1, .int a2] (n := 4) (Nat.le_of_ble_eq_true rfl)
  rw [show entryFrame m args 4 = entryFrame m ([.ref (ad 48), .int a1, .int a2] : List Value).toArray 4 by rw [hav], lg_entry_eq]
  generalize (lg_sl [.ref (ad 48), .int a1, .int a2] ++ List.replicate (4 - (lg_sl [.ref (ad 48), .int a1, .int a2]).length) Slot.unset).toArray = ls at hl ⊢
  have hl : lv_has ls 4 [(0, .ref (ad 48)), (1, .int a1), (2, .int a2)] := hl
  have main : ∀ (H : Heap) (locs : List Loc) (ls : Array Slot), va_P D vwCl (wd ca ad S) H → va_S (Aq ad s.heap.size) s.heap H locs → lv_has ls 4 [(0, .ref (ad 48)), (1, .int a1), (2, .int a2)] → W p l e rm_X6_drop s m args below meth c H locs 0 0 (Zi below D ca ad args s o.1 o.2) (F0 m 0 ls []) := by
    intro H locs ls hP hS hl
    unfold f_X6_drop at hf
    refine lv_aload_n hx hb dX6_drop_0 rfl (lv_at hl 0 rfl) ?_
    refine lv_iconst (v := 0) hx hb dX6_drop_1 (by decide) ?_
    obtain ⟨S1, h2, hf⟩ := bd_e hf
    obtain rfl := Option.some.inj h2
    refine p_X6_thrown hx hb hX6 hown hj hKK hP hS (show qk 48 = 6 from rfl) K66 dX6_drop_2 (fun H locs hP hS => ?_)
    refine lv_aload_n hx hb dX6_drop_5 rfl (lv_at hl 0 rfl) ?_
    refine lv_iload_n hx hb dX6_drop_6 rfl (lv_at hl 1 rfl) ?_
    refine lv_iconst (v := 0) hx hb dX6_drop_7 (by decide) ?_
    refine lv_aload_n hx hb dX6_drop_8 rfl (lv_at hl 0 rfl) ?_
    refine g_X6_skids hx hb hX6 hown hKK hP (show qk 48 = 6 from rfl) K82 dX6_drop_9 ?_
    refine lv_iconst (v := 1) hx hb dX6_drop_12 (by decide) ?_
    refine lv_isub hx hb dX6_drop_13 ?_
    obtain ⟨v4, h3, hf⟩ := bd_e hf
    refine r_ci hS (va_runS (As := [.int a1, .int 0, .int (((setF 48 0 0 S).1 48 7) - 1)]) (rest := [.ref (ad 48)]) ⟨hx, hb, hml, hown, hts⟩ (m_X6_in l D ca ad hj a1 0 (((setF 48 0 0 S).1 48 7) - 1) (setF 48 0 0 S) _ h3 H.size) (cwS 3 hts gX6_drop_X6_in rfl rfl rfl (by decide +kernel) ⟨Nat.le_of_ble_eq_true rfl, Nat.le_of_ble_eq_true rfl⟩) (r_pre hKK hP) rfl rfl hl.1 rfl (lv_room (Nat.le_of_ble_eq_true rfl)) dX6_drop_14 ⟨Nat.le_of_ble_eq_true rfl, Nat.le_of_ble_eq_true rfl⟩) (fun H locs hP hS => ?_)
    obtain ⟨q5, hq5, hf⟩ := bd_e hf
    have J1 : ∀ (H : Heap) (locs : List Loc) (ls : Array Slot), va_P D vwCl (wd ca ad (setF 48 0 0 S)) H → va_S (Aq ad s.heap.size) s.heap H locs → lv_has ls 4 [(0, .ref (ad 48)), (1, .int a1), (2, .int a2)] → W p l e rm_X6_drop s m args below meth c H locs 0 0 (Zi below D ca ad args s o.1 o.2) (F0 m 25 ls [.int q5, .ref (ad 48)]) := by
      intro H locs ls hP hS hl
      refine lv_iconst (v := 1) hx hb dX6_drop_25 (by decide) ?_
      obtain ⟨q7, h6, hf⟩ := bd_e hf
      refine r_ci hS (va_runV (As := [.int q5, .int 1]) (rest := []) ⟨hx, hb, hml, hown, hts⟩ (m_X6_throwsIf l D ca ad hj q5 1 (setF 48 0 0 S) _ h6 H.size) (cwV 2 hts gX6_drop_X6_throwsIf rfl rfl rfl (by decide +kernel) ⟨Nat.le_of_ble_eq_true rfl, Nat.le_of_ble_eq_true rfl⟩) (r_preV hKK hP (show qk 48 = 6 from rfl) rfl) rfl rfl hl.1 rfl (lv_room (Nat.le_of_ble_eq_true rfl)) dX6_drop_26 ⟨Nat.le_of_ble_eq_true rfl, Nat.le_of_ble_eq_true rfl⟩) (fun H locs hP hS => ?_)
      refine lv_if_eq (tgt := 34) hx hb dX6_drop_29 (by decide) (fun w => ?_) (fun w => ?_)
      · have hf := if_t w hf
        refine lv_aload_n hx hb dX6_drop_34 rfl (lv_at hl 0 rfl) ?_
        refine g_X6_isDropped hx hb hX6 hown hKK hP (show qk 48 = 6 from rfl) K26 dX6_drop_35 ?_
        refine lv_iload_n hx hb dX6_drop_38 rfl (lv_at hl 1 rfl) ?_
        obtain ⟨v8, h9, hf⟩ := bd_e hf
        refine r_zald hx hb hKK hP (show qk 54 = 8 from rfl) (show qn 54 = 12 from rfl) h9 dX6_drop_39 ?_
        refine lv_istore_n (lv' := [(3, .int v8), (0, .ref (ad 48)), (1, .int a1), (2, .int a2)]) hx hb dX6_drop_40 rfl hl (by decide) rfl (fun ls hl => ?_)
        refine lv_aload_n hx hb dX6_drop_41 rfl (lv_at hl 1 rfl) ?_
        refine g_X6_isDropped hx hb hX6 hown hKK hP (show qk 48 = 6 from rfl) K26 dX6_drop_42 ?_
        refine lv_iload_n hx hb dX6_drop_45 rfl (lv_at hl 2 rfl) ?_
        refine lv_iload_n hx hb dX6_drop_46 rfl (lv_at hl 3 rfl) ?_
        obtain ⟨S10, h11, hf⟩ := bd_e hf
        refine r_zast hx hb hj hKK hP hS (show qk 54 = 8 from rfl) (show qn 54 = 12 from rfl) h11 dX6_drop_47 (fun H locs hP hS => ?_)
        refine lv_iload_n hx hb dX6_drop_48 rfl (lv_at hl 0 rfl) ?_
        refine lv_iload_n hx hb dX6_drop_49 rfl (lv_at hl 3 rfl) ?_
        refine lv_icmp_eq (tgt := 57) hx hb dX6_drop_50 (by decide) (fun w => ?_) (fun w => ?_)
        · have hf := if_t w hf
          refine lv_iconst (v := 0) hx hb dX6_drop_57 (by decide) ?_
          obtain rfl := Option.some.inj hf
          exact r_zret hx hb hr hP hS (Or.inl rfl) dX6_drop_58 hlocks
        · have hf := if_f w hf
          refine lv_iconst (v := 1) hx hb dX6_drop_53 (by decide) ?_
          refine lv_goto (tgt := 58) hx hb dX6_drop_54 (by decide) ?_
          obtain rfl := Option.some.inj hf
          exact r_zret hx hb hr hP hS (Or.inr rfl) dX6_drop_58 hlocks
      · have hf := if_f w hf
        refine lv_iconst (v := 0) hx hb dX6_drop_32 (by decide) ?_
        obtain rfl := Option.some.inj hf
        exact r_zret hx hb hr hP hS (Or.inl rfl) dX6_drop_33 hlocks
    replace hf := hq5
    refine lv_if_ne (tgt := 24) hx hb dX6_drop_17 (by decide) (fun w => ?_) (fun w => ?_)
    · have hf := if_f w hf
      refine lv_iconst (v := 0) hx hb dX6_drop_24 (by decide) ?_
      obtain rfl := Option.some.inj hf
      exact J1 _ _ _ hP hS (lv_sub hl [0, 1, 2] rfl)
    · have hf := if_t w hf
      refine lv_iconst (v := 1) hx hb dX6_drop_20 (by decide) ?_
      refine lv_goto (tgt := 25) hx hb dX6_drop_21 (by decide) ?_
      obtain rfl := Option.some.inj hf
      exact J1 _ _ _ hP hS (lv_sub hl [0, 1, 2] rfl)
  exact main s.heap [] ls hP va_S.rf hl
def rm_X6_sure : Room := { frames := 3, cells := 0, slots := 0, locals := 63 }
set_option maxRecDepth 100000 in
set_option maxHeartbeats 4000000 in
theorem m_X6_sure (l : Launch) (D : va_G) (ca : Nat → ClassId) (ad : Nat → Nat) (hj : Inj ad) (a1 : Int32) (a2 : Int32) (a3 : Int32) (a4 : Int32) (S : QS) (o : QS) (hf : f_X6_sure a1 a2 a3 a4 S = some o) : Cv l D ca ad yX6_sure wsX6_sure rm_X6_sure [.ref (ad 48), .int a1, .int a2, .int a3, .int a4] S o := by
  intro sz
  refine Met.ofW (cc := cX6_sure) (maxL := 5) (ret := none) (by decide) rfl ?_
  intro p e s m args below meth c s₁ B hml hv
  obtain ⟨hav, hsz, hP, hKK⟩ := hv
  have hx := B.exec
  have hb := B.bytes
  have hr := B.returns
  have hts := atoms_spec (ws := wsX6_sure) B.pre
  have hown : s.vm.findClass RX6 = some m.cls := findClass_of_methodNamed B.named
  have hlocks := B.notSynchronized
  subst hsz
  have hX6 : ∀ w ∈ wsX60, w.before _ s = true := fun w h => hts w (List.mem_cons_of_mem _ (List.mem_append_right _ h))
  have K29 := hts (Cond.fieldLink RX6 29 "CrashDeskModel" "low" "[I") (List.mem_cons_of_mem _ (List.mem_append_left _ (List.mem_of_getElem? (i := 1) rfl)))
  have K32 := hts (Cond.fieldLink RX6 32 "CrashDeskModel" "high" "[I") (List.mem_cons_of_mem _ (List.mem_append_left _ (List.mem_of_getElem? (i := 2) rfl)))
  have K66 := hts (Cond.fieldLink RX6 66 "CrashDeskModel" "thrown" "I") (List.mem_cons_of_mem _ (List.mem_append_left _ (List.mem_of_getElem? (i := 0) rfl)))
  have hl := lv_entry [.ref (ad 48), .int a1, .int a2, .int a3, .int a4] (n := 5) (Nat.le_of_ble_eq_true rfl)
  rw [show entryFrame m args 5 = entryFrame m ([.ref (ad 48), .int a1, .int a2, .int a3, .int a4] : List Value).toArray 5 by rw [hav], lg_entry_eq]
  generalize (lg_sl [.ref (ad 48), .int a1, .int a2, .int a3, .int a4] ++ List.replicate (5 - (lg_sl [.ref (ad 48), .int a1, .int a2, .int a3, .int a4]).length) Slot.unset).toArray = ls at hl ⊢
  have hl : lv_has ls 5 [(0, .ref (ad 48)), (1, .int a1), (2, .int a2), (3, .int a3), (4, .int a4)] := hl
  have main : ∀ (H : Heap) (locs : List Loc) (ls : Array Slot), va_P D vwCl (wd ca ad S) H → va_S (Aq ad s.heap.size) s.heap H locs → lv_has ls 5 [(0, .ref (ad 48)), (1, .int a1), (2, .int a2), (3, .int a3), (4, .int a4)] → W p l e rm_X6_sure s m args below meth c H locs 0 0 (Zv below D ca ad args s o) (F0 m 0 ls []) := by
    intro H locs ls hP hS hl
    unfold f_X6_sure at hf
    refine lv_aload_n hx hb dX6_sure_0 rfl (lv_at hl 0 rfl) ?_
    refine lv_iconst (v := 0) hx hb dX6_sure_1 (by decide) ?_
    obtain ⟨S1, h2, hf⟩ := bd_e hf
    obtain rfl := Option.some.inj h2
    refine p_X6_thrown hx hb hX6 hown hj hKK hP hS (show qk 48 = 6 from rfl) K66 dX6_sure_2 (fun H locs hP hS => ?_)
    refine lv_aload_n hx hb dX6_sure_5 rfl (lv_at hl 0 rfl) ?_
    refine lv_iload_n hx hb dX6_sure_6 rfl (lv_at hl 1 rfl) ?_
    refine lv_iload_n hx hb dX6_sure_7 rfl (lv_at hl 2 rfl) ?_
    obtain ⟨v4, h3, hf⟩ := bd_e hf
    refine r_ci hS (va_runS (As := [.int a1, .int a2]) (rest := [.ref (ad 48)]) ⟨hx, hb, hml, hown, hts⟩ (m_X6_noSpeed l D ca ad hj a1 a2 (setF 48 0 0 S) _ h3 H.size) (cwS 2 hts gX6_sure_X6_noSpeed rfl rfl rfl (by decide +kernel) ⟨Nat.le_of_ble_eq_true rfl, Nat.le_of_ble_eq_true rfl⟩) (r_pre hKK hP) rfl rfl hl.1 rfl (lv_room (Nat.le_of_ble_eq_true rfl)) dX6_sure_8 ⟨Nat.le_of_ble_eq_true rfl, Nat.le_of_ble_eq_true rfl⟩) (fun H locs hP hS => ?_)
    refine lv_iconst (v := 1) hx hb dX6_sure_11 (by decide) ?_
    obtain ⟨q6, h5, hf⟩ := bd_e hf
    refine r_ci hS (va_runV (As := [.int v4, .int 1]) (rest := []) ⟨hx, hb, hml, hown, hts⟩ (m_X6_throwsIf l D ca ad hj v4 1 (setF 48 0 0 S) _ h5 H.size) (cwV 2 hts gX6_sure_X6_throwsIf rfl rfl rfl (by decide +kernel) ⟨Nat.le_of_ble_eq_true rfl, Nat.le_of_ble_eq_true rfl⟩) (r_preV hKK hP (show qk 48 = 6 from rfl) rfl) rfl rfl hl.1 rfl (lv_room (Nat.le_of_ble_eq_true rfl)) dX6_sure_12 ⟨Nat.le_of_ble_eq_true rfl, Nat.le_of_ble_eq_true rfl⟩) (fun H locs hP hS => ?_)
    refine lv_if_ne (tgt := 32) hx hb dX6_sure_15 (by decide) (fun w => ?_) (fun w => ?_)
    · have hf := if_f w hf
      obtain rfl := Option.some.inj hf
      exact r_vret hx hb hr hP hS dX6_sure_32 hlocks
    · have hf := if_t w hf
      refine lv_aload_n hx hb dX6_sure_18 rfl (lv_at hl 0 rfl) ?_
      refine lv_iload_n hx hb dX6_sure_19 rfl (lv_at hl 3 rfl) ?_
      refine lv_iload hx hb dX6_sure_20 (lv_at hl 4 rfl) ?_
      obtain ⟨v8, h7, hf⟩ := bd_e hf
      refine r_ci hS (va_runS (As := [.int a3, .int a4]) (rest := [.ref (ad 48)]) ⟨hx, hb, hml, hown, hts⟩ (m_X6_noSpan l D ca ad hj a3 a4 q6.2 _ h7 H.size) (cwS 2 hts gX6_sure_X6_noSpan rfl rfl rfl (by decide +kernel) ⟨Nat.le_of_ble_eq_true rfl, Nat.le_of_ble_eq_true rfl⟩) (r_pre hKK hP) rfl rfl hl.1 rfl (lv_room (Nat.le_of_ble_eq_true rfl)) dX6_sure_22 ⟨Nat.le_of_ble_eq_true rfl, Nat.le_of_ble_eq_true rfl⟩) (fun H locs hP hS => ?_)
      refine lv_iconst (v := 2) hx hb dX6_sure_25 (by decide) ?_
      obtain ⟨q10, h9, hf⟩ := bd_e hf
      refine r_ci hS (va_runV (As := [.int v8, .int 2]) (rest := []) ⟨hx, hb, hml, hown, hts⟩ (m_X6_throwsIf l D ca ad hj v8 2 q6.2 _ h9 H.size) (cwV 2 hts gX6_sure_X6_throwsIf rfl rfl rfl (by decide +kernel) ⟨Nat.le_of_ble_eq_true rfl, Nat.le_of_ble_eq_true rfl⟩) (r_preV hKK hP (show qk 48 = 6 from rfl) rfl) rfl rfl hl.1 rfl (lv_room (Nat.le_of_ble_eq_true rfl)) dX6_sure_26 ⟨Nat.le_of_ble_eq_true rfl, Nat.le_of_ble_eq_true rfl⟩) (fun H locs hP hS => ?_)
      refine lv_if_eq (tgt := 33) hx hb dX6_sure_29 (by decide) (fun w => ?_) (fun w => ?_)
      · have hf := if_t w hf
        refine lv_aload_n hx hb dX6_sure_33 rfl (lv_at hl 0 rfl) ?_
        refine g_X6_low hx hb hX6 hown hKK hP (show qk 48 = 6 from rfl) K29 dX6_sure_34 ?_
        refine lv_iconst (v := 3) hx hb dX6_sure_37 (by decide) ?_
        refine lv_iload_n hx hb dX6_sure_38 rfl (lv_at hl 1 rfl) ?_
        refine lv_imul hx hb dX6_sure_39 ?_
        refine lv_iload_n hx hb dX6_sure_40 rfl (lv_at hl 2 rfl) ?_
        refine lv_iadd hx hb dX6_sure_41 ?_
        refine lv_iload_n hx hb dX6_sure_42 rfl (lv_at hl 3 rfl) ?_
        obtain ⟨S11, h12, hf⟩ := bd_e hf
        refine r_iast hx hb hj hKK hP hS (show qk 55 = 7 from rfl) (show qn 55 = 6 from rfl) h12 dX6_sure_43 (fun H locs hP hS => ?_)
        refine lv_aload_n hx hb dX6_sure_44 rfl (lv_at hl 0 rfl) ?_
        refine g_X6_high hx hb hX6 hown hKK hP (show qk 48 = 6 from rfl) K32 dX6_sure_45 ?_
        refine lv_iconst (v := 3) hx hb dX6_sure_48 (by decide) ?_
        refine lv_iload_n hx hb dX6_sure_49 rfl (lv_at hl 1 rfl) ?_
        refine lv_imul hx hb dX6_sure_50 ?_
        refine lv_iload_n hx hb dX6_sure_51 rfl (lv_at hl 2 rfl) ?_
        refine lv_iadd hx hb dX6_sure_52 ?_
        refine lv_iload hx hb dX6_sure_53 (lv_at hl 4 rfl) ?_
        obtain ⟨S13, h14, hf⟩ := bd_e hf
        refine r_iast hx hb hj hKK hP hS (show qk 56 = 7 from rfl) (show qn 56 = 6 from rfl) h14 dX6_sure_55 (fun H locs hP hS => ?_)
        obtain rfl := Option.some.inj hf
        exact r_vret hx hb hr hP hS dX6_sure_56 hlocks
      · have hf := if_f w hf
        obtain rfl := Option.some.inj hf
        exact r_vret hx hb hr hP hS dX6_sure_32 hlocks
  exact main s.heap [] ls hP va_S.rf hl
def rm_X6_hush : Room := { frames := 0, cells := 0, slots := 0, locals := 0 }
set_option maxRecDepth 100000 in
set_option maxHeartbeats 4000000 in
theorem m_X6_hush (l : Launch) (D : va_G) (ca : Nat → ClassId) (ad : Nat → Nat) (hj : Inj ad)  (S : QS) (o : Int32 × QS) (hf : f_X6_hush S = some o) : Ci l D ca ad yX6_hush wsX6_hush rm_X6_hush [.ref (ad 48)] S o.1 o.2 := by
  intro sz
  refine Met.ofW (cc := cX6_hush) (maxL := 2) (ret := (some .int)) (by decide) rfl ?_
  intro p e s m args below meth c s₁ B hml hv
  obtain ⟨hav, hsz, hP, hKK⟩ := hv
  have hx := B.exec
  have hb := B.bytes
  have hr := B.returns
  have hts := atoms_spec (ws := wsX6_hush) B.pre
  have hown : s.vm.findClass RX6 = some m.cls := findClass_of_methodNamed B.named
  have hlocks := B.notSynchronized
  subst hsz
  have hX6 : ∀ w ∈ wsX60, w.before _ s = true := fun w h => hts w (List.mem_cons_of_mem _ (List.mem_append_right _ h))
  have K66 := hts (Cond.fieldLink RX6 66 "CrashDeskModel" "thrown" "I") (List.mem_cons_of_mem _ (List.mem_append_left _ (List.mem_of_getElem? (i := 0) rfl)))
  have K92 := hts (Cond.fieldLink RX6 92 "CrashDeskModel" "tales" "I") (List.mem_cons_of_mem _ (List.mem_append_left _ (List.mem_of_getElem? (i := 1) rfl)))
  have hl := lv_entry [.ref (ad 48)] (n := 2) (Nat.le_of_ble_eq_true rfl)
  rw [show entryFrame m args 2 = entryFrame m ([.ref (ad 48)] : List Value).toArray 2 by rw [hav], lg_entry_eq]
  generalize (lg_sl [.ref (ad 48)] ++ List.replicate (2 - (lg_sl [.ref (ad 48)]).length) Slot.unset).toArray = ls at hl ⊢
  have hl : lv_has ls 2 [(0, .ref (ad 48))] := hl
  have main : ∀ (H : Heap) (locs : List Loc) (ls : Array Slot), va_P D vwCl (wd ca ad S) H → va_S (Aq ad s.heap.size) s.heap H locs → lv_has ls 2 [(0, .ref (ad 48))] → W p l e rm_X6_hush s m args below meth c H locs 0 0 (Zi below D ca ad args s o.1 o.2) (F0 m 0 ls []) := by
    intro H locs ls hP hS hl
    unfold f_X6_hush at hf
    refine lv_aload_n hx hb dX6_hush_0 rfl (lv_at hl 0 rfl) ?_
    refine lv_iconst (v := 0) hx hb dX6_hush_1 (by decide) ?_
    obtain ⟨S1, h2, hf⟩ := bd_e hf
    obtain rfl := Option.some.inj h2
    refine p_X6_thrown hx hb hX6 hown hj hKK hP hS (show qk 48 = 6 from rfl) K66 dX6_hush_2 (fun H locs hP hS => ?_)
    refine lv_aload_n hx hb dX6_hush_5 rfl (lv_at hl 0 rfl) ?_
    refine g_X6_tales hx hb hX6 hown hKK hP (show qk 48 = 6 from rfl) K92 dX6_hush_6 ?_
    refine lv_istore_n (lv' := [(1, .int ((setF 48 0 0 S).1 48 13)), (0, .ref (ad 48))]) hx hb dX6_hush_9 rfl hl (by decide) rfl (fun ls hl => ?_)
    refine lv_aload_n hx hb dX6_hush_10 rfl (lv_at hl 1 rfl) ?_
    refine lv_iconst (v := 0) hx hb dX6_hush_11 (by decide) ?_
    obtain ⟨S3, h4, hf⟩ := bd_e hf
    obtain rfl := Option.some.inj h4
    refine p_X6_tales hx hb hX6 hown hj hKK hP hS (show qk 48 = 6 from rfl) K92 dX6_hush_12 (fun H locs hP hS => ?_)
    refine lv_iload_n hx hb dX6_hush_15 rfl (lv_at hl 0 rfl) ?_
    obtain rfl := Option.some.inj hf
    exact r_iret hx hb hr hP hS dX6_hush_16 hlocks
  exact main s.heap [] ls hP va_S.rf hl
def rm_X6_all : Room := { frames := 0, cells := 0, slots := 0, locals := 0 }
set_option maxRecDepth 100000 in
set_option maxHeartbeats 4000000 in
theorem m_X6_all (l : Launch) (D : va_G) (ca : Nat → ClassId) (ad : Nat → Nat) (hj : Inj ad)  (S : QS) (o : Int32) (hf : f_X6_all S = some o) : Ci l D ca ad yX6_all wsX6_all rm_X6_all [.ref (ad 48)] S o S := by
  intro sz
  refine Met.ofW (cc := cX6_all) (maxL := 1) (ret := (some .int)) (by decide) rfl ?_
  intro p e s m args below meth c s₁ B hml hv
  obtain ⟨hav, hsz, hP, hKK⟩ := hv
  have hx := B.exec
  have hb := B.bytes
  have hr := B.returns
  have hts := atoms_spec (ws := wsX6_all) B.pre
  have hown : s.vm.findClass RX6 = some m.cls := findClass_of_methodNamed B.named
  have hlocks := B.notSynchronized
  subst hsz
  have hX6 : ∀ w ∈ wsX60, w.before _ s = true := fun w h => hts w (List.mem_cons_of_mem _ (List.mem_append_right _ h))
  have K92 := hts (Cond.fieldLink RX6 92 "CrashDeskModel" "tales" "I") (List.mem_cons_of_mem _ (List.mem_append_left _ (List.mem_of_getElem? (i := 0) rfl)))
  have hl := lv_entry [.ref (ad 48)] (n := 1) (Nat.le_of_ble_eq_true rfl)
  rw [show entryFrame m args 1 = entryFrame m ([.ref (ad 48)] : List Value).toArray 1 by rw [hav], lg_entry_eq]
  generalize (lg_sl [.ref (ad 48)] ++ List.replicate (1 - (lg_sl [.ref (ad 48)]).length) Slot.unset).toArray = ls at hl ⊢
  have hl : lv_has ls 1 [(0, .ref (ad 48))] := hl
  have main : ∀ (H : Heap) (locs : List Loc) (ls : Array Slot), va_P D vwCl (wd ca ad S) H → va_S (Aq ad s.heap.size) s.heap H locs → lv_has ls 1 [(0, .ref (ad 48))] → W p l e rm_X6_all s m args below meth c H locs 0 0 (Zi below D ca ad args s o S) (F0 m 0 ls []) := by
    intro H locs ls hP hS hl
    unfold f_X6_all at hf
    refine lv_iconst (v := 1) hx hb dX6_all_0 (by decide) ?_
    refine lv_aload_n hx hb dX6_all_1 rfl (lv_at hl 0 rfl) ?_
    refine g_X6_tales hx hb hX6 hown hKK hP (show qk 48 = 6 from rfl) K92 dX6_all_2 ?_
    refine lv_ishl hx hb dX6_all_5 ?_
    refine lv_iconst (v := 1) hx hb dX6_all_6 (by decide) ?_
    refine lv_isub hx hb dX6_all_7 ?_
    obtain rfl := Option.some.inj hf
    exact r_iret hx hb hr hP hS dX6_all_8 hlocks
  exact main s.heap [] ls hP va_S.rf hl
def rm_X6_look : Room := { frames := 1, cells := 0, slots := 0, locals := 22 }
set_option maxRecDepth 100000 in
set_option maxHeartbeats 4000000 in
theorem m_X6_look (l : Launch) (D : va_G) (ca : Nat → ClassId) (ad : Nat → Nat) (hj : Inj ad) (a1 : Int32) (a2 : Int32) (S : QS) (o : Int32 × QS) (hf : f_X6_look a1 a2 S = some o) : Ci l D ca ad yX6_look wsX6_look rm_X6_look [.ref (ad 48), .int a1, .int a2] S o.1 o.2 := by
  intro sz
  refine Met.ofW (cc := cX6_look) (maxL := 3) (ret := (some .int)) (by decide) rfl ?_
  intro p e s m args below meth c s₁ B hml hv
  obtain ⟨hav, hsz, hP, hKK⟩ := hv
  have hx := B.exec
  have hb := B.bytes
  have hr := B.returns
  have hts := atoms_spec (ws := wsX6_look) B.pre
  have hown : s.vm.findClass RX6 = some m.cls := findClass_of_methodNamed B.named
  have hlocks := B.notSynchronized
  subst hsz
  have hX6 : ∀ w ∈ wsX60, w.before _ s = true := fun w h => hts w (List.mem_cons_of_mem _ (List.mem_append_right _ h))
  have K13 := hts (Cond.fieldLink RX6 13 "CrashDeskModel" "sCar" "[I") (List.mem_cons_of_mem _ (List.mem_append_left _ (List.mem_of_getElem? (i := 2) rfl)))
  have K16 := hts (Cond.fieldLink RX6 16 "CrashDeskModel" "sBehind" "[Z") (List.mem_cons_of_mem _ (List.mem_append_left _ (List.mem_of_getElem? (i := 3) rfl)))
  have K20 := hts (Cond.fieldLink RX6 20 "CrashDeskModel" "sLeast" "[I") (List.mem_cons_of_mem _ (List.mem_append_left _ (List.mem_of_getElem? (i := 4) rfl)))
  have K23 := hts (Cond.fieldLink RX6 23 "CrashDeskModel" "sMost" "[I") (List.mem_cons_of_mem _ (List.mem_append_left _ (List.mem_of_getElem? (i := 5) rfl)))
  have K26 := hts (Cond.fieldLink RX6 26 "CrashDeskModel" "isDropped" "[Z") (List.mem_cons_of_mem _ (List.mem_append_left _ (List.mem_of_getElem? (i := 6) rfl)))
  have K66 := hts (Cond.fieldLink RX6 66 "CrashDeskModel" "thrown" "I") (List.mem_cons_of_mem _ (List.mem_append_left _ (List.mem_of_getElem? (i := 0) rfl)))
  have K82 := hts (Cond.fieldLink RX6 82 "CrashDeskModel" "skids" "I") (List.mem_cons_of_mem _ (List.mem_append_left _ (List.mem_of_getElem? (i := 1) rfl)))
  have hl := lv_entry [.ref (ad 48), .int a1, .int a2] (n := 3) (Nat.le_of_ble_eq_true rfl)
  rw [show entryFrame m args 3 = entryFrame m ([.ref (ad 48), .int a1, .int a2] : List Value).toArray 3 by rw [hav], lg_entry_eq]
  generalize (lg_sl [.ref (ad 48), .int a1, .int a2] ++ List.replicate (3 - (lg_sl [.ref (ad 48), .int a1, .int a2]).length) Slot.unset).toArray = ls at hl ⊢
  have hl : lv_has ls 3 [(0, .ref (ad 48)), (1, .int a1), (2, .int a2)] := hl
  have main : ∀ (H : Heap) (locs : List Loc) (ls : Array Slot), va_P D vwCl (wd ca ad S) H → va_S (Aq ad s.heap.size) s.heap H locs → lv_has ls 3 [(0, .ref (ad 48)), (1, .int a1), (2, .int a2)] → W p l e rm_X6_look s m args below meth c H locs 0 0 (Zi below D ca ad args s o.1 o.2) (F0 m 0 ls []) := by
    intro H locs ls hP hS hl
    unfold f_X6_look at hf
    refine lv_aload_n hx hb dX6_look_0 rfl (lv_at hl 0 rfl) ?_
    refine lv_iconst (v := 0) hx hb dX6_look_1 (by decide) ?_
    obtain ⟨S1, h2, hf⟩ := bd_e hf
    obtain rfl := Option.some.inj h2
    refine p_X6_thrown hx hb hX6 hown hj hKK hP hS (show qk 48 = 6 from rfl) K66 dX6_look_2 (fun H locs hP hS => ?_)
    refine lv_aload_n hx hb dX6_look_5 rfl (lv_at hl 0 rfl) ?_
    refine lv_iload_n hx hb dX6_look_6 rfl (lv_at hl 1 rfl) ?_
    refine lv_iconst (v := 0) hx hb dX6_look_7 (by decide) ?_
    refine lv_aload_n hx hb dX6_look_8 rfl (lv_at hl 0 rfl) ?_
    refine g_X6_skids hx hb hX6 hown hKK hP (show qk 48 = 6 from rfl) K82 dX6_look_9 ?_
    refine lv_iconst (v := 1) hx hb dX6_look_12 (by decide) ?_
    refine lv_isub hx hb dX6_look_13 ?_
    obtain ⟨v4, h3, hf⟩ := bd_e hf
    refine r_ci hS (va_runS (As := [.int a1, .int 0, .int (((setF 48 0 0 S).1 48 7) - 1)]) (rest := [.ref (ad 48)]) ⟨hx, hb, hml, hown, hts⟩ (m_X6_in l D ca ad hj a1 0 (((setF 48 0 0 S).1 48 7) - 1) (setF 48 0 0 S) _ h3 H.size) (cwS 3 hts gX6_look_X6_in rfl rfl rfl (by decide +kernel) ⟨Nat.le_of_ble_eq_true rfl, Nat.le_of_ble_eq_true rfl⟩) (r_pre hKK hP) rfl rfl hl.1 rfl (lv_room (Nat.le_of_ble_eq_true rfl)) dX6_look_14 ⟨Nat.le_of_ble_eq_true rfl, Nat.le_of_ble_eq_true rfl⟩) (fun H locs hP hS => ?_)
    obtain ⟨q5, hq5, hf⟩ := bd_e hf
    have J1 : ∀ (H : Heap) (locs : List Loc) (ls : Array Slot), va_P D vwCl (wd ca ad (setF 48 0 0 S)) H → va_S (Aq ad s.heap.size) s.heap H locs → lv_has ls 3 [(0, .ref (ad 48)), (1, .int a1), (2, .int a2)] → W p l e rm_X6_look s m args below meth c H locs 0 0 (Zi below D ca ad args s o.1 o.2) (F0 m 25 ls [.int q5, .ref (ad 48)]) := by
      intro H locs ls hP hS hl
      refine lv_iconst (v := 1) hx hb dX6_look_25 (by decide) ?_
      obtain ⟨q7, h6, hf⟩ := bd_e hf
      refine r_ci hS (va_runV (As := [.int q5, .int 1]) (rest := []) ⟨hx, hb, hml, hown, hts⟩ (m_X6_throwsIf l D ca ad hj q5 1 (setF 48 0 0 S) _ h6 H.size) (cwV 2 hts gX6_look_X6_throwsIf rfl rfl rfl (by decide +kernel) ⟨Nat.le_of_ble_eq_true rfl, Nat.le_of_ble_eq_true rfl⟩) (r_preV hKK hP (show qk 48 = 6 from rfl) rfl) rfl rfl hl.1 rfl (lv_room (Nat.le_of_ble_eq_true rfl)) dX6_look_26 ⟨Nat.le_of_ble_eq_true rfl, Nat.le_of_ble_eq_true rfl⟩) (fun H locs hP hS => ?_)
      refine lv_if_eq (tgt := 34) hx hb dX6_look_29 (by decide) (fun w => ?_) (fun w => ?_)
      · have hf := if_t w hf
        refine lv_iload_n hx hb dX6_look_34 rfl (lv_at hl 2 rfl) ?_
        by_cases w0 : a2 = 0
        · have hf := if_t w0 hf
          rw [w0]
          refine lv_tableIn (off := 33) (tgt := 68) hx hb dX6_look_35 (by decide) (by decide) (by decide) (by decide) ?_
          refine lv_aload_n hx hb dX6_look_68 rfl (lv_at hl 0 rfl) ?_
          refine g_X6_sCar hx hb hX6 hown hKK hP (show qk 48 = 6 from rfl) K13 dX6_look_69 ?_
          refine lv_iload_n hx hb dX6_look_72 rfl (lv_at hl 1 rfl) ?_
          obtain ⟨v8, h9, hf⟩ := bd_e hf
          refine r_iald hx hb hKK hP (show qk 50 = 7 from rfl) (show qn 50 = 12 from rfl) h9 dX6_look_73 ?_
          obtain rfl := Option.some.inj hf
          exact r_iret hx hb hr hP hS dX6_look_74 hlocks
        · have hf := if_f w0 hf
          by_cases w1 : a2 = 1
          · have hf := if_t w1 hf
            rw [w1]
            refine lv_tableIn (off := 40) (tgt := 75) hx hb dX6_look_35 (by decide) (by decide) (by decide) (by decide) ?_
            refine lv_aload_n hx hb dX6_look_75 rfl (lv_at hl 0 rfl) ?_
            refine g_X6_sBehind hx hb hX6 hown hKK hP (show qk 48 = 6 from rfl) K16 dX6_look_76 ?_
            refine lv_iload_n hx hb dX6_look_79 rfl (lv_at hl 1 rfl) ?_
            obtain ⟨v10, h11, hf⟩ := bd_e hf
            refine r_zald hx hb hKK hP (show qk 51 = 8 from rfl) (show qn 51 = 12 from rfl) h11 dX6_look_80 ?_
            refine lv_if_eq (tgt := 88) hx hb dX6_look_81 (by decide) (fun w => ?_) (fun w => ?_)
            · have hf := if_t w hf
              refine lv_iconst (v := 0) hx hb dX6_look_88 (by decide) ?_
              obtain rfl := Option.some.inj hf
              exact r_iret hx hb hr hP hS dX6_look_89 hlocks
            · have hf := if_f w hf
              refine lv_iconst (v := 1) hx hb dX6_look_84 (by decide) ?_
              refine lv_goto (tgt := 89) hx hb dX6_look_85 (by decide) ?_
              obtain rfl := Option.some.inj hf
              exact r_iret hx hb hr hP hS dX6_look_89 hlocks
          · have hf := if_f w1 hf
            by_cases w2 : a2 = 2
            · have hf := if_t w2 hf
              rw [w2]
              refine lv_tableIn (off := 55) (tgt := 90) hx hb dX6_look_35 (by decide) (by decide) (by decide) (by decide) ?_
              refine lv_aload_n hx hb dX6_look_90 rfl (lv_at hl 0 rfl) ?_
              refine g_X6_sLeast hx hb hX6 hown hKK hP (show qk 48 = 6 from rfl) K20 dX6_look_91 ?_
              refine lv_iload_n hx hb dX6_look_94 rfl (lv_at hl 1 rfl) ?_
              obtain ⟨v12, h13, hf⟩ := bd_e hf
              refine r_iald hx hb hKK hP (show qk 52 = 7 from rfl) (show qn 52 = 12 from rfl) h13 dX6_look_95 ?_
              obtain rfl := Option.some.inj hf
              exact r_iret hx hb hr hP hS dX6_look_96 hlocks
            · have hf := if_f w2 hf
              by_cases w3 : a2 = 3
              · have hf := if_t w3 hf
                rw [w3]
                refine lv_tableIn (off := 62) (tgt := 97) hx hb dX6_look_35 (by decide) (by decide) (by decide) (by decide) ?_
                refine lv_aload_n hx hb dX6_look_97 rfl (lv_at hl 0 rfl) ?_
                refine g_X6_sMost hx hb hX6 hown hKK hP (show qk 48 = 6 from rfl) K23 dX6_look_98 ?_
                refine lv_iload_n hx hb dX6_look_101 rfl (lv_at hl 1 rfl) ?_
                obtain ⟨v14, h15, hf⟩ := bd_e hf
                refine r_iald hx hb hKK hP (show qk 53 = 7 from rfl) (show qn 53 = 12 from rfl) h15 dX6_look_102 ?_
                obtain rfl := Option.some.inj hf
                exact r_iret hx hb hr hP hS dX6_look_103 hlocks
              · have hf := if_f w3 hf
                by_cases w4 : a2 = 4
                · have hf := if_t w4 hf
                  rw [w4]
                  refine lv_tableIn (off := 69) (tgt := 104) hx hb dX6_look_35 (by decide) (by decide) (by decide) (by decide) ?_
                  refine lv_aload_n hx hb dX6_look_104 rfl (lv_at hl 0 rfl) ?_
                  refine g_X6_isDropped hx hb hX6 hown hKK hP (show qk 48 = 6 from rfl) K26 dX6_look_105 ?_
                  refine lv_iload_n hx hb dX6_look_108 rfl (lv_at hl 1 rfl) ?_
                  obtain ⟨v16, h17, hf⟩ := bd_e hf
                  refine r_zald hx hb hKK hP (show qk 54 = 8 from rfl) (show qn 54 = 12 from rfl) h17 dX6_look_109 ?_
                  refine lv_if_eq (tgt := 117) hx hb dX6_look_110 (by decide) (fun w => ?_) (fun w => ?_)
                  · have hf := if_t w hf
                    refine lv_iconst (v := 1) hx hb dX6_look_117 (by decide) ?_
                    obtain rfl := Option.some.inj hf
                    exact r_iret hx hb hr hP hS dX6_look_118 hlocks
                  · have hf := if_f w hf
                    refine lv_iconst (v := 0) hx hb dX6_look_113 (by decide) ?_
                    refine lv_goto (tgt := 118) hx hb dX6_look_114 (by decide) ?_
                    obtain rfl := Option.some.inj hf
                    exact r_iret hx hb hr hP hS dX6_look_118 hlocks
                · have hf := if_f w4 hf
                  refine lv_tableOut (tgt := 119) hx hb dX6_look_35 (q_out5 w0 w1 w2 w3 w4) (by decide) ?_
                  refine lv_aload_n hx hb dX6_look_119 rfl (lv_at hl 0 rfl) ?_
                  refine lv_iconst (v := 2) hx hb dX6_look_120 (by decide) ?_
                  obtain ⟨S18, h19, hf⟩ := bd_e hf
                  obtain rfl := Option.some.inj h19
                  refine p_X6_thrown hx hb hX6 hown hj hKK hP hS (show qk 48 = 6 from rfl) K66 dX6_look_121 (fun H locs hP hS => ?_)
                  refine lv_iconst (v := 0) hx hb dX6_look_124 (by decide) ?_
                  obtain rfl := Option.some.inj hf
                  exact r_iret hx hb hr hP hS dX6_look_125 hlocks
      · have hf := if_f w hf
        refine lv_iconst (v := 0) hx hb dX6_look_32 (by decide) ?_
        obtain rfl := Option.some.inj hf
        exact r_iret hx hb hr hP hS dX6_look_33 hlocks
    replace hf := hq5
    refine lv_if_ne (tgt := 24) hx hb dX6_look_17 (by decide) (fun w => ?_) (fun w => ?_)
    · have hf := if_f w hf
      refine lv_iconst (v := 0) hx hb dX6_look_24 (by decide) ?_
      obtain rfl := Option.some.inj hf
      exact J1 _ _ _ hP hS (lv_sub hl [0, 1, 2] rfl)
    · have hf := if_t w hf
      refine lv_iconst (v := 1) hx hb dX6_look_20 (by decide) ?_
      refine lv_goto (tgt := 25) hx hb dX6_look_21 (by decide) ?_
      obtain rfl := Option.some.inj hf
      exact J1 _ _ _ hP hS (lv_sub hl [0, 1, 2] rfl)
  exact main s.heap [] ls hP va_S.rf hl
def rm_X6_count : Room := { frames := 0, cells := 0, slots := 0, locals := 0 }
set_option maxRecDepth 100000 in
set_option maxHeartbeats 4000000 in
theorem m_X6_count (l : Launch) (D : va_G) (ca : Nat → ClassId) (ad : Nat → Nat) (hj : Inj ad) (a1 : Int32) (S : QS) (o : Int32 × QS) (hf : f_X6_count a1 S = some o) : Ci l D ca ad yX6_count wsX6_count rm_X6_count [.ref (ad 48), .int a1] S o.1 o.2 := by
  intro sz
  refine Met.ofW (cc := cX6_count) (maxL := 4) (ret := (some .int)) (by decide) rfl ?_
  intro p e s m args below meth c s₁ B hml hv
  obtain ⟨hav, hsz, hP, hKK⟩ := hv
  have hx := B.exec
  have hb := B.bytes
  have hr := B.returns
  have hts := atoms_spec (ws := wsX6_count) B.pre
  have hown : s.vm.findClass RX6 = some m.cls := findClass_of_methodNamed B.named
  have hlocks := B.notSynchronized
  subst hsz
  have hX6 : ∀ w ∈ wsX60, w.before _ s = true := fun w h => hts w (List.mem_cons_of_mem _ (List.mem_append_right _ h))
  have K7 := hts (Cond.fieldLink RX6 7 "CrashDeskModel" "mass" "[I") (List.mem_cons_of_mem _ (List.mem_append_left _ (List.mem_of_getElem? (i := 4) rfl)))
  have K26 := hts (Cond.fieldLink RX6 26 "CrashDeskModel" "isDropped" "[Z") (List.mem_cons_of_mem _ (List.mem_append_left _ (List.mem_of_getElem? (i := 2) rfl)))
  have K66 := hts (Cond.fieldLink RX6 66 "CrashDeskModel" "thrown" "I") (List.mem_cons_of_mem _ (List.mem_append_left _ (List.mem_of_getElem? (i := 0) rfl)))
  have K82 := hts (Cond.fieldLink RX6 82 "CrashDeskModel" "skids" "I") (List.mem_cons_of_mem _ (List.mem_append_left _ (List.mem_of_getElem? (i := 1) rfl)))
  have K92 := hts (Cond.fieldLink RX6 92 "CrashDeskModel" "tales" "I") (List.mem_cons_of_mem _ (List.mem_append_left _ (List.mem_of_getElem? (i := 3) rfl)))
  have hl := lv_entry [.ref (ad 48), .int a1] (n := 4) (Nat.le_of_ble_eq_true rfl)
  rw [show entryFrame m args 4 = entryFrame m ([.ref (ad 48), .int a1] : List Value).toArray 4 by rw [hav], lg_entry_eq]
  generalize (lg_sl [.ref (ad 48), .int a1] ++ List.replicate (4 - (lg_sl [.ref (ad 48), .int a1]).length) Slot.unset).toArray = ls at hl ⊢
  have hl : lv_has ls 4 [(0, .ref (ad 48)), (1, .int a1)] := hl
  have main : ∀ (H : Heap) (locs : List Loc) (ls : Array Slot), va_P D vwCl (wd ca ad S) H → va_S (Aq ad s.heap.size) s.heap H locs → lv_has ls 4 [(0, .ref (ad 48)), (1, .int a1)] → W p l e rm_X6_count s m args below meth c H locs 0 0 (Zi below D ca ad args s o.1 o.2) (F0 m 0 ls []) := by
    intro H locs ls hP hS hl
    unfold f_X6_count at hf
    refine lv_aload_n hx hb dX6_count_0 rfl (lv_at hl 0 rfl) ?_
    refine lv_iconst (v := 0) hx hb dX6_count_1 (by decide) ?_
    obtain ⟨S1, h2, hf⟩ := bd_e hf
    obtain rfl := Option.some.inj h2
    refine p_X6_thrown hx hb hX6 hown hj hKK hP hS (show qk 48 = 6 from rfl) K66 dX6_count_2 (fun H locs hP hS => ?_)
    refine lv_iconst (v := 0) hx hb dX6_count_5 (by decide) ?_
    refine lv_istore_n (lv' := [(2, .int 0), (0, .ref (ad 48)), (1, .int a1)]) hx hb dX6_count_6 rfl hl (by decide) rfl (fun ls hl => ?_)
    refine lv_iload_n hx hb dX6_count_7 rfl (lv_at hl 2 rfl) ?_
    by_cases w0 : a1 = 0
    · have hf := if_t w0 hf
      rw [w0]
      refine lv_tableIn (off := 36) (tgt := 44) hx hb dX6_count_8 (by decide) (by decide) (by decide) (by decide) ?_
      refine lv_aload_n hx hb dX6_count_44 rfl (lv_at hl 1 rfl) ?_
      refine g_X6_skids hx hb hX6 hown hKK hP (show qk 48 = 6 from rfl) K82 dX6_count_45 ?_
      obtain rfl := Option.some.inj hf
      exact r_iret hx hb hr hP hS dX6_count_48 hlocks
    · have hf := if_f w0 hf
      by_cases w1 : a1 = 1
      · have hf := if_t w1 hf
        rw [w1]
        refine lv_tableIn (off := 41) (tgt := 49) hx hb dX6_count_8 (by decide) (by decide) (by decide) (by decide) ?_
        refine lv_iconst (v := 0) hx hb dX6_count_49 (by decide) ?_
        refine lv_istore_n (lv' := [(3, .int 0), (2, .int 0), (0, .ref (ad 48)), (1, .int a1)]) hx hb dX6_count_50 rfl hl (by decide) rfl (fun ls hl => ?_)
        have L1 : ∀ (fuel : Nat) (v3 : Int32) (v4 : Int32), lp_X6_count_51 (setF 48 0 0 S) fuel v3 v4 = some o → ∀ (H : Heap) (locs : List Loc) (ls : Array Slot), va_P D vwCl (wd ca ad (setF 48 0 0 S)) H → va_S (Aq ad s.heap.size) s.heap H locs → lv_has ls 4 [(0, .ref (ad 48)), (2, .int v3), (3, .int v4)] → W p l e rm_X6_count s m args below meth c H locs 0 0 (Zi below D ca ad args s o.1 o.2) (F0 m 51 ls []) := by
          intro fuel
          induction fuel with
          | zero =>
            intro v3 v4 hf
            simp [lp_X6_count_51] at hf
          | succ fuel ih =>
            intro v3 v4 hf H locs ls hP hS hl
            rw [lp_X6_count_51] at hf
            refine lv_iload_n hx hb dX6_count_51 rfl (lv_at hl 2 rfl) ?_
            refine lv_aload_n hx hb dX6_count_52 rfl (lv_at hl 0 rfl) ?_
            refine g_X6_skids hx hb hX6 hown hKK hP (show qk 48 = 6 from rfl) K82 dX6_count_53 ?_
            refine lv_icmp_ge (tgt := 82) hx hb dX6_count_56 (by decide) (fun w => ?_) (fun w => ?_)
            · have hf := if_t w hf
              refine lv_iload_n hx hb dX6_count_82 rfl (lv_at hl 1 rfl) ?_
              obtain rfl := Option.some.inj hf
              exact r_iret hx hb hr hP hS dX6_count_83 hlocks
            · have hf := if_f w hf
              refine lv_iload_n hx hb dX6_count_59 rfl (lv_at hl 1 rfl) ?_
              refine lv_aload_n hx hb dX6_count_60 rfl (lv_at hl 0 rfl) ?_
              refine g_X6_isDropped hx hb hX6 hown hKK hP (show qk 48 = 6 from rfl) K26 dX6_count_61 ?_
              refine lv_iload_n hx hb dX6_count_64 rfl (lv_at hl 2 rfl) ?_
              obtain ⟨v5, h6, hf⟩ := bd_e hf
              refine r_zald hx hb hKK hP (show qk 54 = 8 from rfl) (show qn 54 = 12 from rfl) h6 dX6_count_65 ?_
              obtain ⟨q7, hq7, hf⟩ := bd_e hf
              have J2 : ∀ (H : Heap) (locs : List Loc) (ls : Array Slot), va_P D vwCl (wd ca ad (setF 48 0 0 S)) H → va_S (Aq ad s.heap.size) s.heap H locs → lv_has ls 4 [(0, .ref (ad 48)), (3, .int v4)] → W p l e rm_X6_count s m args below meth c H locs 0 0 (Zi below D ca ad args s o.1 o.2) (F0 m 74 ls [.int q7, .int v3]) := by
                intro H locs ls hP hS hl
                refine lv_iadd hx hb dX6_count_74 ?_
                refine lv_istore_n (lv' := [(2, .int (v3 + q7)), (0, .ref (ad 48)), (3, .int v4)]) hx hb dX6_count_75 rfl hl (by decide) rfl (fun ls hl => ?_)
                refine lv_iinc (v := (v4 + 1)) (lv' := [(3, .int (v4 + 1)), (2, .int (v3 + q7)), (0, .ref (ad 48))]) hx hb dX6_count_76 hl (k := 2) rfl rfl (by decide) rfl (fun ls hl => ?_)
                refine lv_goto (tgt := 51) hx hb dX6_count_79 (by decide) ?_
                exact ih _ _ hf _ _ _ hP hS (lv_sub hl [2, 1, 0] rfl)
              replace hf := hq7
              refine lv_if_eq (tgt := 73) hx hb dX6_count_66 (by decide) (fun w => ?_) (fun w => ?_)
              · have hf := if_t w hf
                refine lv_iconst (v := 1) hx hb dX6_count_73 (by decide) ?_
                obtain rfl := Option.some.inj hf
                exact J2 _ _ _ hP hS (lv_sub hl [0, 2] rfl)
              · have hf := if_f w hf
                refine lv_iconst (v := 0) hx hb dX6_count_69 (by decide) ?_
                refine lv_goto (tgt := 74) hx hb dX6_count_70 (by decide) ?_
                obtain rfl := Option.some.inj hf
                exact J2 _ _ _ hP hS (lv_sub hl [0, 2] rfl)
        exact L1 _ _ _ hf _ _ _ hP hS (lv_sub hl [2, 1, 0] rfl)
      · have hf := if_f w1 hf
        by_cases w2 : a1 = 2
        · have hf := if_t w2 hf
          rw [w2]
          refine lv_tableIn (off := 76) (tgt := 84) hx hb dX6_count_8 (by decide) (by decide) (by decide) (by decide) ?_
          refine lv_aload_n hx hb dX6_count_84 rfl (lv_at hl 1 rfl) ?_
          refine g_X6_tales hx hb hX6 hown hKK hP (show qk 48 = 6 from rfl) K92 dX6_count_85 ?_
          obtain rfl := Option.some.inj hf
          exact r_iret hx hb hr hP hS dX6_count_88 hlocks
        · have hf := if_f w2 hf
          by_cases w3 : a1 = 3
          · have hf := if_t w3 hf
            rw [w3]
            refine lv_tableIn (off := 81) (tgt := 89) hx hb dX6_count_8 (by decide) (by decide) (by decide) (by decide) ?_
            refine lv_aload_n hx hb dX6_count_89 rfl (lv_at hl 1 rfl) ?_
            refine g_X6_mass hx hb hX6 hown hKK hP (show qk 48 = 6 from rfl) K7 dX6_count_90 ?_
            refine lv_iload_n hx hb dX6_count_93 rfl (lv_at hl 2 rfl) ?_
            refine lv_iconst (v := 3) hx hb dX6_count_94 (by decide) ?_
            refine lv_isub hx hb dX6_count_95 ?_
            obtain ⟨v8, h9, hf⟩ := bd_e hf
            refine r_iald hx hb hKK hP (show qk 49 = 7 from rfl) (show qn 49 = 2 from rfl) h9 dX6_count_96 ?_
            obtain rfl := Option.some.inj hf
            exact r_iret hx hb hr hP hS dX6_count_97 hlocks
          · have hf := if_f w3 hf
            by_cases w4 : a1 = 4
            · have hf := if_t w4 hf
              rw [w4]
              refine lv_tableIn (off := 81) (tgt := 89) hx hb dX6_count_8 (by decide) (by decide) (by decide) (by decide) ?_
              refine lv_aload_n hx hb dX6_count_89 rfl (lv_at hl 1 rfl) ?_
              refine g_X6_mass hx hb hX6 hown hKK hP (show qk 48 = 6 from rfl) K7 dX6_count_90 ?_
              refine lv_iload_n hx hb dX6_count_93 rfl (lv_at hl 2 rfl) ?_
              refine lv_iconst (v := 3) hx hb dX6_count_94 (by decide) ?_
              refine lv_isub hx hb dX6_count_95 ?_
              obtain ⟨v10, h11, hf⟩ := bd_e hf
              refine r_iald hx hb hKK hP (show qk 49 = 7 from rfl) (show qn 49 = 2 from rfl) h11 dX6_count_96 ?_
              obtain rfl := Option.some.inj hf
              exact r_iret hx hb hr hP hS dX6_count_97 hlocks
            · have hf := if_f w4 hf
              refine lv_tableOut (tgt := 98) hx hb dX6_count_8 (q_out5 w0 w1 w2 w3 w4) (by decide) ?_
              refine lv_iconst (v := (-1)) hx hb dX6_count_98 (by decide) ?_
              obtain rfl := Option.some.inj hf
              exact r_iret hx hb hr hP hS dX6_count_99 hlocks
  exact main s.heap [] ls hP va_S.rf hl
def rm_X6_skid : Room := { frames := 2, cells := 0, slots := 0, locals := 42 }
set_option maxRecDepth 100000 in
set_option maxHeartbeats 4000000 in
theorem m_X6_skid (l : Launch) (D : va_G) (ca : Nat → ClassId) (ad : Nat → Nat) (hj : Inj ad) (a1 : Int32) (a2 : Int32) (a3 : Int32) (a4 : Int32) (a5 : Int32) (a6 : Int32) (S : QS) (o : Int32 × QS) (hf : f_X6_skid a1 a2 a3 a4 a5 a6 S = some o) : Ci l D ca ad yX6_skid wsX6_skid rm_X6_skid [.ref (ad 48), .int a1, .int a2, .int a3, .int a4, .int a5, .int a6] S o.1 o.2 := by
  intro sz
  refine Met.ofW (cc := cX6_skid) (maxL := 7) (ret := (some .int)) (by decide) rfl ?_
  intro p e s m args below meth c s₁ B hml hv
  obtain ⟨hav, hsz, hP, hKK⟩ := hv
  have hx := B.exec
  have hb := B.bytes
  have hr := B.returns
  have hts := atoms_spec (ws := wsX6_skid) B.pre
  have hown : s.vm.findClass RX6 = some m.cls := findClass_of_methodNamed B.named
  have hlocks := B.notSynchronized
  subst hsz
  have hX6 : ∀ w ∈ wsX60, w.before _ s = true := fun w h => hts w (List.mem_cons_of_mem _ (List.mem_append_right _ h))
  have K13 := hts (Cond.fieldLink RX6 13 "CrashDeskModel" "sCar" "[I") (List.mem_cons_of_mem _ (List.mem_append_left _ (List.mem_of_getElem? (i := 2) rfl)))
  have K16 := hts (Cond.fieldLink RX6 16 "CrashDeskModel" "sBehind" "[Z") (List.mem_cons_of_mem _ (List.mem_append_left _ (List.mem_of_getElem? (i := 3) rfl)))
  have K20 := hts (Cond.fieldLink RX6 20 "CrashDeskModel" "sLeast" "[I") (List.mem_cons_of_mem _ (List.mem_append_left _ (List.mem_of_getElem? (i := 4) rfl)))
  have K23 := hts (Cond.fieldLink RX6 23 "CrashDeskModel" "sMost" "[I") (List.mem_cons_of_mem _ (List.mem_append_left _ (List.mem_of_getElem? (i := 5) rfl)))
  have K66 := hts (Cond.fieldLink RX6 66 "CrashDeskModel" "thrown" "I") (List.mem_cons_of_mem _ (List.mem_append_left _ (List.mem_of_getElem? (i := 0) rfl)))
  have K82 := hts (Cond.fieldLink RX6 82 "CrashDeskModel" "skids" "I") (List.mem_cons_of_mem _ (List.mem_append_left _ (List.mem_of_getElem? (i := 1) rfl)))
  have hl := lv_entry [.ref (ad 48), .int a1, .int a2, .int a3, .int a4, .int a5, .int a6] (n := 7) (Nat.le_of_ble_eq_true rfl)
  rw [show entryFrame m args 7 = entryFrame m ([.ref (ad 48), .int a1, .int a2, .int a3, .int a4, .int a5, .int a6] : List Value).toArray 7 by rw [hav], lg_entry_eq]
  generalize (lg_sl [.ref (ad 48), .int a1, .int a2, .int a3, .int a4, .int a5, .int a6] ++ List.replicate (7 - (lg_sl [.ref (ad 48), .int a1, .int a2, .int a3, .int a4, .int a5, .int a6]).length) Slot.unset).toArray = ls at hl ⊢
  have hl : lv_has ls 7 [(0, .ref (ad 48)), (1, .int a1), (2, .int a2), (3, .int a3), (4, .int a4), (5, .int a5), (6, .int a6)] := hl
  have main : ∀ (H : Heap) (locs : List Loc) (ls : Array Slot), va_P D vwCl (wd ca ad S) H → va_S (Aq ad s.heap.size) s.heap H locs → lv_has ls 7 [(0, .ref (ad 48)), (1, .int a1), (2, .int a2), (3, .int a3), (4, .int a4), (5, .int a5), (6, .int a6)] → W p l e rm_X6_skid s m args below meth c H locs 0 0 (Zi below D ca ad args s o.1 o.2) (F0 m 0 ls []) := by
    intro H locs ls hP hS hl
    unfold f_X6_skid at hf
    refine lv_aload_n hx hb dX6_skid_0 rfl (lv_at hl 0 rfl) ?_
    refine lv_iconst (v := 0) hx hb dX6_skid_1 (by decide) ?_
    obtain ⟨S1, h2, hf⟩ := bd_e hf
    obtain rfl := Option.some.inj h2
    refine p_X6_thrown hx hb hX6 hown hj hKK hP hS (show qk 48 = 6 from rfl) K66 dX6_skid_2 (fun H locs hP hS => ?_)
    refine lv_aload_n hx hb dX6_skid_5 rfl (lv_at hl 0 rfl) ?_
    refine lv_iload_n hx hb dX6_skid_6 rfl (lv_at hl 1 rfl) ?_
    obtain ⟨v4, h3, hf⟩ := bd_e hf
    refine r_ci hS (va_runS (As := [.int a1]) (rest := [.ref (ad 48)]) ⟨hx, hb, hml, hown, hts⟩ (m_X6_noCar l D ca ad hj a1 (setF 48 0 0 S) _ h3 H.size) (cwS 1 hts gX6_skid_X6_noCar rfl rfl rfl (by decide +kernel) ⟨Nat.le_of_ble_eq_true rfl, Nat.le_of_ble_eq_true rfl⟩) (r_pre hKK hP) rfl rfl hl.1 rfl (lv_room (Nat.le_of_ble_eq_true rfl)) dX6_skid_7 ⟨Nat.le_of_ble_eq_true rfl, Nat.le_of_ble_eq_true rfl⟩) (fun H locs hP hS => ?_)
    refine lv_iconst (v := 1) hx hb dX6_skid_10 (by decide) ?_
    obtain ⟨q6, h5, hf⟩ := bd_e hf
    refine r_ci hS (va_runV (As := [.int v4, .int 1]) (rest := []) ⟨hx, hb, hml, hown, hts⟩ (m_X6_throwsIf l D ca ad hj v4 1 (setF 48 0 0 S) _ h5 H.size) (cwV 2 hts gX6_skid_X6_throwsIf rfl rfl rfl (by decide +kernel) ⟨Nat.le_of_ble_eq_true rfl, Nat.le_of_ble_eq_true rfl⟩) (r_preV hKK hP (show qk 48 = 6 from rfl) rfl) rfl rfl hl.1 rfl (lv_room (Nat.le_of_ble_eq_true rfl)) dX6_skid_11 ⟨Nat.le_of_ble_eq_true rfl, Nat.le_of_ble_eq_true rfl⟩) (fun H locs hP hS => ?_)
    refine lv_if_ne (tgt := 90) hx hb dX6_skid_14 (by decide) (fun w => ?_) (fun w => ?_)
    · have hf := if_f w hf
      refine lv_iconst (v := 0) hx hb dX6_skid_90 (by decide) ?_
      obtain rfl := Option.some.inj hf
      exact r_iret hx hb hr hP hS dX6_skid_91 hlocks
    · have hf := if_t w hf
      refine lv_aload_n hx hb dX6_skid_17 rfl (lv_at hl 0 rfl) ?_
      refine lv_iload_n hx hb dX6_skid_18 rfl (lv_at hl 3 rfl) ?_
      obtain ⟨q7, hq7, hf⟩ := bd_e hf
      have J1 : ∀ (H : Heap) (locs : List Loc) (ls : Array Slot), va_P D vwCl (wd ca ad q6.2) H → va_S (Aq ad s.heap.size) s.heap H locs → lv_has ls 7 [(0, .ref (ad 48)), (1, .int a1), (2, .int a2), (3, .int a3), (4, .int a4), (5, .int a5), (6, .int a6)] → W p l e rm_X6_skid s m args below meth c H locs 0 0 (Zi below D ca ad args s o.1 o.2) (F0 m 61 ls [.int q7, .ref (ad 48)]) := by
        intro H locs ls hP hS hl
        refine lv_iconst (v := 2) hx hb dX6_skid_61 (by decide) ?_
        obtain ⟨q9, h8, hf⟩ := bd_e hf
        refine r_ci hS (va_runV (As := [.int q7, .int 2]) (rest := []) ⟨hx, hb, hml, hown, hts⟩ (m_X6_throwsIf l D ca ad hj q7 2 q6.2 _ h8 H.size) (cwV 2 hts gX6_skid_X6_throwsIf rfl rfl rfl (by decide +kernel) ⟨Nat.le_of_ble_eq_true rfl, Nat.le_of_ble_eq_true rfl⟩) (r_preV hKK hP (show qk 48 = 6 from rfl) rfl) rfl rfl hl.1 rfl (lv_room (Nat.le_of_ble_eq_true rfl)) dX6_skid_62 ⟨Nat.le_of_ble_eq_true rfl, Nat.le_of_ble_eq_true rfl⟩) (fun H locs hP hS => ?_)
        refine lv_if_ne (tgt := 90) hx hb dX6_skid_65 (by decide) (fun w => ?_) (fun w => ?_)
        · have hf := if_f w hf
          refine lv_iconst (v := 0) hx hb dX6_skid_90 (by decide) ?_
          obtain rfl := Option.some.inj hf
          exact r_iret hx hb hr hP hS dX6_skid_91 hlocks
        · have hf := if_t w hf
          refine lv_aload_n hx hb dX6_skid_68 rfl (lv_at hl 0 rfl) ?_
          refine lv_aload_n hx hb dX6_skid_69 rfl (lv_at hl 0 rfl) ?_
          refine g_X6_skids hx hb hX6 hown hKK hP (show qk 48 = 6 from rfl) K82 dX6_skid_70 ?_
          refine lv_bipush (v := 12) hx hb dX6_skid_73 (by decide) ?_
          obtain ⟨q10, hq10, hf⟩ := bd_e hf
          have J2 : ∀ (H : Heap) (locs : List Loc) (ls : Array Slot), va_P D vwCl (wd ca ad q9.2) H → va_S (Aq ad s.heap.size) s.heap H locs → lv_has ls 7 [(0, .ref (ad 48)), (1, .int a1), (2, .int a2), (3, .int a3), (4, .int a4), (5, .int a5), (6, .int a6)] → W p l e rm_X6_skid s m args below meth c H locs 0 0 (Zi below D ca ad args s o.1 o.2) (F0 m 83 ls [.int q10, .ref (ad 48)]) := by
            intro H locs ls hP hS hl
            refine lv_iconst (v := 3) hx hb dX6_skid_83 (by decide) ?_
            obtain ⟨q12, h11, hf⟩ := bd_e hf
            refine r_ci hS (va_runV (As := [.int q10, .int 3]) (rest := []) ⟨hx, hb, hml, hown, hts⟩ (m_X6_throwsIf l D ca ad hj q10 3 q9.2 _ h11 H.size) (cwV 2 hts gX6_skid_X6_throwsIf rfl rfl rfl (by decide +kernel) ⟨Nat.le_of_ble_eq_true rfl, Nat.le_of_ble_eq_true rfl⟩) (r_preV hKK hP (show qk 48 = 6 from rfl) rfl) rfl rfl hl.1 rfl (lv_room (Nat.le_of_ble_eq_true rfl)) dX6_skid_84 ⟨Nat.le_of_ble_eq_true rfl, Nat.le_of_ble_eq_true rfl⟩) (fun H locs hP hS => ?_)
            refine lv_if_eq (tgt := 92) hx hb dX6_skid_87 (by decide) (fun w => ?_) (fun w => ?_)
            · have hf := if_t w hf
              refine lv_aload_n hx hb dX6_skid_92 rfl (lv_at hl 0 rfl) ?_
              refine g_X6_sCar hx hb hX6 hown hKK hP (show qk 48 = 6 from rfl) K13 dX6_skid_93 ?_
              refine lv_aload_n hx hb dX6_skid_96 rfl (lv_at hl 0 rfl) ?_
              refine g_X6_skids hx hb hX6 hown hKK hP (show qk 48 = 6 from rfl) K82 dX6_skid_97 ?_
              refine lv_iload_n hx hb dX6_skid_100 rfl (lv_at hl 1 rfl) ?_
              obtain ⟨S13, h14, hf⟩ := bd_e hf
              refine r_iast hx hb hj hKK hP hS (show qk 50 = 7 from rfl) (show qn 50 = 12 from rfl) h14 dX6_skid_101 (fun H locs hP hS => ?_)
              refine lv_aload_n hx hb dX6_skid_102 rfl (lv_at hl 0 rfl) ?_
              refine g_X6_sBehind hx hb hX6 hown hKK hP (show qk 48 = 6 from rfl) K16 dX6_skid_103 ?_
              refine lv_aload_n hx hb dX6_skid_106 rfl (lv_at hl 0 rfl) ?_
              refine g_X6_skids hx hb hX6 hown hKK hP (show qk 48 = 6 from rfl) K82 dX6_skid_107 ?_
              refine lv_iload_n hx hb dX6_skid_110 rfl (lv_at hl 2 rfl) ?_
              obtain ⟨S15, h16, hf⟩ := bd_e hf
              refine r_zast hx hb hj hKK hP hS (show qk 51 = 8 from rfl) (show qn 51 = 12 from rfl) h16 dX6_skid_111 (fun H locs hP hS => ?_)
              refine lv_aload_n hx hb dX6_skid_112 rfl (lv_at hl 0 rfl) ?_
              refine g_X6_sLeast hx hb hX6 hown hKK hP (show qk 48 = 6 from rfl) K20 dX6_skid_113 ?_
              refine lv_aload_n hx hb dX6_skid_116 rfl (lv_at hl 0 rfl) ?_
              refine g_X6_skids hx hb hX6 hown hKK hP (show qk 48 = 6 from rfl) K82 dX6_skid_117 ?_
              refine lv_iload_n hx hb dX6_skid_120 rfl (lv_at hl 3 rfl) ?_
              refine lv_iload hx hb dX6_skid_121 (lv_at hl 5 rfl) ?_
              refine lv_imul hx hb dX6_skid_123 ?_
              obtain ⟨S17, h18, hf⟩ := bd_e hf
              refine r_iast hx hb hj hKK hP hS (show qk 52 = 7 from rfl) (show qn 52 = 12 from rfl) h18 dX6_skid_124 (fun H locs hP hS => ?_)
              refine lv_aload_n hx hb dX6_skid_125 rfl (lv_at hl 0 rfl) ?_
              refine g_X6_sMost hx hb hX6 hown hKK hP (show qk 48 = 6 from rfl) K23 dX6_skid_126 ?_
              refine lv_aload_n hx hb dX6_skid_129 rfl (lv_at hl 0 rfl) ?_
              refine g_X6_skids hx hb hX6 hown hKK hP (show qk 48 = 6 from rfl) K82 dX6_skid_130 ?_
              refine lv_iload hx hb dX6_skid_133 (lv_at hl 4 rfl) ?_
              refine lv_iload hx hb dX6_skid_135 (lv_at hl 6 rfl) ?_
              refine lv_imul hx hb dX6_skid_137 ?_
              obtain ⟨S19, h20, hf⟩ := bd_e hf
              refine r_iast hx hb hj hKK hP hS (show qk 53 = 7 from rfl) (show qn 53 = 12 from rfl) h20 dX6_skid_138 (fun H locs hP hS => ?_)
              refine lv_aload_n hx hb dX6_skid_139 rfl (lv_at hl 0 rfl) ?_
              refine lv_dup hx hb dX6_skid_140 rfl ?_
              refine g_X6_skids hx hb hX6 hown hKK hP (show qk 48 = 6 from rfl) K82 dX6_skid_141 ?_
              refine lv_iconst (v := 1) hx hb dX6_skid_144 (by decide) ?_
              refine lv_iadd hx hb dX6_skid_145 ?_
              obtain ⟨S21, h22, hf⟩ := bd_e hf
              obtain rfl := Option.some.inj h22
              refine p_X6_skids hx hb hX6 hown hj hKK hP hS (show qk 48 = 6 from rfl) K82 dX6_skid_146 (fun H locs hP hS => ?_)
              refine lv_aload_n hx hb dX6_skid_149 rfl (lv_at hl 0 rfl) ?_
              refine g_X6_skids hx hb hX6 hown hKK hP (show qk 48 = 6 from rfl) K82 dX6_skid_150 ?_
              refine lv_iconst (v := 1) hx hb dX6_skid_153 (by decide) ?_
              refine lv_isub hx hb dX6_skid_154 ?_
              obtain rfl := Option.some.inj hf
              exact r_iret hx hb hr hP hS dX6_skid_155 hlocks
            · have hf := if_f w hf
              refine lv_iconst (v := 0) hx hb dX6_skid_90 (by decide) ?_
              obtain rfl := Option.some.inj hf
              exact r_iret hx hb hr hP hS dX6_skid_91 hlocks
          replace hf := hq10
          refine lv_icmp_ne (tgt := 82) hx hb dX6_skid_75 (by decide) (fun w => ?_) (fun w => ?_)
          · have hf := if_f w hf
            refine lv_iconst (v := 0) hx hb dX6_skid_82 (by decide) ?_
            obtain rfl := Option.some.inj hf
            exact J2 _ _ _ hP hS (lv_sub hl [0, 1, 2, 3, 4, 5, 6] rfl)
          · have hf := if_t w hf
            refine lv_iconst (v := 1) hx hb dX6_skid_78 (by decide) ?_
            refine lv_goto (tgt := 83) hx hb dX6_skid_79 (by decide) ?_
            obtain rfl := Option.some.inj hf
            exact J2 _ _ _ hP hS (lv_sub hl [0, 1, 2, 3, 4, 5, 6] rfl)
      replace hf := hq7
      refine lv_if_lt (tgt := 56) hx hb dX6_skid_19 (by decide) (fun w => ?_) (fun w => ?_)
      · have hf := if_t w hf
        refine lv_iconst (v := 1) hx hb dX6_skid_56 (by decide) ?_
        refine lv_goto (tgt := 61) hx hb dX6_skid_57 (by decide) ?_
        obtain rfl := Option.some.inj hf
        exact J1 _ _ _ hP hS (lv_sub hl [0, 1, 2, 3, 4, 5, 6] rfl)
      · have hf := if_f w hf
        refine lv_iload hx hb dX6_skid_22 (lv_at hl 4 rfl) ?_
        refine lv_iload_n hx hb dX6_skid_24 rfl (lv_at hl 3 rfl) ?_
        refine lv_icmp_lt (tgt := 56) hx hb dX6_skid_25 (by decide) (fun w => ?_) (fun w => ?_)
        · have hf := if_t w hf
          refine lv_iconst (v := 1) hx hb dX6_skid_56 (by decide) ?_
          refine lv_goto (tgt := 61) hx hb dX6_skid_57 (by decide) ?_
          obtain rfl := Option.some.inj hf
          exact J1 _ _ _ hP hS (lv_sub hl [0, 1, 2, 3, 4, 5, 6] rfl)
        · have hf := if_f w hf
          refine lv_iload hx hb dX6_skid_28 (lv_at hl 4 rfl) ?_
          refine lv_sipush (v := 2000) hx hb dX6_skid_30 (by decide) ?_
          refine lv_icmp_gt (tgt := 56) hx hb dX6_skid_33 (by decide) (fun w => ?_) (fun w => ?_)
          · have hf := if_t w hf
            refine lv_iconst (v := 1) hx hb dX6_skid_56 (by decide) ?_
            refine lv_goto (tgt := 61) hx hb dX6_skid_57 (by decide) ?_
            obtain rfl := Option.some.inj hf
            exact J1 _ _ _ hP hS (lv_sub hl [0, 1, 2, 3, 4, 5, 6] rfl)
          · have hf := if_f w hf
            refine lv_iload hx hb dX6_skid_36 (lv_at hl 5 rfl) ?_
            refine lv_if_lt (tgt := 56) hx hb dX6_skid_38 (by decide) (fun w => ?_) (fun w => ?_)
            · have hf := if_t w hf
              refine lv_iconst (v := 1) hx hb dX6_skid_56 (by decide) ?_
              refine lv_goto (tgt := 61) hx hb dX6_skid_57 (by decide) ?_
              obtain rfl := Option.some.inj hf
              exact J1 _ _ _ hP hS (lv_sub hl [0, 1, 2, 3, 4, 5, 6] rfl)
            · have hf := if_f w hf
              refine lv_iload hx hb dX6_skid_41 (lv_at hl 6 rfl) ?_
              refine lv_iload hx hb dX6_skid_43 (lv_at hl 5 rfl) ?_
              refine lv_icmp_lt (tgt := 56) hx hb dX6_skid_45 (by decide) (fun w => ?_) (fun w => ?_)
              · have hf := if_t w hf
                refine lv_iconst (v := 1) hx hb dX6_skid_56 (by decide) ?_
                refine lv_goto (tgt := 61) hx hb dX6_skid_57 (by decide) ?_
                obtain rfl := Option.some.inj hf
                exact J1 _ _ _ hP hS (lv_sub hl [0, 1, 2, 3, 4, 5, 6] rfl)
              · have hf := if_f w hf
                refine lv_iload hx hb dX6_skid_48 (lv_at hl 6 rfl) ?_
                refine lv_sipush (v := 150) hx hb dX6_skid_50 (by decide) ?_
                refine lv_icmp_le (tgt := 60) hx hb dX6_skid_53 (by decide) (fun w => ?_) (fun w => ?_)
                · have hf := if_t w hf
                  refine lv_iconst (v := 0) hx hb dX6_skid_60 (by decide) ?_
                  obtain rfl := Option.some.inj hf
                  exact J1 _ _ _ hP hS (lv_sub hl [0, 1, 2, 3, 4, 5, 6] rfl)
                · have hf := if_f w hf
                  refine lv_iconst (v := 1) hx hb dX6_skid_56 (by decide) ?_
                  refine lv_goto (tgt := 61) hx hb dX6_skid_57 (by decide) ?_
                  obtain rfl := Option.some.inj hf
                  exact J1 _ _ _ hP hS (lv_sub hl [0, 1, 2, 3, 4, 5, 6] rfl)
  exact main s.heap [] ls hP va_S.rf hl
def rm_X6_tale : Room := { frames := 3, cells := 0, slots := 0, locals := 63 }
set_option maxRecDepth 100000 in
set_option maxHeartbeats 4000000 in
theorem m_X6_tale (l : Launch) (D : va_G) (ca : Nat → ClassId) (ad : Nat → Nat) (hj : Inj ad) (a1 : Int32) (a2 : Int32) (a3 : Int32) (a4 : Int32) (S : QS) (o : Int32 × QS) (hf : f_X6_tale a1 a2 a3 a4 S = some o) : Ci l D ca ad yX6_tale wsX6_tale rm_X6_tale [.ref (ad 48), .int a1, .int a2, .int a3, .int a4] S o.1 o.2 := by
  intro sz
  refine Met.ofW (cc := cX6_tale) (maxL := 5) (ret := (some .int)) (by decide) rfl ?_
  intro p e s m args below meth c s₁ B hml hv
  obtain ⟨hav, hsz, hP, hKK⟩ := hv
  have hx := B.exec
  have hb := B.bytes
  have hr := B.returns
  have hts := atoms_spec (ws := wsX6_tale) B.pre
  have hown : s.vm.findClass RX6 = some m.cls := findClass_of_methodNamed B.named
  have hlocks := B.notSynchronized
  subst hsz
  have hX6 : ∀ w ∈ wsX60, w.before _ s = true := fun w h => hts w (List.mem_cons_of_mem _ (List.mem_append_right _ h))
  have K35 := hts (Cond.fieldLink RX6 35 "CrashDeskModel" "tRow" "[I") (List.mem_cons_of_mem _ (List.mem_append_left _ (List.mem_of_getElem? (i := 2) rfl)))
  have K38 := hts (Cond.fieldLink RX6 38 "CrashDeskModel" "tLow" "[I") (List.mem_cons_of_mem _ (List.mem_append_left _ (List.mem_of_getElem? (i := 3) rfl)))
  have K41 := hts (Cond.fieldLink RX6 41 "CrashDeskModel" "tHigh" "[I") (List.mem_cons_of_mem _ (List.mem_append_left _ (List.mem_of_getElem? (i := 4) rfl)))
  have K66 := hts (Cond.fieldLink RX6 66 "CrashDeskModel" "thrown" "I") (List.mem_cons_of_mem _ (List.mem_append_left _ (List.mem_of_getElem? (i := 0) rfl)))
  have K92 := hts (Cond.fieldLink RX6 92 "CrashDeskModel" "tales" "I") (List.mem_cons_of_mem _ (List.mem_append_left _ (List.mem_of_getElem? (i := 1) rfl)))
  have hl := lv_entry [.ref (ad 48), .int a1, .int a2, .int a3, .int a4] (n := 5) (Nat.le_of_ble_eq_true rfl)
  rw [show entryFrame m args 5 = entryFrame m ([.ref (ad 48), .int a1, .int a2, .int a3, .int a4] : List Value).toArray 5 by rw [hav], lg_entry_eq]
  generalize (lg_sl [.ref (ad 48), .int a1, .int a2, .int a3, .int a4] ++ List.replicate (5 - (lg_sl [.ref (ad 48), .int a1, .int a2, .int a3, .int a4]).length) Slot.unset).toArray = ls at hl ⊢
  have hl : lv_has ls 5 [(0, .ref (ad 48)), (1, .int a1), (2, .int a2), (3, .int a3), (4, .int a4)] := hl
  have main : ∀ (H : Heap) (locs : List Loc) (ls : Array Slot), va_P D vwCl (wd ca ad S) H → va_S (Aq ad s.heap.size) s.heap H locs → lv_has ls 5 [(0, .ref (ad 48)), (1, .int a1), (2, .int a2), (3, .int a3), (4, .int a4)] → W p l e rm_X6_tale s m args below meth c H locs 0 0 (Zi below D ca ad args s o.1 o.2) (F0 m 0 ls []) := by
    intro H locs ls hP hS hl
    unfold f_X6_tale at hf
    refine lv_aload_n hx hb dX6_tale_0 rfl (lv_at hl 0 rfl) ?_
    refine lv_iconst (v := 0) hx hb dX6_tale_1 (by decide) ?_
    obtain ⟨S1, h2, hf⟩ := bd_e hf
    obtain rfl := Option.some.inj h2
    refine p_X6_thrown hx hb hX6 hown hj hKK hP hS (show qk 48 = 6 from rfl) K66 dX6_tale_2 (fun H locs hP hS => ?_)
    refine lv_aload_n hx hb dX6_tale_5 rfl (lv_at hl 0 rfl) ?_
    refine lv_iload_n hx hb dX6_tale_6 rfl (lv_at hl 1 rfl) ?_
    refine lv_iload_n hx hb dX6_tale_7 rfl (lv_at hl 2 rfl) ?_
    obtain ⟨v4, h3, hf⟩ := bd_e hf
    refine r_ci hS (va_runS (As := [.int a1, .int a2]) (rest := [.ref (ad 48)]) ⟨hx, hb, hml, hown, hts⟩ (m_X6_noSpeed l D ca ad hj a1 a2 (setF 48 0 0 S) _ h3 H.size) (cwS 2 hts gX6_tale_X6_noSpeed rfl rfl rfl (by decide +kernel) ⟨Nat.le_of_ble_eq_true rfl, Nat.le_of_ble_eq_true rfl⟩) (r_pre hKK hP) rfl rfl hl.1 rfl (lv_room (Nat.le_of_ble_eq_true rfl)) dX6_tale_8 ⟨Nat.le_of_ble_eq_true rfl, Nat.le_of_ble_eq_true rfl⟩) (fun H locs hP hS => ?_)
    refine lv_iconst (v := 1) hx hb dX6_tale_11 (by decide) ?_
    obtain ⟨q6, h5, hf⟩ := bd_e hf
    refine r_ci hS (va_runV (As := [.int v4, .int 1]) (rest := []) ⟨hx, hb, hml, hown, hts⟩ (m_X6_throwsIf l D ca ad hj v4 1 (setF 48 0 0 S) _ h5 H.size) (cwV 2 hts gX6_tale_X6_throwsIf rfl rfl rfl (by decide +kernel) ⟨Nat.le_of_ble_eq_true rfl, Nat.le_of_ble_eq_true rfl⟩) (r_preV hKK hP (show qk 48 = 6 from rfl) rfl) rfl rfl hl.1 rfl (lv_room (Nat.le_of_ble_eq_true rfl)) dX6_tale_12 ⟨Nat.le_of_ble_eq_true rfl, Nat.le_of_ble_eq_true rfl⟩) (fun H locs hP hS => ?_)
    refine lv_if_ne (tgt := 54) hx hb dX6_tale_15 (by decide) (fun w => ?_) (fun w => ?_)
    · have hf := if_f w hf
      refine lv_iconst (v := 0) hx hb dX6_tale_54 (by decide) ?_
      obtain rfl := Option.some.inj hf
      exact r_iret hx hb hr hP hS dX6_tale_55 hlocks
    · have hf := if_t w hf
      refine lv_aload_n hx hb dX6_tale_18 rfl (lv_at hl 0 rfl) ?_
      refine lv_iload_n hx hb dX6_tale_19 rfl (lv_at hl 3 rfl) ?_
      refine lv_iload hx hb dX6_tale_20 (lv_at hl 4 rfl) ?_
      obtain ⟨v8, h7, hf⟩ := bd_e hf
      refine r_ci hS (va_runS (As := [.int a3, .int a4]) (rest := [.ref (ad 48)]) ⟨hx, hb, hml, hown, hts⟩ (m_X6_noSpan l D ca ad hj a3 a4 q6.2 _ h7 H.size) (cwS 2 hts gX6_tale_X6_noSpan rfl rfl rfl (by decide +kernel) ⟨Nat.le_of_ble_eq_true rfl, Nat.le_of_ble_eq_true rfl⟩) (r_pre hKK hP) rfl rfl hl.1 rfl (lv_room (Nat.le_of_ble_eq_true rfl)) dX6_tale_22 ⟨Nat.le_of_ble_eq_true rfl, Nat.le_of_ble_eq_true rfl⟩) (fun H locs hP hS => ?_)
      refine lv_iconst (v := 2) hx hb dX6_tale_25 (by decide) ?_
      obtain ⟨q10, h9, hf⟩ := bd_e hf
      refine r_ci hS (va_runV (As := [.int v8, .int 2]) (rest := []) ⟨hx, hb, hml, hown, hts⟩ (m_X6_throwsIf l D ca ad hj v8 2 q6.2 _ h9 H.size) (cwV 2 hts gX6_tale_X6_throwsIf rfl rfl rfl (by decide +kernel) ⟨Nat.le_of_ble_eq_true rfl, Nat.le_of_ble_eq_true rfl⟩) (r_preV hKK hP (show qk 48 = 6 from rfl) rfl) rfl rfl hl.1 rfl (lv_room (Nat.le_of_ble_eq_true rfl)) dX6_tale_26 ⟨Nat.le_of_ble_eq_true rfl, Nat.le_of_ble_eq_true rfl⟩) (fun H locs hP hS => ?_)
      refine lv_if_ne (tgt := 54) hx hb dX6_tale_29 (by decide) (fun w => ?_) (fun w => ?_)
      · have hf := if_f w hf
        refine lv_iconst (v := 0) hx hb dX6_tale_54 (by decide) ?_
        obtain rfl := Option.some.inj hf
        exact r_iret hx hb hr hP hS dX6_tale_55 hlocks
      · have hf := if_t w hf
        refine lv_aload_n hx hb dX6_tale_32 rfl (lv_at hl 0 rfl) ?_
        refine lv_aload_n hx hb dX6_tale_33 rfl (lv_at hl 0 rfl) ?_
        refine g_X6_tales hx hb hX6 hown hKK hP (show qk 48 = 6 from rfl) K92 dX6_tale_34 ?_
        refine lv_bipush (v := 10) hx hb dX6_tale_37 (by decide) ?_
        obtain ⟨q11, hq11, hf⟩ := bd_e hf
        have J1 : ∀ (H : Heap) (locs : List Loc) (ls : Array Slot), va_P D vwCl (wd ca ad q10.2) H → va_S (Aq ad s.heap.size) s.heap H locs → lv_has ls 5 [(0, .ref (ad 48)), (1, .int a1), (2, .int a2), (3, .int a3), (4, .int a4)] → W p l e rm_X6_tale s m args below meth c H locs 0 0 (Zi below D ca ad args s o.1 o.2) (F0 m 47 ls [.int q11, .ref (ad 48)]) := by
          intro H locs ls hP hS hl
          refine lv_iconst (v := 3) hx hb dX6_tale_47 (by decide) ?_
          obtain ⟨q13, h12, hf⟩ := bd_e hf
          refine r_ci hS (va_runV (As := [.int q11, .int 3]) (rest := []) ⟨hx, hb, hml, hown, hts⟩ (m_X6_throwsIf l D ca ad hj q11 3 q10.2 _ h12 H.size) (cwV 2 hts gX6_tale_X6_throwsIf rfl rfl rfl (by decide +kernel) ⟨Nat.le_of_ble_eq_true rfl, Nat.le_of_ble_eq_true rfl⟩) (r_preV hKK hP (show qk 48 = 6 from rfl) rfl) rfl rfl hl.1 rfl (lv_room (Nat.le_of_ble_eq_true rfl)) dX6_tale_48 ⟨Nat.le_of_ble_eq_true rfl, Nat.le_of_ble_eq_true rfl⟩) (fun H locs hP hS => ?_)
          refine lv_if_eq (tgt := 56) hx hb dX6_tale_51 (by decide) (fun w => ?_) (fun w => ?_)
          · have hf := if_t w hf
            refine lv_aload_n hx hb dX6_tale_56 rfl (lv_at hl 0 rfl) ?_
            refine g_X6_tRow hx hb hX6 hown hKK hP (show qk 48 = 6 from rfl) K35 dX6_tale_57 ?_
            refine lv_aload_n hx hb dX6_tale_60 rfl (lv_at hl 0 rfl) ?_
            refine g_X6_tales hx hb hX6 hown hKK hP (show qk 48 = 6 from rfl) K92 dX6_tale_61 ?_
            refine lv_iconst (v := 3) hx hb dX6_tale_64 (by decide) ?_
            refine lv_iload_n hx hb dX6_tale_65 rfl (lv_at hl 1 rfl) ?_
            refine lv_imul hx hb dX6_tale_66 ?_
            refine lv_iload_n hx hb dX6_tale_67 rfl (lv_at hl 2 rfl) ?_
            refine lv_iadd hx hb dX6_tale_68 ?_
            obtain ⟨S14, h15, hf⟩ := bd_e hf
            refine r_iast hx hb hj hKK hP hS (show qk 57 = 7 from rfl) (show qn 57 = 10 from rfl) h15 dX6_tale_69 (fun H locs hP hS => ?_)
            refine lv_aload_n hx hb dX6_tale_70 rfl (lv_at hl 0 rfl) ?_
            refine g_X6_tLow hx hb hX6 hown hKK hP (show qk 48 = 6 from rfl) K38 dX6_tale_71 ?_
            refine lv_aload_n hx hb dX6_tale_74 rfl (lv_at hl 0 rfl) ?_
            refine g_X6_tales hx hb hX6 hown hKK hP (show qk 48 = 6 from rfl) K92 dX6_tale_75 ?_
            refine lv_iload_n hx hb dX6_tale_78 rfl (lv_at hl 3 rfl) ?_
            obtain ⟨S16, h17, hf⟩ := bd_e hf
            refine r_iast hx hb hj hKK hP hS (show qk 58 = 7 from rfl) (show qn 58 = 10 from rfl) h17 dX6_tale_79 (fun H locs hP hS => ?_)
            refine lv_aload_n hx hb dX6_tale_80 rfl (lv_at hl 0 rfl) ?_
            refine g_X6_tHigh hx hb hX6 hown hKK hP (show qk 48 = 6 from rfl) K41 dX6_tale_81 ?_
            refine lv_aload_n hx hb dX6_tale_84 rfl (lv_at hl 0 rfl) ?_
            refine g_X6_tales hx hb hX6 hown hKK hP (show qk 48 = 6 from rfl) K92 dX6_tale_85 ?_
            refine lv_iload hx hb dX6_tale_88 (lv_at hl 4 rfl) ?_
            obtain ⟨S18, h19, hf⟩ := bd_e hf
            refine r_iast hx hb hj hKK hP hS (show qk 59 = 7 from rfl) (show qn 59 = 10 from rfl) h19 dX6_tale_90 (fun H locs hP hS => ?_)
            refine lv_aload_n hx hb dX6_tale_91 rfl (lv_at hl 0 rfl) ?_
            refine lv_dup hx hb dX6_tale_92 rfl ?_
            refine g_X6_tales hx hb hX6 hown hKK hP (show qk 48 = 6 from rfl) K92 dX6_tale_93 ?_
            refine lv_iconst (v := 1) hx hb dX6_tale_96 (by decide) ?_
            refine lv_iadd hx hb dX6_tale_97 ?_
            obtain ⟨S20, h21, hf⟩ := bd_e hf
            obtain rfl := Option.some.inj h21
            refine p_X6_tales hx hb hX6 hown hj hKK hP hS (show qk 48 = 6 from rfl) K92 dX6_tale_98 (fun H locs hP hS => ?_)
            refine lv_aload_n hx hb dX6_tale_101 rfl (lv_at hl 0 rfl) ?_
            refine g_X6_tales hx hb hX6 hown hKK hP (show qk 48 = 6 from rfl) K92 dX6_tale_102 ?_
            refine lv_iconst (v := 1) hx hb dX6_tale_105 (by decide) ?_
            refine lv_isub hx hb dX6_tale_106 ?_
            obtain rfl := Option.some.inj hf
            exact r_iret hx hb hr hP hS dX6_tale_107 hlocks
          · have hf := if_f w hf
            refine lv_iconst (v := 0) hx hb dX6_tale_54 (by decide) ?_
            obtain rfl := Option.some.inj hf
            exact r_iret hx hb hr hP hS dX6_tale_55 hlocks
        replace hf := hq11
        refine lv_icmp_ne (tgt := 46) hx hb dX6_tale_39 (by decide) (fun w => ?_) (fun w => ?_)
        · have hf := if_f w hf
          refine lv_iconst (v := 0) hx hb dX6_tale_46 (by decide) ?_
          obtain rfl := Option.some.inj hf
          exact J1 _ _ _ hP hS (lv_sub hl [0, 1, 2, 3, 4] rfl)
        · have hf := if_t w hf
          refine lv_iconst (v := 1) hx hb dX6_tale_42 (by decide) ?_
          refine lv_goto (tgt := 47) hx hb dX6_tale_43 (by decide) ?_
          obtain rfl := Option.some.inj hf
          exact J1 _ _ _ hP hS (lv_sub hl [0, 1, 2, 3, 4] rfl)
  exact main s.heap [] ls hP va_S.rf hl
