def rm_X3_setPrice : Room := { frames := 0, cells := 0, slots := 0, locals := 0 }
set_option maxRecDepth 100000 in
set_option maxHeartbeats 4000000 in
theorem m_X3_setPrice (l : Launch) (D : va_G) (ca : Nat → ClassId) (ad : Nat → Nat) (hj : Inj ad) (k : Nat) (hk : qk k = 3) (a1 : Int32) (a2 : Int32) (S : QS) (o : QS) (hf : f_X3_setPrice k a1 a2 S = some o) : Cv l D ca ad yX3_setPrice wsX3_setPrice rm_X3_setPrice [.ref (ad k), .int a1, .int a2] S o := by
  intro sz
  refine Met.ofW (cc := cX3_setPrice) (maxL := 3) (ret := none) (by decide) rfl ?_
  intro p e s m args below meth c s₁ B hml hv
  obtain ⟨hav, hsz, hP, hKK⟩ := hv
  have hx := B.exec
  have hb := B.bytes
  have hr := B.returns
  have hts := atoms_spec (ws := wsX3_setPrice) B.pre
  have hown : s.vm.findClass RX3 = some m.cls := findClass_of_methodNamed B.named
  have hlocks := B.notSynchronized
  subst hsz
  have hX3 : ∀ w ∈ wsX30, w.before _ s = true := fun w h => hts w (List.mem_cons_of_mem _ (List.mem_append_right _ h))
  have K24 := hts (Cond.fieldLink RX3 24 "CrashDesk$Speed" "prices" "[I") (List.mem_cons_of_mem _ (List.mem_append_left _ (List.mem_of_getElem? (i := 0) rfl)))
  have hl := lv_entry [.ref (ad k), .int a1, .int a2] (n := 3) (Nat.le_of_ble_eq_true rfl)
  rw [show entryFrame m args 3 = entryFrame m ([.ref (ad k), .int a1, .int a2] : List Value).toArray 3 by rw [hav], lg_entry_eq]
  generalize (lg_sl [.ref (ad k), .int a1, .int a2] ++ List.replicate (3 - (lg_sl [.ref (ad k), .int a1, .int a2]).length) Slot.unset).toArray = ls at hl ⊢
  have hl : lv_has ls 3 [(0, .ref (ad k)), (1, .int a1), (2, .int a2)] := hl
  have main : ∀ (H : Heap) (locs : List Loc) (ls : Array Slot), va_P D vwCl (wd ca ad S) H → va_S (Aq ad s.heap.size) s.heap H locs → lv_has ls 3 [(0, .ref (ad k)), (1, .int a1), (2, .int a2)] → W p l e rm_X3_setPrice s m args below meth c H locs 0 0 (Zv below D ca ad args s o) (F0 m 0 ls []) := by
    intro H locs ls hP hS hl
    unfold f_X3_setPrice at hf
    refine lv_iload_n hx hb dX3_setPrice_0 rfl (lv_at hl 1 rfl) ?_
    refine lv_bipush (v := (-50)) hx hb dX3_setPrice_1 (by decide) ?_
    refine lv_icmp_lt (tgt := 22) hx hb dX3_setPrice_3 (by decide) (fun w => ?_) (fun w => ?_)
    · have hf := if_t w hf
      obtain rfl := Option.some.inj hf
      exact r_vret hx hb hr hP hS dX3_setPrice_22 hlocks
    · have hf := if_f w hf
      refine lv_iload_n hx hb dX3_setPrice_6 rfl (lv_at hl 1 rfl) ?_
      refine lv_bipush (v := 50) hx hb dX3_setPrice_7 (by decide) ?_
      refine lv_icmp_gt (tgt := 22) hx hb dX3_setPrice_9 (by decide) (fun w => ?_) (fun w => ?_)
      · have hf := if_t w hf
        obtain rfl := Option.some.inj hf
        exact r_vret hx hb hr hP hS dX3_setPrice_22 hlocks
      · have hf := if_f w hf
        refine lv_aload_n hx hb dX3_setPrice_12 rfl (lv_at hl 0 rfl) ?_
        refine g_X3_prices hx hb hX3 hown hKK hP hk K24 dX3_setPrice_13 ?_
        refine lv_iload_n hx hb dX3_setPrice_16 rfl (lv_at hl 1 rfl) ?_
        refine lv_bipush (v := (-50)) hx hb dX3_setPrice_17 (by decide) ?_
        refine lv_isub hx hb dX3_setPrice_19 ?_
        refine lv_iload_n hx hb dX3_setPrice_20 rfl (lv_at hl 2 rfl) ?_
        obtain ⟨S1, h2, hf⟩ := bd_e hf
        refine r_iast hx hb hj hKK hP hS (q_sp hk).1 (q_sp hk).2.1 h2 dX3_setPrice_21 (fun H locs hP hS => ?_)
        obtain rfl := Option.some.inj hf
        exact r_vret hx hb hr hP hS dX3_setPrice_22 hlocks
  exact main s.heap [] ls hP va_S.rf hl
def rm_X3_clear : Room := { frames := 1, cells := 0, slots := 0, locals := 22 }
set_option maxRecDepth 100000 in
set_option maxHeartbeats 4000000 in
theorem m_X3_clear (l : Launch) (D : va_G) (ca : Nat → ClassId) (ad : Nat → Nat) (hj : Inj ad) (k : Nat) (hk : qk k = 3) (S : QS) (o : QS) (hf : f_X3_clear k S = some o) : Cv l D ca ad yX3_clear wsX3_clear rm_X3_clear [.ref (ad k)] S o := by
  intro sz
  refine Met.ofW (cc := cX3_clear) (maxL := 2) (ret := none) (by decide) rfl ?_
  intro p e s m args below meth c s₁ B hml hv
  obtain ⟨hav, hsz, hP, hKK⟩ := hv
  have hx := B.exec
  have hb := B.bytes
  have hr := B.returns
  have hts := atoms_spec (ws := wsX3_clear) B.pre
  have hown : s.vm.findClass RX3 = some m.cls := findClass_of_methodNamed B.named
  have hlocks := B.notSynchronized
  subst hsz
  have hX3 : ∀ w ∈ wsX30, w.before _ s = true := fun w h => hts w (List.mem_cons_of_mem _ (List.mem_append_right _ h))
  have K9 := hts (Cond.fieldLink RX3 9 "CrashDesk$Speed" "low" "I") (List.mem_cons_of_mem _ (List.mem_append_left _ (List.mem_of_getElem? (i := 0) rfl)))
  have K15 := hts (Cond.fieldLink RX3 15 "CrashDesk$Speed" "high" "I") (List.mem_cons_of_mem _ (List.mem_append_left _ (List.mem_of_getElem? (i := 1) rfl)))
  have K28 := hts (Cond.fieldLink RX3 28 "CrashDesk$Speed" "seen" "[Z") (List.mem_cons_of_mem _ (List.mem_append_left _ (List.mem_of_getElem? (i := 2) rfl)))
  have hl := lv_entry [.ref (ad k)] (n := 2) (Nat.le_of_ble_eq_true rfl)
  rw [show entryFrame m args 2 = entryFrame m ([.ref (ad k)] : List Value).toArray 2 by rw [hav], lg_entry_eq]
  generalize (lg_sl [.ref (ad k)] ++ List.replicate (2 - (lg_sl [.ref (ad k)]).length) Slot.unset).toArray = ls at hl ⊢
  have hl : lv_has ls 2 [(0, .ref (ad k))] := hl
  have main : ∀ (H : Heap) (locs : List Loc) (ls : Array Slot), va_P D vwCl (wd ca ad S) H → va_S (Aq ad s.heap.size) s.heap H locs → lv_has ls 2 [(0, .ref (ad k))] → W p l e rm_X3_clear s m args below meth c H locs 0 0 (Zv below D ca ad args s o) (F0 m 0 ls []) := by
    intro H locs ls hP hS hl
    unfold f_X3_clear at hf
    refine lv_bipush (v := (-50)) hx hb dX3_clear_0 (by decide) ?_
    refine lv_istore_n (lv' := [(1, .int (-50)), (0, .ref (ad k))]) hx hb dX3_clear_2 rfl hl (by decide) rfl (fun ls hl => ?_)
    have L1 : ∀ (fuel : Nat) (v1 : Int32) (S2 : QS), lp_X3_clear_3 k fuel v1 S2 = some o → ∀ (H : Heap) (locs : List Loc) (ls : Array Slot), va_P D vwCl (wd ca ad S2) H → va_S (Aq ad s.heap.size) s.heap H locs → lv_has ls 2 [(0, .ref (ad k)), (1, .int v1)] → W p l e rm_X3_clear s m args below meth c H locs 0 0 (Zv below D ca ad args s o) (F0 m 3 ls []) := by
      intro fuel
      induction fuel with
      | zero =>
        intro v1 S2 hf
        simp [lp_X3_clear_3] at hf
      | succ fuel ih =>
        intro v1 S2 hf H locs ls hP hS hl
        rw [lp_X3_clear_3] at hf
        refine lv_iload_n hx hb dX3_clear_3 rfl (lv_at hl 1 rfl) ?_
        refine lv_bipush (v := 50) hx hb dX3_clear_4 (by decide) ?_
        refine lv_icmp_gt (tgt := 51) hx hb dX3_clear_6 (by decide) (fun w => ?_) (fun w => ?_)
        · have hf := if_t w hf
          obtain rfl := Option.some.inj hf
          exact r_vret hx hb hr hP hS dX3_clear_51 hlocks
        · have hf := if_f w hf
          refine lv_aload_n hx hb dX3_clear_9 rfl (lv_at hl 0 rfl) ?_
          refine lv_iload_n hx hb dX3_clear_10 rfl (lv_at hl 1 rfl) ?_
          refine lv_iload_n hx hb dX3_clear_11 rfl (lv_at hl 1 rfl) ?_
          refine lv_aload_n hx hb dX3_clear_12 rfl (lv_at hl 0 rfl) ?_
          refine g_X3_low hx hb hX3 hown hKK hP hk K9 dX3_clear_13 ?_
          obtain ⟨q3, hq3, hf⟩ := bd_e hf
          have J2 : ∀ (H : Heap) (locs : List Loc) (ls : Array Slot), va_P D vwCl (wd ca ad S2) H → va_S (Aq ad s.heap.size) s.heap H locs → lv_has ls 2 [(0, .ref (ad k)), (1, .int v1)] → W p l e rm_X3_clear s m args below meth c H locs 0 0 (Zv below D ca ad args s o) (F0 m 32 ls [.int q3, .int v1, .ref (ad k)]) := by
            intro H locs ls hP hS hl
            obtain ⟨S5, h4, hf⟩ := bd_e hf
            refine r_cv hS (va_runV (As := [.int v1, .int q3]) (rest := []) ⟨hx, hb, hml, hown, hts⟩ (m_X3_setPrice l D ca ad hj k hk v1 q3 S2 _ h4 H.size) (cwV 2 hts gX3_clear_X3_setPrice rfl rfl rfl (by decide +kernel) ⟨Nat.le_of_ble_eq_true rfl, Nat.le_of_ble_eq_true rfl⟩) (r_preV hKK hP hk rfl) rfl rfl hl.1 rfl (lv_room (Nat.le_of_ble_eq_true rfl)) dX3_clear_32 ⟨Nat.le_of_ble_eq_true rfl, Nat.le_of_ble_eq_true rfl⟩) (fun H locs hP hS => ?_)
            refine lv_aload_n hx hb dX3_clear_35 rfl (lv_at hl 0 rfl) ?_
            refine g_X3_seen hx hb hX3 hown hKK hP hk K28 dX3_clear_36 ?_
            refine lv_iload_n hx hb dX3_clear_39 rfl (lv_at hl 1 rfl) ?_
            refine lv_bipush (v := (-50)) hx hb dX3_clear_40 (by decide) ?_
            refine lv_isub hx hb dX3_clear_42 ?_
            refine lv_iconst (v := 0) hx hb dX3_clear_43 (by decide) ?_
            obtain ⟨S6, h7, hf⟩ := bd_e hf
            refine r_zast hx hb hj hKK hP hS (q_sp hk).2.2.1 (q_sp hk).2.2.2 h7 dX3_clear_44 (fun H locs hP hS => ?_)
            refine lv_iinc (v := (v1 + 1)) (lv' := [(1, .int (v1 + 1)), (0, .ref (ad k))]) hx hb dX3_clear_45 hl (k := 1) rfl rfl (by decide) rfl (fun ls hl => ?_)
            refine lv_goto (tgt := 3) hx hb dX3_clear_48 (by decide) ?_
            exact ih _ _ hf _ _ _ hP hS (lv_sub hl [1, 0] rfl)
          replace hf := hq3
          refine lv_icmp_lt (tgt := 27) hx hb dX3_clear_16 (by decide) (fun w => ?_) (fun w => ?_)
          · have hf := if_t w hf
            refine lv_iconst (v := (-1)) hx hb dX3_clear_27 (by decide) ?_
            refine lv_goto (tgt := 32) hx hb dX3_clear_28 (by decide) ?_
            obtain rfl := Option.some.inj hf
            exact J2 _ _ _ hP hS (lv_sub hl [0, 1] rfl)
          · have hf := if_f w hf
            refine lv_iload_n hx hb dX3_clear_19 rfl (lv_at hl 1 rfl) ?_
            refine lv_aload_n hx hb dX3_clear_20 rfl (lv_at hl 0 rfl) ?_
            refine g_X3_high hx hb hX3 hown hKK hP hk K15 dX3_clear_21 ?_
            refine lv_icmp_le (tgt := 31) hx hb dX3_clear_24 (by decide) (fun w => ?_) (fun w => ?_)
            · have hf := if_t w hf
              refine lv_iconst (v := 0) hx hb dX3_clear_31 (by decide) ?_
              obtain rfl := Option.some.inj hf
              exact J2 _ _ _ hP hS (lv_sub hl [0, 1] rfl)
            · have hf := if_f w hf
              refine lv_iconst (v := (-1)) hx hb dX3_clear_27 (by decide) ?_
              refine lv_goto (tgt := 32) hx hb dX3_clear_28 (by decide) ?_
              obtain rfl := Option.some.inj hf
              exact J2 _ _ _ hP hS (lv_sub hl [0, 1] rfl)
    exact L1 _ _ _ hf _ _ _ hP hS (lv_sub hl [1, 0] rfl)
  exact main s.heap [] ls hP va_S.rf hl
def rm_X3_priceOf : Room := { frames := 0, cells := 0, slots := 0, locals := 0 }
set_option maxRecDepth 100000 in
set_option maxHeartbeats 4000000 in
theorem m_X3_priceOf (l : Launch) (D : va_G) (ca : Nat → ClassId) (ad : Nat → Nat) (hj : Inj ad) (k : Nat) (hk : qk k = 3) (a1 : Int32) (S : QS) (o : Int32) (hf : f_X3_priceOf k a1 S = some o) : Ci l D ca ad yX3_priceOf wsX3_priceOf rm_X3_priceOf [.ref (ad k), .int a1] S o S := by
  intro sz
  refine Met.ofW (cc := cX3_priceOf) (maxL := 2) (ret := (some .int)) (by decide) rfl ?_
  intro p e s m args below meth c s₁ B hml hv
  obtain ⟨hav, hsz, hP, hKK⟩ := hv
  have hx := B.exec
  have hb := B.bytes
  have hr := B.returns
  have hts := atoms_spec (ws := wsX3_priceOf) B.pre
  have hown : s.vm.findClass RX3 = some m.cls := findClass_of_methodNamed B.named
  have hlocks := B.notSynchronized
  subst hsz
  have hX3 : ∀ w ∈ wsX30, w.before _ s = true := fun w h => hts w (List.mem_cons_of_mem _ (List.mem_append_right _ h))
  have K24 := hts (Cond.fieldLink RX3 24 "CrashDesk$Speed" "prices" "[I") (List.mem_cons_of_mem _ (List.mem_append_left _ (List.mem_of_getElem? (i := 0) rfl)))
  have hl := lv_entry [.ref (ad k), .int a1] (n := 2) (Nat.le_of_ble_eq_true rfl)
  rw [show entryFrame m args 2 = entryFrame m ([.ref (ad k), .int a1] : List Value).toArray 2 by rw [hav], lg_entry_eq]
  generalize (lg_sl [.ref (ad k), .int a1] ++ List.replicate (2 - (lg_sl [.ref (ad k), .int a1]).length) Slot.unset).toArray = ls at hl ⊢
  have hl : lv_has ls 2 [(0, .ref (ad k)), (1, .int a1)] := hl
  have main : ∀ (H : Heap) (locs : List Loc) (ls : Array Slot), va_P D vwCl (wd ca ad S) H → va_S (Aq ad s.heap.size) s.heap H locs → lv_has ls 2 [(0, .ref (ad k)), (1, .int a1)] → W p l e rm_X3_priceOf s m args below meth c H locs 0 0 (Zi below D ca ad args s o S) (F0 m 0 ls []) := by
    intro H locs ls hP hS hl
    unfold f_X3_priceOf at hf
    refine lv_iload_n hx hb dX3_priceOf_0 rfl (lv_at hl 1 rfl) ?_
    refine lv_bipush (v := (-50)) hx hb dX3_priceOf_1 (by decide) ?_
    refine lv_icmp_lt (tgt := 12) hx hb dX3_priceOf_3 (by decide) (fun w => ?_) (fun w => ?_)
    · have hf := if_t w hf
      refine lv_iconst (v := (-1)) hx hb dX3_priceOf_12 (by decide) ?_
      refine lv_goto (tgt := 25) hx hb dX3_priceOf_13 (by decide) ?_
      obtain rfl := Option.some.inj hf
      exact r_iret hx hb hr hP hS dX3_priceOf_25 hlocks
    · have hf := if_f w hf
      refine lv_iload_n hx hb dX3_priceOf_6 rfl (lv_at hl 1 rfl) ?_
      refine lv_bipush (v := 50) hx hb dX3_priceOf_7 (by decide) ?_
      refine lv_icmp_le (tgt := 16) hx hb dX3_priceOf_9 (by decide) (fun w => ?_) (fun w => ?_)
      · have hf := if_t w hf
        refine lv_aload_n hx hb dX3_priceOf_16 rfl (lv_at hl 0 rfl) ?_
        refine g_X3_prices hx hb hX3 hown hKK hP hk K24 dX3_priceOf_17 ?_
        refine lv_iload_n hx hb dX3_priceOf_20 rfl (lv_at hl 1 rfl) ?_
        refine lv_bipush (v := (-50)) hx hb dX3_priceOf_21 (by decide) ?_
        refine lv_isub hx hb dX3_priceOf_23 ?_
        obtain ⟨v1, h2, hf⟩ := bd_e hf
        refine r_iald hx hb hKK hP (q_sp hk).1 (q_sp hk).2.1 h2 dX3_priceOf_24 ?_
        obtain rfl := Option.some.inj hf
        exact r_iret hx hb hr hP hS dX3_priceOf_25 hlocks
      · have hf := if_f w hf
        refine lv_iconst (v := (-1)) hx hb dX3_priceOf_12 (by decide) ?_
        refine lv_goto (tgt := 25) hx hb dX3_priceOf_13 (by decide) ?_
        obtain rfl := Option.some.inj hf
        exact r_iret hx hb hr hP hS dX3_priceOf_25 hlocks
  exact main s.heap [] ls hP va_S.rf hl
def rm_X3_isOpen : Room := { frames := 1, cells := 0, slots := 0, locals := 21 }
set_option maxRecDepth 100000 in
set_option maxHeartbeats 4000000 in
theorem m_X3_isOpen (l : Launch) (D : va_G) (ca : Nat → ClassId) (ad : Nat → Nat) (hj : Inj ad) (k : Nat) (hk : qk k = 3) (a1 : Int32) (S : QS) (o : Int32) (hf : f_X3_isOpen k a1 S = some o) : Ci l D ca ad yX3_isOpen wsX3_isOpen rm_X3_isOpen [.ref (ad k), .int a1] S o S := by
  intro sz
  refine Met.ofW (cc := cX3_isOpen) (maxL := 2) (ret := (some .boolean)) (by decide) rfl ?_
  intro p e s m args below meth c s₁ B hml hv
  obtain ⟨hav, hsz, hP, hKK⟩ := hv
  have hx := B.exec
  have hb := B.bytes
  have hr := B.returns
  have hts := atoms_spec (ws := wsX3_isOpen) B.pre
  have hown : s.vm.findClass RX3 = some m.cls := findClass_of_methodNamed B.named
  have hlocks := B.notSynchronized
  subst hsz
  have hl := lv_entry [.ref (ad k), .int a1] (n := 2) (Nat.le_of_ble_eq_true rfl)
  rw [show entryFrame m args 2 = entryFrame m ([.ref (ad k), .int a1] : List Value).toArray 2 by rw [hav], lg_entry_eq]
  generalize (lg_sl [.ref (ad k), .int a1] ++ List.replicate (2 - (lg_sl [.ref (ad k), .int a1]).length) Slot.unset).toArray = ls at hl ⊢
  have hl : lv_has ls 2 [(0, .ref (ad k)), (1, .int a1)] := hl
  have main : ∀ (H : Heap) (locs : List Loc) (ls : Array Slot), va_P D vwCl (wd ca ad S) H → va_S (Aq ad s.heap.size) s.heap H locs → lv_has ls 2 [(0, .ref (ad k)), (1, .int a1)] → W p l e rm_X3_isOpen s m args below meth c H locs 0 0 (Zi below D ca ad args s o S) (F0 m 0 ls []) := by
    intro H locs ls hP hS hl
    unfold f_X3_isOpen at hf
    refine lv_aload_n hx hb dX3_isOpen_0 rfl (lv_at hl 0 rfl) ?_
    refine lv_iload_n hx hb dX3_isOpen_1 rfl (lv_at hl 1 rfl) ?_
    obtain ⟨v2, h1, hf⟩ := bd_e hf
    refine r_ci hS (va_runV (As := [.int a1]) (rest := []) ⟨hx, hb, hml, hown, hts⟩ (m_X3_priceOf l D ca ad hj k hk a1 S _ h1 H.size) (cwV 1 hts gX3_isOpen_X3_priceOf rfl rfl rfl (by decide +kernel) ⟨Nat.le_of_ble_eq_true rfl, Nat.le_of_ble_eq_true rfl⟩) (r_preV hKK hP hk rfl) rfl rfl hl.1 rfl (lv_room (Nat.le_of_ble_eq_true rfl)) dX3_isOpen_2 ⟨Nat.le_of_ble_eq_true rfl, Nat.le_of_ble_eq_true rfl⟩) (fun H locs hP hS => ?_)
    refine lv_iconst (v := (-1)) hx hb dX3_isOpen_5 (by decide) ?_
    refine lv_icmp_eq (tgt := 13) hx hb dX3_isOpen_6 (by decide) (fun w => ?_) (fun w => ?_)
    · have hf := if_t w hf
      refine lv_iconst (v := 0) hx hb dX3_isOpen_13 (by decide) ?_
      obtain rfl := Option.some.inj hf
      exact r_zret hx hb hr hP hS (Or.inl rfl) dX3_isOpen_14 hlocks
    · have hf := if_f w hf
      refine lv_iconst (v := 1) hx hb dX3_isOpen_9 (by decide) ?_
      refine lv_goto (tgt := 14) hx hb dX3_isOpen_10 (by decide) ?_
      obtain rfl := Option.some.inj hf
      exact r_zret hx hb hr hP hS (Or.inr rfl) dX3_isOpen_14 hlocks
  exact main s.heap [] ls hP va_S.rf hl
def rm_X3_hear : Room := { frames := 2, cells := 0, slots := 0, locals := 42 }
set_option maxRecDepth 100000 in
set_option maxHeartbeats 4000000 in
theorem m_X3_hear (l : Launch) (D : va_G) (ca : Nat → ClassId) (ad : Nat → Nat) (hj : Inj ad) (k : Nat) (hk : qk k = 3) (t1 : Nat) (ht1 : qk t1 = 4) (a2 : Int32) (S : QS) (o : QS) (hf : f_X3_hear k t1 a2 S = some o) : Cv l D ca ad yX3_hear wsX3_hear rm_X3_hear [.ref (ad k), .ref (ad t1), .int a2] S o := by
  intro sz
  refine Met.ofW (cc := cX3_hear) (maxL := 5) (ret := none) (by decide) rfl ?_
  intro p e s m args below meth c s₁ B hml hv
  obtain ⟨hav, hsz, hP, hKK⟩ := hv
  have hx := B.exec
  have hb := B.bytes
  have hr := B.returns
  have hts := atoms_spec (ws := wsX3_hear) B.pre
  have hown : s.vm.findClass RX3 = some m.cls := findClass_of_methodNamed B.named
  have hlocks := B.notSynchronized
  subst hsz
  have hX4 : ∀ w ∈ wsX40, w.before _ s = true := fun w h => hts w (List.mem_cons_of_mem _ (List.mem_append_left _ (List.mem_append_right _ h)))
  have K36 := hts (Cond.fieldLink RX3 36 "CrashDesk$Tale" "low" "I") (List.mem_cons_of_mem _ (List.mem_append_left _ (List.mem_append_left _ (List.mem_of_getElem? (i := 0) rfl))))
  have K39 := hts (Cond.fieldLink RX3 39 "CrashDesk$Tale" "high" "I") (List.mem_cons_of_mem _ (List.mem_append_left _ (List.mem_append_left _ (List.mem_of_getElem? (i := 1) rfl))))
  have hl := lv_entry [.ref (ad k), .ref (ad t1), .int a2] (n := 5) (Nat.le_of_ble_eq_true rfl)
  rw [show entryFrame m args 5 = entryFrame m ([.ref (ad k), .ref (ad t1), .int a2] : List Value).toArray 5 by rw [hav], lg_entry_eq]
  generalize (lg_sl [.ref (ad k), .ref (ad t1), .int a2] ++ List.replicate (5 - (lg_sl [.ref (ad k), .ref (ad t1), .int a2]).length) Slot.unset).toArray = ls at hl ⊢
  have hl : lv_has ls 5 [(0, .ref (ad k)), (1, .ref (ad t1)), (2, .int a2)] := hl
  have main : ∀ (H : Heap) (locs : List Loc) (ls : Array Slot), va_P D vwCl (wd ca ad S) H → va_S (Aq ad s.heap.size) s.heap H locs → lv_has ls 5 [(0, .ref (ad k)), (1, .ref (ad t1)), (2, .int a2)] → W p l e rm_X3_hear s m args below meth c H locs 0 0 (Zv below D ca ad args s o) (F0 m 0 ls []) := by
    intro H locs ls hP hS hl
    unfold f_X3_hear at hf
    refine lv_bipush (v := (-50)) hx hb dX3_hear_0 (by decide) ?_
    refine lv_istore_n (lv' := [(3, .int (-50)), (0, .ref (ad k)), (1, .ref (ad t1)), (2, .int a2)]) hx hb dX3_hear_2 rfl hl (by decide) rfl (fun ls hl => ?_)
    have L1 : ∀ (fuel : Nat) (v1 : Int32) (S2 : QS), lp_X3_hear_3 k t1 a2 fuel v1 S2 = some o → ∀ (H : Heap) (locs : List Loc) (ls : Array Slot), va_P D vwCl (wd ca ad S2) H → va_S (Aq ad s.heap.size) s.heap H locs → lv_has ls 5 [(0, .ref (ad k)), (1, .ref (ad t1)), (2, .int a2), (3, .int v1)] → W p l e rm_X3_hear s m args below meth c H locs 0 0 (Zv below D ca ad args s o) (F0 m 3 ls []) := by
      intro fuel
      induction fuel with
      | zero =>
        intro v1 S2 hf
        simp [lp_X3_hear_3] at hf
      | succ fuel ih =>
        intro v1 S2 hf H locs ls hP hS hl
        rw [lp_X3_hear_3] at hf
        refine lv_iload_n hx hb dX3_hear_3 rfl (lv_at hl 3 rfl) ?_
        refine lv_bipush (v := 50) hx hb dX3_hear_4 (by decide) ?_
        refine lv_icmp_gt (tgt := 72) hx hb dX3_hear_6 (by decide) (fun w => ?_) (fun w => ?_)
        · have hf := if_t w hf
          obtain rfl := Option.some.inj hf
          exact r_vret hx hb hr hP hS dX3_hear_72 hlocks
        · have hf := if_f w hf
          refine lv_iload_n hx hb dX3_hear_9 rfl (lv_at hl 3 rfl) ?_
          refine lv_aload_n hx hb dX3_hear_10 rfl (lv_at hl 1 rfl) ?_
          refine g_X4_low hx hb hX4 hown hKK hP ht1 K36 dX3_hear_11 ?_
          obtain ⟨q3, hq3, hf⟩ := bd_e hf
          have J2 : ∀ (H : Heap) (locs : List Loc) (ls : Array Slot), va_P D vwCl (wd ca ad S2) H → va_S (Aq ad s.heap.size) s.heap H locs → lv_has ls 5 [(0, .ref (ad k)), (1, .ref (ad t1)), (2, .int a2), (3, .int v1)] → W p l e rm_X3_hear s m args below meth c H locs 0 0 (Zv below D ca ad args s o) (F0 m 30 ls [.int q3]) := by
            intro H locs ls hP hS hl
            refine lv_istore (lv' := [(4, .int q3), (0, .ref (ad k)), (1, .ref (ad t1)), (2, .int a2), (3, .int v1)]) hx hb dX3_hear_30 hl (by decide) rfl (fun ls hl => ?_)
            refine lv_iload hx hb dX3_hear_32 (lv_at hl 0 rfl) ?_
            refine lv_if_ne (tgt := 66) hx hb dX3_hear_34 (by decide) (fun w => ?_) (fun w => ?_)
            · have hf := if_f w hf
              refine lv_iinc (v := (v1 + 1)) (lv' := [(3, .int (v1 + 1)), (4, .int q3), (0, .ref (ad k)), (1, .ref (ad t1)), (2, .int a2)]) hx hb dX3_hear_66 hl (k := 4) rfl rfl (by decide) rfl (fun ls hl => ?_)
              refine lv_goto (tgt := 3) hx hb dX3_hear_69 (by decide) ?_
              exact ih _ _ hf _ _ _ hP hS (lv_sub hl [2, 3, 4, 0] rfl)
            · have hf := if_t w hf
              refine lv_aload_n hx hb dX3_hear_37 rfl (lv_at hl 1 rfl) ?_
              refine lv_iload_n hx hb dX3_hear_38 rfl (lv_at hl 4 rfl) ?_
              obtain ⟨v5, h4, hf⟩ := bd_e hf
              refine r_ci hS (va_runV (As := [.int v1]) (rest := []) ⟨hx, hb, hml, hown, hts⟩ (m_X3_isOpen l D ca ad hj k hk v1 S2 _ h4 H.size) (cwV 1 hts gX3_hear_X3_isOpen rfl rfl rfl (by decide +kernel) ⟨Nat.le_of_ble_eq_true rfl, Nat.le_of_ble_eq_true rfl⟩) (r_preV hKK hP hk rfl) rfl rfl hl.1 rfl (lv_room (Nat.le_of_ble_eq_true rfl)) dX3_hear_39 ⟨Nat.le_of_ble_eq_true rfl, Nat.le_of_ble_eq_true rfl⟩) (fun H locs hP hS => ?_)
              refine lv_if_eq (tgt := 66) hx hb dX3_hear_42 (by decide) (fun w => ?_) (fun w => ?_)
              · have hf := if_t w hf
                refine lv_iinc (v := (v1 + 1)) (lv' := [(3, .int (v1 + 1)), (4, .int q3), (0, .ref (ad k)), (1, .ref (ad t1)), (2, .int a2)]) hx hb dX3_hear_66 hl (k := 4) rfl rfl (by decide) rfl (fun ls hl => ?_)
                refine lv_goto (tgt := 3) hx hb dX3_hear_69 (by decide) ?_
                exact ih _ _ hf _ _ _ hP hS (lv_sub hl [2, 3, 4, 0] rfl)
              · have hf := if_f w hf
                refine lv_aload_n hx hb dX3_hear_45 rfl (lv_at hl 1 rfl) ?_
                refine lv_iload_n hx hb dX3_hear_46 rfl (lv_at hl 4 rfl) ?_
                refine lv_iload_n hx hb dX3_hear_47 rfl (lv_at hl 3 rfl) ?_
                refine lv_iconst (v := (-1)) hx hb dX3_hear_48 (by decide) ?_
                obtain ⟨q6, hq6, hf⟩ := bd_e hf
                have J3 : ∀ (H : Heap) (locs : List Loc) (ls : Array Slot), va_P D vwCl (wd ca ad S2) H → va_S (Aq ad s.heap.size) s.heap H locs → lv_has ls 5 [(0, .ref (ad k)), (1, .ref (ad t1)), (2, .int a2), (3, .int v1)] → W p l e rm_X3_hear s m args below meth c H locs 0 0 (Zv below D ca ad args s o) (F0 m 63 ls [.int q6, .int v1, .ref (ad k)]) := by
                  intro H locs ls hP hS hl
                  obtain ⟨S10, h9, hf⟩ := bd_e hf
                  refine r_cv hS (va_runV (As := [.int v1, .int q6]) (rest := []) ⟨hx, hb, hml, hown, hts⟩ (m_X3_setPrice l D ca ad hj k hk v1 q6 S2 _ h9 H.size) (cwV 2 hts gX3_hear_X3_setPrice rfl rfl rfl (by decide +kernel) ⟨Nat.le_of_ble_eq_true rfl, Nat.le_of_ble_eq_true rfl⟩) (r_preV hKK hP hk rfl) rfl rfl hl.1 rfl (lv_room (Nat.le_of_ble_eq_true rfl)) dX3_hear_63 ⟨Nat.le_of_ble_eq_true rfl, Nat.le_of_ble_eq_true rfl⟩) (fun H locs hP hS => ?_)
                  refine lv_iinc (v := (v1 + 1)) (lv' := [(3, .int (v1 + 1)), (0, .ref (ad k)), (1, .ref (ad t1)), (2, .int a2)]) hx hb dX3_hear_66 hl (k := 3) rfl rfl (by decide) rfl (fun ls hl => ?_)
                  refine lv_goto (tgt := 3) hx hb dX3_hear_69 (by decide) ?_
                  exact ih _ _ hf _ _ _ hP hS (lv_sub hl [1, 2, 3, 0] rfl)
                replace hf := hq6
                refine lv_icmp_ne (tgt := 56) hx hb dX3_hear_49 (by decide) (fun w => ?_) (fun w => ?_)
                · have hf := if_f w hf
                  refine lv_aload_n hx hb dX3_hear_56 rfl (lv_at hl 1 rfl) ?_
                  refine lv_iload_n hx hb dX3_hear_57 rfl (lv_at hl 4 rfl) ?_
                  obtain ⟨v8, h7, hf⟩ := bd_e hf
                  refine r_ci hS (va_runV (As := [.int v1]) (rest := [.int v1, .ref (ad k)]) ⟨hx, hb, hml, hown, hts⟩ (m_X3_priceOf l D ca ad hj k hk v1 S2 _ h7 H.size) (cwV 1 hts gX3_hear_X3_priceOf rfl rfl rfl (by decide +kernel) ⟨Nat.le_of_ble_eq_true rfl, Nat.le_of_ble_eq_true rfl⟩) (r_preV hKK hP hk rfl) rfl rfl hl.1 rfl (lv_room (Nat.le_of_ble_eq_true rfl)) dX3_hear_58 ⟨Nat.le_of_ble_eq_true rfl, Nat.le_of_ble_eq_true rfl⟩) (fun H locs hP hS => ?_)
                  refine lv_iload_n hx hb dX3_hear_61 rfl (lv_at hl 3 rfl) ?_
                  refine lv_iadd hx hb dX3_hear_62 ?_
                  obtain rfl := Option.some.inj hf
                  exact J3 _ _ _ hP hS (lv_sub hl [1, 2, 3, 4] rfl)
                · have hf := if_t w hf
                  refine lv_iconst (v := (-1)) hx hb dX3_hear_52 (by decide) ?_
                  refine lv_goto (tgt := 63) hx hb dX3_hear_53 (by decide) ?_
                  obtain rfl := Option.some.inj hf
                  exact J3 _ _ _ hP hS (lv_sub hl [1, 2, 3, 4] rfl)
          replace hf := hq3
          refine lv_icmp_lt (tgt := 29) hx hb dX3_hear_14 (by decide) (fun w => ?_) (fun w => ?_)
          · have hf := if_t w hf
            refine lv_iconst (v := 0) hx hb dX3_hear_29 (by decide) ?_
            obtain rfl := Option.some.inj hf
            exact J2 _ _ _ hP hS (lv_sub hl [0, 1, 2, 3] rfl)
          · have hf := if_f w hf
            refine lv_iload_n hx hb dX3_hear_17 rfl (lv_at hl 3 rfl) ?_
            refine lv_aload_n hx hb dX3_hear_18 rfl (lv_at hl 1 rfl) ?_
            refine g_X4_high hx hb hX4 hown hKK hP ht1 K39 dX3_hear_19 ?_
            refine lv_icmp_gt (tgt := 29) hx hb dX3_hear_22 (by decide) (fun w => ?_) (fun w => ?_)
            · have hf := if_t w hf
              refine lv_iconst (v := 0) hx hb dX3_hear_29 (by decide) ?_
              obtain rfl := Option.some.inj hf
              exact J2 _ _ _ hP hS (lv_sub hl [0, 1, 2, 3] rfl)
            · have hf := if_f w hf
              refine lv_iconst (v := 1) hx hb dX3_hear_25 (by decide) ?_
              refine lv_goto (tgt := 30) hx hb dX3_hear_26 (by decide) ?_
              obtain rfl := Option.some.inj hf
              exact J2 _ _ _ hP hS (lv_sub hl [0, 1, 2, 3] rfl)
    exact L1 _ _ _ hf _ _ _ hP hS (lv_sub hl [1, 2, 3, 0] rfl)
  exact main s.heap [] ls hP va_S.rf hl
def rm_X3_bound : Room := { frames := 2, cells := 0, slots := 0, locals := 42 }
set_option maxRecDepth 100000 in
set_option maxHeartbeats 4000000 in
theorem m_X3_bound (l : Launch) (D : va_G) (ca : Nat → ClassId) (ad : Nat → Nat) (hj : Inj ad) (k : Nat) (hk : qk k = 3) (S : QS) (o : QS) (hf : f_X3_bound k S = some o) : Cv l D ca ad yX3_bound wsX3_bound rm_X3_bound [.ref (ad k)] S o := by
  intro sz
  refine Met.ofW (cc := cX3_bound) (maxL := 2) (ret := none) (by decide) rfl ?_
  intro p e s m args below meth c s₁ B hml hv
  obtain ⟨hav, hsz, hP, hKK⟩ := hv
  have hx := B.exec
  have hb := B.bytes
  have hr := B.returns
  have hts := atoms_spec (ws := wsX3_bound) B.pre
  have hown : s.vm.findClass RX3 = some m.cls := findClass_of_methodNamed B.named
  have hlocks := B.notSynchronized
  subst hsz
  have hX3 : ∀ w ∈ wsX30, w.before _ s = true := fun w h => hts w (List.mem_cons_of_mem _ (List.mem_append_right _ h))
  have K18 := hts (Cond.fieldLink RX3 18 "CrashDesk$Speed" "bottom" "I") (List.mem_cons_of_mem _ (List.mem_append_left _ (List.mem_of_getElem? (i := 0) rfl)))
  have K21 := hts (Cond.fieldLink RX3 21 "CrashDesk$Speed" "top" "I") (List.mem_cons_of_mem _ (List.mem_append_left _ (List.mem_of_getElem? (i := 1) rfl)))
  have K48 := hts (Cond.methodLink RX3 48 Lib.Math.min.name) (List.mem_cons_of_mem _ (List.mem_append_left _ (List.mem_of_getElem? (i := 2) rfl)))
  have hl := lv_entry [.ref (ad k)] (n := 2) (Nat.le_of_ble_eq_true rfl)
  rw [show entryFrame m args 2 = entryFrame m ([.ref (ad k)] : List Value).toArray 2 by rw [hav], lg_entry_eq]
  generalize (lg_sl [.ref (ad k)] ++ List.replicate (2 - (lg_sl [.ref (ad k)]).length) Slot.unset).toArray = ls at hl ⊢
  have hl : lv_has ls 2 [(0, .ref (ad k))] := hl
  have main : ∀ (H : Heap) (locs : List Loc) (ls : Array Slot), va_P D vwCl (wd ca ad S) H → va_S (Aq ad s.heap.size) s.heap H locs → lv_has ls 2 [(0, .ref (ad k))] → W p l e rm_X3_bound s m args below meth c H locs 0 0 (Zv below D ca ad args s o) (F0 m 0 ls []) := by
    intro H locs ls hP hS hl
    unfold f_X3_bound at hf
    refine lv_aload_n hx hb dX3_bound_0 rfl (lv_at hl 0 rfl) ?_
    refine lv_bipush (v := 51) hx hb dX3_bound_1 (by decide) ?_
    obtain ⟨S1, h2, hf⟩ := bd_e hf
    obtain rfl := Option.some.inj h2
    refine p_X3_bottom hx hb hX3 hown hj hKK hP hS hk K18 dX3_bound_3 (fun H locs hP hS => ?_)
    refine lv_aload_n hx hb dX3_bound_6 rfl (lv_at hl 0 rfl) ?_
    refine lv_bipush (v := (-51)) hx hb dX3_bound_7 (by decide) ?_
    obtain ⟨S3, h4, hf⟩ := bd_e hf
    obtain rfl := Option.some.inj h4
    refine p_X3_top hx hb hX3 hown hj hKK hP hS hk K21 dX3_bound_9 (fun H locs hP hS => ?_)
    refine lv_bipush (v := (-50)) hx hb dX3_bound_12 (by decide) ?_
    refine lv_istore_n (lv' := [(1, .int (-50)), (0, .ref (ad k))]) hx hb dX3_bound_14 rfl hl (by decide) rfl (fun ls hl => ?_)
    have L1 : ∀ (fuel : Nat) (v5 : Int32) (S6 : QS), lp_X3_bound_15 k fuel v5 S6 = some o → ∀ (H : Heap) (locs : List Loc) (ls : Array Slot), va_P D vwCl (wd ca ad S6) H → va_S (Aq ad s.heap.size) s.heap H locs → lv_has ls 2 [(0, .ref (ad k)), (1, .int v5)] → W p l e rm_X3_bound s m args below meth c H locs 0 0 (Zv below D ca ad args s o) (F0 m 15 ls []) := by
      intro fuel
      induction fuel with
      | zero =>
        intro v5 S6 hf
        simp [lp_X3_bound_15] at hf
      | succ fuel ih =>
        intro v5 S6 hf H locs ls hP hS hl
        rw [lp_X3_bound_15] at hf
        refine lv_iload_n hx hb dX3_bound_15 rfl (lv_at hl 1 rfl) ?_
        refine lv_bipush (v := 50) hx hb dX3_bound_16 (by decide) ?_
        refine lv_icmp_gt (tgt := 52) hx hb dX3_bound_18 (by decide) (fun w => ?_) (fun w => ?_)
        · have hf := if_t w hf
          obtain rfl := Option.some.inj hf
          exact r_vret hx hb hr hP hS dX3_bound_52 hlocks
        · have hf := if_f w hf
          refine lv_aload_n hx hb dX3_bound_21 rfl (lv_at hl 0 rfl) ?_
          refine lv_iload_n hx hb dX3_bound_22 rfl (lv_at hl 1 rfl) ?_
          obtain ⟨v8, h7, hf⟩ := bd_e hf
          refine r_ci hS (va_runV (As := [.int v5]) (rest := []) ⟨hx, hb, hml, hown, hts⟩ (m_X3_isOpen l D ca ad hj k hk v5 S6 _ h7 H.size) (cwV 1 hts gX3_bound_X3_isOpen rfl rfl rfl (by decide +kernel) ⟨Nat.le_of_ble_eq_true rfl, Nat.le_of_ble_eq_true rfl⟩) (r_preV hKK hP hk rfl) rfl rfl hl.1 rfl (lv_room (Nat.le_of_ble_eq_true rfl)) dX3_bound_23 ⟨Nat.le_of_ble_eq_true rfl, Nat.le_of_ble_eq_true rfl⟩) (fun H locs hP hS => ?_)
          refine lv_if_eq (tgt := 46) hx hb dX3_bound_26 (by decide) (fun w => ?_) (fun w => ?_)
          · have hf := if_t w hf
            refine lv_iinc (v := (v5 + 1)) (lv' := [(1, .int (v5 + 1)), (0, .ref (ad k))]) hx hb dX3_bound_46 hl (k := 1) rfl rfl (by decide) rfl (fun ls hl => ?_)
            refine lv_goto (tgt := 15) hx hb dX3_bound_49 (by decide) ?_
            exact ih _ _ hf _ _ _ hP hS (lv_sub hl [1, 0] rfl)
          · have hf := if_f w hf
            refine lv_aload_n hx hb dX3_bound_29 rfl (lv_at hl 0 rfl) ?_
            refine lv_aload_n hx hb dX3_bound_30 rfl (lv_at hl 0 rfl) ?_
            refine g_X3_bottom hx hb hX3 hown hKK hP hk K18 dX3_bound_31 ?_
            refine lv_iload_n hx hb dX3_bound_34 rfl (lv_at hl 1 rfl) ?_
            refine va_mmin hx hb (hml.trans hl.1.symm) hown K48 (hts _ (List.mem_cons_of_mem _ (List.mem_append_left _ (List.mem_of_getElem? (i := 3) rfl)))) (hts _ (List.mem_cons_of_mem _ (List.mem_append_left _ (List.mem_of_getElem? (i := 4) rfl)))) (hts _ (List.mem_cons_of_mem _ (List.mem_append_left _ (List.mem_of_getElem? (i := 5) rfl)))) (Nat.le_of_ble_eq_true rfl) (Nat.le_of_ble_eq_true rfl) (Nat.le_of_ble_eq_true rfl) (Nat.le_of_ble_eq_true rfl) dX3_bound_35 ?_
            obtain ⟨S9, h10, hf⟩ := bd_e hf
            obtain rfl := Option.some.inj h10
            refine p_X3_bottom hx hb hX3 hown hj hKK hP hS hk K18 dX3_bound_38 (fun H locs hP hS => ?_)
            refine lv_aload_n hx hb dX3_bound_41 rfl (lv_at hl 0 rfl) ?_
            refine lv_iload_n hx hb dX3_bound_42 rfl (lv_at hl 1 rfl) ?_
            obtain ⟨S11, h12, hf⟩ := bd_e hf
            obtain rfl := Option.some.inj h12
            refine p_X3_top hx hb hX3 hown hj hKK hP hS hk K21 dX3_bound_43 (fun H locs hP hS => ?_)
            refine lv_iinc (v := (v5 + 1)) (lv' := [(1, .int (v5 + 1)), (0, .ref (ad k))]) hx hb dX3_bound_46 hl (k := 1) rfl rfl (by decide) rfl (fun ls hl => ?_)
            refine lv_goto (tgt := 15) hx hb dX3_bound_49 (by decide) ?_
            exact ih _ _ hf _ _ _ hP hS (lv_sub hl [1, 0] rfl)
    exact L1 _ _ _ hf _ _ _ hP hS (lv_sub hl [1, 0] rfl)
  exact main s.heap [] ls hP va_S.rf hl
def rm_X3_see : Room := { frames := 0, cells := 0, slots := 0, locals := 0 }
set_option maxRecDepth 100000 in
set_option maxHeartbeats 4000000 in
theorem m_X3_see (l : Launch) (D : va_G) (ca : Nat → ClassId) (ad : Nat → Nat) (hj : Inj ad) (k : Nat) (hk : qk k = 3) (a1 : Int32) (S : QS) (o : QS) (hf : f_X3_see k a1 S = some o) : Cv l D ca ad yX3_see wsX3_see rm_X3_see [.ref (ad k), .int a1] S o := by
  intro sz
  refine Met.ofW (cc := cX3_see) (maxL := 2) (ret := none) (by decide) rfl ?_
  intro p e s m args below meth c s₁ B hml hv
  obtain ⟨hav, hsz, hP, hKK⟩ := hv
  have hx := B.exec
  have hb := B.bytes
  have hr := B.returns
  have hts := atoms_spec (ws := wsX3_see) B.pre
  have hown : s.vm.findClass RX3 = some m.cls := findClass_of_methodNamed B.named
  have hlocks := B.notSynchronized
  subst hsz
  have hX3 : ∀ w ∈ wsX30, w.before _ s = true := fun w h => hts w (List.mem_cons_of_mem _ (List.mem_append_right _ h))
  have K28 := hts (Cond.fieldLink RX3 28 "CrashDesk$Speed" "seen" "[Z") (List.mem_cons_of_mem _ (List.mem_append_left _ (List.mem_of_getElem? (i := 0) rfl)))
  have hl := lv_entry [.ref (ad k), .int a1] (n := 2) (Nat.le_of_ble_eq_true rfl)
  rw [show entryFrame m args 2 = entryFrame m ([.ref (ad k), .int a1] : List Value).toArray 2 by rw [hav], lg_entry_eq]
  generalize (lg_sl [.ref (ad k), .int a1] ++ List.replicate (2 - (lg_sl [.ref (ad k), .int a1]).length) Slot.unset).toArray = ls at hl ⊢
  have hl : lv_has ls 2 [(0, .ref (ad k)), (1, .int a1)] := hl
  have main : ∀ (H : Heap) (locs : List Loc) (ls : Array Slot), va_P D vwCl (wd ca ad S) H → va_S (Aq ad s.heap.size) s.heap H locs → lv_has ls 2 [(0, .ref (ad k)), (1, .int a1)] → W p l e rm_X3_see s m args below meth c H locs 0 0 (Zv below D ca ad args s o) (F0 m 0 ls []) := by
    intro H locs ls hP hS hl
    unfold f_X3_see at hf
    refine lv_iload_n hx hb dX3_see_0 rfl (lv_at hl 1 rfl) ?_
    refine lv_bipush (v := (-50)) hx hb dX3_see_1 (by decide) ?_
    refine lv_icmp_lt (tgt := 22) hx hb dX3_see_3 (by decide) (fun w => ?_) (fun w => ?_)
    · have hf := if_t w hf
      obtain rfl := Option.some.inj hf
      exact r_vret hx hb hr hP hS dX3_see_22 hlocks
    · have hf := if_f w hf
      refine lv_iload_n hx hb dX3_see_6 rfl (lv_at hl 1 rfl) ?_
      refine lv_bipush (v := 50) hx hb dX3_see_7 (by decide) ?_
      refine lv_icmp_gt (tgt := 22) hx hb dX3_see_9 (by decide) (fun w => ?_) (fun w => ?_)
      · have hf := if_t w hf
        obtain rfl := Option.some.inj hf
        exact r_vret hx hb hr hP hS dX3_see_22 hlocks
      · have hf := if_f w hf
        refine lv_aload_n hx hb dX3_see_12 rfl (lv_at hl 0 rfl) ?_
        refine g_X3_seen hx hb hX3 hown hKK hP hk K28 dX3_see_13 ?_
        refine lv_iload_n hx hb dX3_see_16 rfl (lv_at hl 1 rfl) ?_
        refine lv_bipush (v := (-50)) hx hb dX3_see_17 (by decide) ?_
        refine lv_isub hx hb dX3_see_19 ?_
        refine lv_iconst (v := 1) hx hb dX3_see_20 (by decide) ?_
        obtain ⟨S1, h2, hf⟩ := bd_e hf
        refine r_zast hx hb hj hKK hP hS (q_sp hk).2.2.1 (q_sp hk).2.2.2 h2 dX3_see_21 (fun H locs hP hS => ?_)
        obtain rfl := Option.some.inj hf
        exact r_vret hx hb hr hP hS dX3_see_22 hlocks
  exact main s.heap [] ls hP va_S.rf hl
def rm_X3_isSeen : Room := { frames := 0, cells := 0, slots := 0, locals := 0 }
set_option maxRecDepth 100000 in
set_option maxHeartbeats 4000000 in
theorem m_X3_isSeen (l : Launch) (D : va_G) (ca : Nat → ClassId) (ad : Nat → Nat) (hj : Inj ad) (k : Nat) (hk : qk k = 3) (a1 : Int32) (S : QS) (o : Int32) (hf : f_X3_isSeen k a1 S = some o) : Ci l D ca ad yX3_isSeen wsX3_isSeen rm_X3_isSeen [.ref (ad k), .int a1] S o S := by
  intro sz
  refine Met.ofW (cc := cX3_isSeen) (maxL := 2) (ret := (some .boolean)) (by decide) rfl ?_
  intro p e s m args below meth c s₁ B hml hv
  obtain ⟨hav, hsz, hP, hKK⟩ := hv
  have hx := B.exec
  have hb := B.bytes
  have hr := B.returns
  have hts := atoms_spec (ws := wsX3_isSeen) B.pre
  have hown : s.vm.findClass RX3 = some m.cls := findClass_of_methodNamed B.named
  have hlocks := B.notSynchronized
  subst hsz
  have hX3 : ∀ w ∈ wsX30, w.before _ s = true := fun w h => hts w (List.mem_cons_of_mem _ (List.mem_append_right _ h))
  have K28 := hts (Cond.fieldLink RX3 28 "CrashDesk$Speed" "seen" "[Z") (List.mem_cons_of_mem _ (List.mem_append_left _ (List.mem_of_getElem? (i := 0) rfl)))
  have hl := lv_entry [.ref (ad k), .int a1] (n := 2) (Nat.le_of_ble_eq_true rfl)
  rw [show entryFrame m args 2 = entryFrame m ([.ref (ad k), .int a1] : List Value).toArray 2 by rw [hav], lg_entry_eq]
  generalize (lg_sl [.ref (ad k), .int a1] ++ List.replicate (2 - (lg_sl [.ref (ad k), .int a1]).length) Slot.unset).toArray = ls at hl ⊢
  have hl : lv_has ls 2 [(0, .ref (ad k)), (1, .int a1)] := hl
  have main : ∀ (H : Heap) (locs : List Loc) (ls : Array Slot), va_P D vwCl (wd ca ad S) H → va_S (Aq ad s.heap.size) s.heap H locs → lv_has ls 2 [(0, .ref (ad k)), (1, .int a1)] → W p l e rm_X3_isSeen s m args below meth c H locs 0 0 (Zi below D ca ad args s o S) (F0 m 0 ls []) := by
    intro H locs ls hP hS hl
    unfold f_X3_isSeen at hf
    refine lv_iload_n hx hb dX3_isSeen_0 rfl (lv_at hl 1 rfl) ?_
    refine lv_bipush (v := (-50)) hx hb dX3_isSeen_1 (by decide) ?_
    refine lv_icmp_lt (tgt := 28) hx hb dX3_isSeen_3 (by decide) (fun w => ?_) (fun w => ?_)
    · have hf := if_t w hf
      refine lv_iconst (v := 0) hx hb dX3_isSeen_28 (by decide) ?_
      obtain rfl := Option.some.inj hf
      exact r_zret hx hb hr hP hS (Or.inl rfl) dX3_isSeen_29 hlocks
    · have hf := if_f w hf
      refine lv_iload_n hx hb dX3_isSeen_6 rfl (lv_at hl 1 rfl) ?_
      refine lv_bipush (v := 50) hx hb dX3_isSeen_7 (by decide) ?_
      refine lv_icmp_gt (tgt := 28) hx hb dX3_isSeen_9 (by decide) (fun w => ?_) (fun w => ?_)
      · have hf := if_t w hf
        refine lv_iconst (v := 0) hx hb dX3_isSeen_28 (by decide) ?_
        obtain rfl := Option.some.inj hf
        exact r_zret hx hb hr hP hS (Or.inl rfl) dX3_isSeen_29 hlocks
      · have hf := if_f w hf
        refine lv_aload_n hx hb dX3_isSeen_12 rfl (lv_at hl 0 rfl) ?_
        refine g_X3_seen hx hb hX3 hown hKK hP hk K28 dX3_isSeen_13 ?_
        refine lv_iload_n hx hb dX3_isSeen_16 rfl (lv_at hl 1 rfl) ?_
        refine lv_bipush (v := (-50)) hx hb dX3_isSeen_17 (by decide) ?_
        refine lv_isub hx hb dX3_isSeen_19 ?_
        obtain ⟨v1, h2, hf⟩ := bd_e hf
        refine r_zald hx hb hKK hP (q_sp hk).2.2.1 (q_sp hk).2.2.2 h2 dX3_isSeen_20 ?_
        refine lv_if_eq (tgt := 28) hx hb dX3_isSeen_21 (by decide) (fun w => ?_) (fun w => ?_)
        · have hf := if_t w hf
          refine lv_iconst (v := 0) hx hb dX3_isSeen_28 (by decide) ?_
          obtain rfl := Option.some.inj hf
          exact r_zret hx hb hr hP hS (Or.inl rfl) dX3_isSeen_29 hlocks
        · have hf := if_f w hf
          refine lv_iconst (v := 1) hx hb dX3_isSeen_24 (by decide) ?_
          refine lv_goto (tgt := 29) hx hb dX3_isSeen_25 (by decide) ?_
          obtain rfl := Option.some.inj hf
          exact r_zret hx hb hr hP hS (Or.inr rfl) dX3_isSeen_29 hlocks
  exact main s.heap [] ls hP va_S.rf hl
def rm_X3_leastSeen : Room := { frames := 1, cells := 0, slots := 0, locals := 21 }
set_option maxRecDepth 100000 in
set_option maxHeartbeats 4000000 in
theorem m_X3_leastSeen (l : Launch) (D : va_G) (ca : Nat → ClassId) (ad : Nat → Nat) (hj : Inj ad) (k : Nat) (hk : qk k = 3) (S : QS) (o : Int32) (hf : f_X3_leastSeen k S = some o) : Ci l D ca ad yX3_leastSeen wsX3_leastSeen rm_X3_leastSeen [.ref (ad k)] S o S := by
  intro sz
  refine Met.ofW (cc := cX3_leastSeen) (maxL := 2) (ret := (some .int)) (by decide) rfl ?_
  intro p e s m args below meth c s₁ B hml hv
  obtain ⟨hav, hsz, hP, hKK⟩ := hv
  have hx := B.exec
  have hb := B.bytes
  have hr := B.returns
  have hts := atoms_spec (ws := wsX3_leastSeen) B.pre
  have hown : s.vm.findClass RX3 = some m.cls := findClass_of_methodNamed B.named
  have hlocks := B.notSynchronized
  subst hsz
  have hl := lv_entry [.ref (ad k)] (n := 2) (Nat.le_of_ble_eq_true rfl)
  rw [show entryFrame m args 2 = entryFrame m ([.ref (ad k)] : List Value).toArray 2 by rw [hav], lg_entry_eq]
  generalize (lg_sl [.ref (ad k)] ++ List.replicate (2 - (lg_sl [.ref (ad k)]).length) Slot.unset).toArray = ls at hl ⊢
  have hl : lv_has ls 2 [(0, .ref (ad k))] := hl
  have main : ∀ (H : Heap) (locs : List Loc) (ls : Array Slot), va_P D vwCl (wd ca ad S) H → va_S (Aq ad s.heap.size) s.heap H locs → lv_has ls 2 [(0, .ref (ad k))] → W p l e rm_X3_leastSeen s m args below meth c H locs 0 0 (Zi below D ca ad args s o S) (F0 m 0 ls []) := by
    intro H locs ls hP hS hl
    unfold f_X3_leastSeen at hf
    refine lv_bipush (v := (-50)) hx hb dX3_leastSeen_0 (by decide) ?_
    refine lv_istore_n (lv' := [(1, .int (-50)), (0, .ref (ad k))]) hx hb dX3_leastSeen_2 rfl hl (by decide) rfl (fun ls hl => ?_)
    have L1 : ∀ (fuel : Nat) (v1 : Int32), lp_X3_leastSeen_3 k S fuel v1 = some o → ∀ (H : Heap) (locs : List Loc) (ls : Array Slot), va_P D vwCl (wd ca ad S) H → va_S (Aq ad s.heap.size) s.heap H locs → lv_has ls 2 [(0, .ref (ad k)), (1, .int v1)] → W p l e rm_X3_leastSeen s m args below meth c H locs 0 0 (Zi below D ca ad args s o S) (F0 m 3 ls []) := by
      intro fuel
      induction fuel with
      | zero =>
        intro v1 hf
        simp [lp_X3_leastSeen_3] at hf
      | succ fuel ih =>
        intro v1 hf H locs ls hP hS hl
        rw [lp_X3_leastSeen_3] at hf
        refine lv_iload_n hx hb dX3_leastSeen_3 rfl (lv_at hl 1 rfl) ?_
        refine lv_bipush (v := 50) hx hb dX3_leastSeen_4 (by decide) ?_
        refine lv_icmp_ge (tgt := 25) hx hb dX3_leastSeen_6 (by decide) (fun w => ?_) (fun w => ?_)
        · have hf := if_t w hf
          refine lv_bipush (v := 50) hx hb dX3_leastSeen_25 (by decide) ?_
          obtain rfl := Option.some.inj hf
          exact r_iret hx hb hr hP hS dX3_leastSeen_27 hlocks
        · have hf := if_f w hf
          refine lv_aload_n hx hb dX3_leastSeen_9 rfl (lv_at hl 0 rfl) ?_
          refine lv_iload_n hx hb dX3_leastSeen_10 rfl (lv_at hl 1 rfl) ?_
          obtain ⟨v3, h2, hf⟩ := bd_e hf
          refine r_ci hS (va_runV (As := [.int v1]) (rest := []) ⟨hx, hb, hml, hown, hts⟩ (m_X3_isSeen l D ca ad hj k hk v1 S _ h2 H.size) (cwV 1 hts gX3_leastSeen_X3_isSeen rfl rfl rfl (by decide +kernel) ⟨Nat.le_of_ble_eq_true rfl, Nat.le_of_ble_eq_true rfl⟩) (r_preV hKK hP hk rfl) rfl rfl hl.1 rfl (lv_room (Nat.le_of_ble_eq_true rfl)) dX3_leastSeen_11 ⟨Nat.le_of_ble_eq_true rfl, Nat.le_of_ble_eq_true rfl⟩) (fun H locs hP hS => ?_)
          refine lv_if_eq (tgt := 19) hx hb dX3_leastSeen_14 (by decide) (fun w => ?_) (fun w => ?_)
          · have hf := if_t w hf
            refine lv_iinc (v := (v1 + 1)) (lv' := [(1, .int (v1 + 1)), (0, .ref (ad k))]) hx hb dX3_leastSeen_19 hl (k := 1) rfl rfl (by decide) rfl (fun ls hl => ?_)
            refine lv_goto (tgt := 3) hx hb dX3_leastSeen_22 (by decide) ?_
            exact ih _ hf _ _ _ hP hS (lv_sub hl [1, 0] rfl)
          · have hf := if_f w hf
            refine lv_iload_n hx hb dX3_leastSeen_17 rfl (lv_at hl 1 rfl) ?_
            obtain rfl := Option.some.inj hf
            exact r_iret hx hb hr hP hS dX3_leastSeen_18 hlocks
    exact L1 _ _ hf _ _ _ hP hS (lv_sub hl [1, 0] rfl)
  exact main s.heap [] ls hP va_S.rf hl
def rm_X3_greatestSeen : Room := { frames := 1, cells := 0, slots := 0, locals := 21 }
set_option maxRecDepth 100000 in
set_option maxHeartbeats 4000000 in
theorem m_X3_greatestSeen (l : Launch) (D : va_G) (ca : Nat → ClassId) (ad : Nat → Nat) (hj : Inj ad) (k : Nat) (hk : qk k = 3) (S : QS) (o : Int32) (hf : f_X3_greatestSeen k S = some o) : Ci l D ca ad yX3_greatestSeen wsX3_greatestSeen rm_X3_greatestSeen [.ref (ad k)] S o S := by
  intro sz
  refine Met.ofW (cc := cX3_greatestSeen) (maxL := 2) (ret := (some .int)) (by decide) rfl ?_
  intro p e s m args below meth c s₁ B hml hv
  obtain ⟨hav, hsz, hP, hKK⟩ := hv
  have hx := B.exec
  have hb := B.bytes
  have hr := B.returns
  have hts := atoms_spec (ws := wsX3_greatestSeen) B.pre
  have hown : s.vm.findClass RX3 = some m.cls := findClass_of_methodNamed B.named
  have hlocks := B.notSynchronized
  subst hsz
  have hl := lv_entry [.ref (ad k)] (n := 2) (Nat.le_of_ble_eq_true rfl)
  rw [show entryFrame m args 2 = entryFrame m ([.ref (ad k)] : List Value).toArray 2 by rw [hav], lg_entry_eq]
  generalize (lg_sl [.ref (ad k)] ++ List.replicate (2 - (lg_sl [.ref (ad k)]).length) Slot.unset).toArray = ls at hl ⊢
  have hl : lv_has ls 2 [(0, .ref (ad k))] := hl
  have main : ∀ (H : Heap) (locs : List Loc) (ls : Array Slot), va_P D vwCl (wd ca ad S) H → va_S (Aq ad s.heap.size) s.heap H locs → lv_has ls 2 [(0, .ref (ad k))] → W p l e rm_X3_greatestSeen s m args below meth c H locs 0 0 (Zi below D ca ad args s o S) (F0 m 0 ls []) := by
    intro H locs ls hP hS hl
    unfold f_X3_greatestSeen at hf
    refine lv_bipush (v := 50) hx hb dX3_greatestSeen_0 (by decide) ?_
    refine lv_istore_n (lv' := [(1, .int 50), (0, .ref (ad k))]) hx hb dX3_greatestSeen_2 rfl hl (by decide) rfl (fun ls hl => ?_)
    have L1 : ∀ (fuel : Nat) (v1 : Int32), lp_X3_greatestSeen_3 k S fuel v1 = some o → ∀ (H : Heap) (locs : List Loc) (ls : Array Slot), va_P D vwCl (wd ca ad S) H → va_S (Aq ad s.heap.size) s.heap H locs → lv_has ls 2 [(0, .ref (ad k)), (1, .int v1)] → W p l e rm_X3_greatestSeen s m args below meth c H locs 0 0 (Zi below D ca ad args s o S) (F0 m 3 ls []) := by
      intro fuel
      induction fuel with
      | zero =>
        intro v1 hf
        simp [lp_X3_greatestSeen_3] at hf
      | succ fuel ih =>
        intro v1 hf H locs ls hP hS hl
        rw [lp_X3_greatestSeen_3] at hf
        refine lv_iload_n hx hb dX3_greatestSeen_3 rfl (lv_at hl 1 rfl) ?_
        refine lv_bipush (v := (-50)) hx hb dX3_greatestSeen_4 (by decide) ?_
        refine lv_icmp_le (tgt := 25) hx hb dX3_greatestSeen_6 (by decide) (fun w => ?_) (fun w => ?_)
        · have hf := if_t w hf
          refine lv_bipush (v := (-50)) hx hb dX3_greatestSeen_25 (by decide) ?_
          obtain rfl := Option.some.inj hf
          exact r_iret hx hb hr hP hS dX3_greatestSeen_27 hlocks
        · have hf := if_f w hf
          refine lv_aload_n hx hb dX3_greatestSeen_9 rfl (lv_at hl 0 rfl) ?_
          refine lv_iload_n hx hb dX3_greatestSeen_10 rfl (lv_at hl 1 rfl) ?_
          obtain ⟨v3, h2, hf⟩ := bd_e hf
          refine r_ci hS (va_runV (As := [.int v1]) (rest := []) ⟨hx, hb, hml, hown, hts⟩ (m_X3_isSeen l D ca ad hj k hk v1 S _ h2 H.size) (cwV 1 hts gX3_greatestSeen_X3_isSeen rfl rfl rfl (by decide +kernel) ⟨Nat.le_of_ble_eq_true rfl, Nat.le_of_ble_eq_true rfl⟩) (r_preV hKK hP hk rfl) rfl rfl hl.1 rfl (lv_room (Nat.le_of_ble_eq_true rfl)) dX3_greatestSeen_11 ⟨Nat.le_of_ble_eq_true rfl, Nat.le_of_ble_eq_true rfl⟩) (fun H locs hP hS => ?_)
          refine lv_if_eq (tgt := 19) hx hb dX3_greatestSeen_14 (by decide) (fun w => ?_) (fun w => ?_)
          · have hf := if_t w hf
            refine lv_iinc (v := (v1 + (-1))) (lv' := [(1, .int (v1 + (-1))), (0, .ref (ad k))]) hx hb dX3_greatestSeen_19 hl (k := 1) rfl rfl (by decide) rfl (fun ls hl => ?_)
            refine lv_goto (tgt := 3) hx hb dX3_greatestSeen_22 (by decide) ?_
            exact ih _ hf _ _ _ hP hS (lv_sub hl [1, 0] rfl)
          · have hf := if_f w hf
            refine lv_iload_n hx hb dX3_greatestSeen_17 rfl (lv_at hl 1 rfl) ?_
            obtain rfl := Option.some.inj hf
            exact r_iret hx hb hr hP hS dX3_greatestSeen_18 hlocks
    exact L1 _ _ hf _ _ _ hP hS (lv_sub hl [1, 0] rfl)
  exact main s.heap [] ls hP va_S.rf hl
