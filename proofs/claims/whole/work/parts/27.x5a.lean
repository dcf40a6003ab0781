def rm_X5_testCar : Room := { frames := 6, cells := 1, slots := 6, locals := 90 }
set_option maxRecDepth 100000 in
set_option maxHeartbeats 4000000 in
theorem m_X5_testCar (l : Launch) (hst : l.stackTraces = false) (D : va_G) (ca : Nat → ClassId) (ad : Nat → Nat) (hj : Inj ad) (a1 : Int32) (S : QS) (o : (String × QS) ⊕ Unit) (hf : f_X5_testCar a1 S = some o) : Xu l D ca ad yX5_testCar wsX5_testCar rm_X5_testCar [.int a1] S o 1 6 := by
  intro sz
  refine vx_ofW (cc := cX5_testCar) (maxL := 1) (ret := none) (by decide) rfl ?_
  intro p e s m args below meth c s₁ B hml hT hv
  obtain ⟨hav, ⟨hsz, hP, hKK⟩, hE⟩ := hv
  have hx := B.exec
  have hb := B.bytes
  have hr := B.returns
  have hts := atoms_spec (ws := wsX5_testCar) B.pre
  have hown : s.vm.findClass RX5 = some m.cls := findClass_of_methodNamed B.named
  have hlocks := B.notSynchronized
  subst hsz
  have K164 := hts (Cond.classLink RX5 164 "java/lang/IndexOutOfBoundsException") (List.mem_cons_of_mem _ (List.mem_append_left _ (List.mem_of_getElem? (i := 0) rfl)))
  have hl := lv_entry [.int a1] (n := 1) (Nat.le_of_ble_eq_true rfl)
  rw [show entryFrame m args 1 = entryFrame m ([.int a1] : List Value).toArray 1 by rw [hav], lg_entry_eq]
  generalize (lg_sl [.int a1] ++ List.replicate (1 - (lg_sl [.int a1]).length) Slot.unset).toArray = ls at hl ⊢
  have hl : lv_has ls 1 [(0, .int a1)] := hl
  have main : ∀ (H : Heap) (locs : List Loc) (ls : Array Slot), va_P D vwCl (wd ca ad S) H → va_S (Aq ad s.heap.size) s.heap H locs → lv_has ls 1 [(0, .int a1)] → W p l e rm_X5_testCar s m args below meth c H locs 0 0 (Yu below D ca ad args s 1 6 S o) (F0 m 0 ls []) := by
    intro H locs ls hP hS hl
    unfold f_X5_testCar at hf
    refine lv_iload_n hx hb dX5_testCar_0 rfl (lv_at hl 0 rfl) ?_
    refine lv_if_lt (tgt := 9) hx hb dX5_testCar_1 (by decide) (fun w => ?_) (fun w => ?_)
    · have hf := if_t w hf
      exact x_throw hx hb hst (hml.trans hl.1.symm) hown hE hP hS (by decide +kernel) K164 (hts _ (List.mem_cons_of_mem _ (List.mem_append_left _ (List.mem_of_getElem? (i := 1) rfl)))) (List.mem_of_getElem? (i := 0) rfl) (fun w h => hts w (List.mem_cons_of_mem _ (List.mem_append_right _ h))) qh_1 qo_1 dX5_testCar_9 dX5_testCar_12 dX5_testCar_13 dX5_testCar_15 dX5_testCar_18 hT (Nat.le_of_ble_eq_true rfl) (Nat.le_of_ble_eq_true rfl) (Nat.le_of_ble_eq_true rfl) (Nat.le_of_ble_eq_true rfl) hlocks (Nat.le_of_ble_eq_true rfl) (Nat.le_of_ble_eq_true rfl) (Option.some.inj hf).symm
    · have hf := if_f w hf
      refine lv_iload_n hx hb dX5_testCar_4 rfl (lv_at hl 0 rfl) ?_
      refine lv_iconst (v := 2) hx hb dX5_testCar_5 (by decide) ?_
      refine lv_icmp_lt (tgt := 19) hx hb dX5_testCar_6 (by decide) (fun w => ?_) (fun w => ?_)
      · have hf := if_t w hf
        exact x_uret hx hb hr hP hS dX5_testCar_19 hlocks (Nat.le_of_ble_eq_true rfl) (Nat.le_of_ble_eq_true rfl) (Option.some.inj hf).symm
      · have hf := if_f w hf
        exact x_throw hx hb hst (hml.trans hl.1.symm) hown hE hP hS (by decide +kernel) K164 (hts _ (List.mem_cons_of_mem _ (List.mem_append_left _ (List.mem_of_getElem? (i := 1) rfl)))) (List.mem_of_getElem? (i := 0) rfl) (fun w h => hts w (List.mem_cons_of_mem _ (List.mem_append_right _ h))) qh_1 qo_1 dX5_testCar_9 dX5_testCar_12 dX5_testCar_13 dX5_testCar_15 dX5_testCar_18 hT (Nat.le_of_ble_eq_true rfl) (Nat.le_of_ble_eq_true rfl) (Nat.le_of_ble_eq_true rfl) (Nat.le_of_ble_eq_true rfl) hlocks (Nat.le_of_ble_eq_true rfl) (Nat.le_of_ble_eq_true rfl) (Option.some.inj hf).symm
  exact main s.heap [] ls hP va_S.rf hl
def rm_X5_testSpeed : Room := { frames := 7, cells := 2, slots := 12, locals := 110 }
set_option maxRecDepth 100000 in
set_option maxHeartbeats 4000000 in
theorem m_X5_testSpeed (l : Launch) (hst : l.stackTraces = false) (D : va_G) (ca : Nat → ClassId) (ad : Nat → Nat) (hj : Inj ad) (a1 : Int32) (a2 : Int32) (S : QS) (o : (String × QS) ⊕ Unit) (hf : f_X5_testSpeed a1 a2 S = some o) : Xu l D ca ad yX5_testSpeed wsX5_testSpeed rm_X5_testSpeed [.int a1, .int a2] S o 2 12 := by
  intro sz
  refine vx_ofW (cc := cX5_testSpeed) (maxL := 2) (ret := none) (by decide) rfl ?_
  intro p e s m args below meth c s₁ B hml hT hv
  obtain ⟨hav, ⟨hsz, hP, hKK⟩, hE⟩ := hv
  have hx := B.exec
  have hb := B.bytes
  have hr := B.returns
  have hts := atoms_spec (ws := wsX5_testSpeed) B.pre
  have hown : s.vm.findClass RX5 = some m.cls := findClass_of_methodNamed B.named
  have hlocks := B.notSynchronized
  subst hsz
  have K164 := hts (Cond.classLink RX5 164 "java/lang/IndexOutOfBoundsException") (List.mem_cons_of_mem _ (List.mem_append_left _ (List.mem_of_getElem? (i := 0) rfl)))
  have hl := lv_entry [.int a1, .int a2] (n := 2) (Nat.le_of_ble_eq_true rfl)
  rw [show entryFrame m args 2 = entryFrame m ([.int a1, .int a2] : List Value).toArray 2 by rw [hav], lg_entry_eq]
  generalize (lg_sl [.int a1, .int a2] ++ List.replicate (2 - (lg_sl [.int a1, .int a2]).length) Slot.unset).toArray = ls at hl ⊢
  have hl : lv_has ls 2 [(0, .int a1), (1, .int a2)] := hl
  have main : ∀ (H : Heap) (locs : List Loc) (ls : Array Slot), va_P D vwCl (wd ca ad S) H → va_S (Aq ad s.heap.size) s.heap H locs → lv_has ls 2 [(0, .int a1), (1, .int a2)] → W p l e rm_X5_testSpeed s m args below meth c H locs 0 0 (Yu below D ca ad args s 2 12 S o) (F0 m 0 ls []) := by
    intro H locs ls hP hS hl
    unfold f_X5_testSpeed at hf
    refine lv_iload_n hx hb dX5_testSpeed_0 rfl (lv_at hl 0 rfl) ?_
    obtain ⟨o2, ho2⟩ := bx_e hf
    refine y_u hS (vx_runS (As := [.int a1]) (rest := []) ⟨hx, hb, hml, hown, hts⟩ (m_X5_testCar l hst D ca ad hj a1 S o2 ho2 H.size) (cwS 1 hts gX5_testSpeed_X5_testCar rfl rfl rfl (by decide +kernel) ⟨Nat.le_of_ble_eq_true rfl, Nat.le_of_ble_eq_true rfl⟩) (x_pre hE hS hKK hP) rfl rfl hl.1 rfl (lv_room (Nat.le_of_ble_eq_true rfl)) dX5_testSpeed_1 ⟨Nat.le_of_ble_eq_true rfl, Nat.le_of_ble_eq_true rfl⟩) (fun E ce q9 u H locs hu hP hS h1 h2 h3 => x_out hT hlocks hP hS h1 h2 h3 (bx_l hf ho2 hu).symm (Nat.le_of_ble_eq_true rfl) (Nat.le_of_ble_eq_true rfl)) (fun H locs hu hP hS => ?_)
    have hf := bx_r hf ho2 hu
    refine lv_iload_n hx hb dX5_testSpeed_4 rfl (lv_at hl 1 rfl) ?_
    refine lv_if_lt (tgt := 13) hx hb dX5_testSpeed_5 (by decide) (fun w => ?_) (fun w => ?_)
    · have hf := if_t w hf
      exact x_throw hx hb hst (hml.trans hl.1.symm) hown hE hP hS (by decide +kernel) K164 (hts _ (List.mem_cons_of_mem _ (List.mem_append_left _ (List.mem_of_getElem? (i := 1) rfl)))) (List.mem_of_getElem? (i := 5) rfl) (fun w h => hts w (List.mem_cons_of_mem _ (List.mem_append_right _ h))) qh_1 qo_1 dX5_testSpeed_13 dX5_testSpeed_16 dX5_testSpeed_17 dX5_testSpeed_19 dX5_testSpeed_22 hT (Nat.le_of_ble_eq_true rfl) (Nat.le_of_ble_eq_true rfl) (Nat.le_of_ble_eq_true rfl) (Nat.le_of_ble_eq_true rfl) hlocks (Nat.le_of_ble_eq_true rfl) (Nat.le_of_ble_eq_true rfl) (Option.some.inj hf).symm
    · have hf := if_f w hf
      refine lv_iload_n hx hb dX5_testSpeed_8 rfl (lv_at hl 1 rfl) ?_
      refine lv_iconst (v := 2) hx hb dX5_testSpeed_9 (by decide) ?_
      refine lv_icmp_le (tgt := 23) hx hb dX5_testSpeed_10 (by decide) (fun w => ?_) (fun w => ?_)
      · have hf := if_t w hf
        exact x_uret hx hb hr hP hS dX5_testSpeed_23 hlocks (Nat.le_of_ble_eq_true rfl) (Nat.le_of_ble_eq_true rfl) (Option.some.inj hf).symm
      · have hf := if_f w hf
        exact x_throw hx hb hst (hml.trans hl.1.symm) hown hE hP hS (by decide +kernel) K164 (hts _ (List.mem_cons_of_mem _ (List.mem_append_left _ (List.mem_of_getElem? (i := 1) rfl)))) (List.mem_of_getElem? (i := 5) rfl) (fun w h => hts w (List.mem_cons_of_mem _ (List.mem_append_right _ h))) qh_1 qo_1 dX5_testSpeed_13 dX5_testSpeed_16 dX5_testSpeed_17 dX5_testSpeed_19 dX5_testSpeed_22 hT (Nat.le_of_ble_eq_true rfl) (Nat.le_of_ble_eq_true rfl) (Nat.le_of_ble_eq_true rfl) (Nat.le_of_ble_eq_true rfl) hlocks (Nat.le_of_ble_eq_true rfl) (Nat.le_of_ble_eq_true rfl) (Option.some.inj hf).symm
  exact main s.heap [] ls hP va_S.rf hl
def rm_X5_testNumber : Room := { frames := 6, cells := 1, slots := 6, locals := 90 }
set_option maxRecDepth 100000 in
set_option maxHeartbeats 4000000 in
theorem m_X5_testNumber (l : Launch) (hst : l.stackTraces = false) (D : va_G) (ca : Nat → ClassId) (ad : Nat → Nat) (hj : Inj ad) (a1 : Int32) (a2 : Int32) (a3 : Int32) (S : QS) (o : (String × QS) ⊕ Unit) (hf : f_X5_testNumber a1 a2 a3 S = some o) : Xu l D ca ad yX5_testNumber wsX5_testNumber rm_X5_testNumber [.int a1, .int a2, .int a3] S o 1 6 := by
  intro sz
  refine vx_ofW (cc := cX5_testNumber) (maxL := 3) (ret := none) (by decide) rfl ?_
  intro p e s m args below meth c s₁ B hml hT hv
  obtain ⟨hav, ⟨hsz, hP, hKK⟩, hE⟩ := hv
  have hx := B.exec
  have hb := B.bytes
  have hr := B.returns
  have hts := atoms_spec (ws := wsX5_testNumber) B.pre
  have hown : s.vm.findClass RX5 = some m.cls := findClass_of_methodNamed B.named
  have hlocks := B.notSynchronized
  subst hsz
  have K171 := hts (Cond.classLink RX5 171 "java/lang/IllegalArgumentException") (List.mem_cons_of_mem _ (List.mem_append_left _ (List.mem_of_getElem? (i := 0) rfl)))
  have hl := lv_entry [.int a1, .int a2, .int a3] (n := 3) (Nat.le_of_ble_eq_true rfl)
  rw [show entryFrame m args 3 = entryFrame m ([.int a1, .int a2, .int a3] : List Value).toArray 3 by rw [hav], lg_entry_eq]
  generalize (lg_sl [.int a1, .int a2, .int a3] ++ List.replicate (3 - (lg_sl [.int a1, .int a2, .int a3]).length) Slot.unset).toArray = ls at hl ⊢
  have hl : lv_has ls 3 [(0, .int a1), (1, .int a2), (2, .int a3)] := hl
  have main : ∀ (H : Heap) (locs : List Loc) (ls : Array Slot), va_P D vwCl (wd ca ad S) H → va_S (Aq ad s.heap.size) s.heap H locs → lv_has ls 3 [(0, .int a1), (1, .int a2), (2, .int a3)] → W p l e rm_X5_testNumber s m args below meth c H locs 0 0 (Yu below D ca ad args s 1 6 S o) (F0 m 0 ls []) := by
    intro H locs ls hP hS hl
    unfold f_X5_testNumber at hf
    refine lv_iload_n hx hb dX5_testNumber_0 rfl (lv_at hl 0 rfl) ?_
    refine lv_iload_n hx hb dX5_testNumber_1 rfl (lv_at hl 1 rfl) ?_
    refine lv_icmp_lt (tgt := 10) hx hb dX5_testNumber_2 (by decide) (fun w => ?_) (fun w => ?_)
    · have hf := if_t w hf
      exact x_throw hx hb hst (hml.trans hl.1.symm) hown hE hP hS (by decide +kernel) K171 (hts _ (List.mem_cons_of_mem _ (List.mem_append_left _ (List.mem_of_getElem? (i := 1) rfl)))) (List.mem_of_getElem? (i := 1) rfl) (fun w h => hts w (List.mem_cons_of_mem _ (List.mem_append_right _ h))) qh_2 qo_2 dX5_testNumber_10 dX5_testNumber_13 dX5_testNumber_14 dX5_testNumber_16 dX5_testNumber_19 hT (Nat.le_of_ble_eq_true rfl) (Nat.le_of_ble_eq_true rfl) (Nat.le_of_ble_eq_true rfl) (Nat.le_of_ble_eq_true rfl) hlocks (Nat.le_of_ble_eq_true rfl) (Nat.le_of_ble_eq_true rfl) (Option.some.inj hf).symm
    · have hf := if_f w hf
      refine lv_iload_n hx hb dX5_testNumber_5 rfl (lv_at hl 0 rfl) ?_
      refine lv_iload_n hx hb dX5_testNumber_6 rfl (lv_at hl 2 rfl) ?_
      refine lv_icmp_le (tgt := 20) hx hb dX5_testNumber_7 (by decide) (fun w => ?_) (fun w => ?_)
      · have hf := if_t w hf
        exact x_uret hx hb hr hP hS dX5_testNumber_20 hlocks (Nat.le_of_ble_eq_true rfl) (Nat.le_of_ble_eq_true rfl) (Option.some.inj hf).symm
      · have hf := if_f w hf
        exact x_throw hx hb hst (hml.trans hl.1.symm) hown hE hP hS (by decide +kernel) K171 (hts _ (List.mem_cons_of_mem _ (List.mem_append_left _ (List.mem_of_getElem? (i := 1) rfl)))) (List.mem_of_getElem? (i := 1) rfl) (fun w h => hts w (List.mem_cons_of_mem _ (List.mem_append_right _ h))) qh_2 qo_2 dX5_testNumber_10 dX5_testNumber_13 dX5_testNumber_14 dX5_testNumber_16 dX5_testNumber_19 hT (Nat.le_of_ble_eq_true rfl) (Nat.le_of_ble_eq_true rfl) (Nat.le_of_ble_eq_true rfl) (Nat.le_of_ble_eq_true rfl) hlocks (Nat.le_of_ble_eq_true rfl) (Nat.le_of_ble_eq_true rfl) (Option.some.inj hf).symm
  exact main s.heap [] ls hP va_S.rf hl
def rm_X5_testSpan : Room := { frames := 6, cells := 1, slots := 6, locals := 90 }
set_option maxRecDepth 100000 in
set_option maxHeartbeats 4000000 in
theorem m_X5_testSpan (l : Launch) (hst : l.stackTraces = false) (D : va_G) (ca : Nat → ClassId) (ad : Nat → Nat) (hj : Inj ad) (a1 : Int32) (a2 : Int32) (a3 : Int32) (a4 : Int32) (S : QS) (o : (String × QS) ⊕ Unit) (hf : f_X5_testSpan a1 a2 a3 a4 S = some o) : Xu l D ca ad yX5_testSpan wsX5_testSpan rm_X5_testSpan [.int a1, .int a2, .int a3, .int a4] S o 1 6 := by
  intro sz
  refine vx_ofW (cc := cX5_testSpan) (maxL := 4) (ret := none) (by decide) rfl ?_
  intro p e s m args below meth c s₁ B hml hT hv
  obtain ⟨hav, ⟨hsz, hP, hKK⟩, hE⟩ := hv
  have hx := B.exec
  have hb := B.bytes
  have hr := B.returns
  have hts := atoms_spec (ws := wsX5_testSpan) B.pre
  have hown : s.vm.findClass RX5 = some m.cls := findClass_of_methodNamed B.named
  have hlocks := B.notSynchronized
  subst hsz
  have K171 := hts (Cond.classLink RX5 171 "java/lang/IllegalArgumentException") (List.mem_cons_of_mem _ (List.mem_append_left _ (List.mem_of_getElem? (i := 0) rfl)))
  have hl := lv_entry [.int a1, .int a2, .int a3, .int a4] (n := 4) (Nat.le_of_ble_eq_true rfl)
  rw [show entryFrame m args 4 = entryFrame m ([.int a1, .int a2, .int a3, .int a4] : List Value).toArray 4 by rw [hav], lg_entry_eq]
  generalize (lg_sl [.int a1, .int a2, .int a3, .int a4] ++ List.replicate (4 - (lg_sl [.int a1, .int a2, .int a3, .int a4]).length) Slot.unset).toArray = ls at hl ⊢
  have hl : lv_has ls 4 [(0, .int a1), (1, .int a2), (2, .int a3), (3, .int a4)] := hl
  have main : ∀ (H : Heap) (locs : List Loc) (ls : Array Slot), va_P D vwCl (wd ca ad S) H → va_S (Aq ad s.heap.size) s.heap H locs → lv_has ls 4 [(0, .int a1), (1, .int a2), (2, .int a3), (3, .int a4)] → W p l e rm_X5_testSpan s m args below meth c H locs 0 0 (Yu below D ca ad args s 1 6 S o) (F0 m 0 ls []) := by
    intro H locs ls hP hS hl
    unfold f_X5_testSpan at hf
    refine lv_iload_n hx hb dX5_testSpan_0 rfl (lv_at hl 0 rfl) ?_
    refine lv_iload_n hx hb dX5_testSpan_1 rfl (lv_at hl 2 rfl) ?_
    refine lv_icmp_lt (tgt := 15) hx hb dX5_testSpan_2 (by decide) (fun w => ?_) (fun w => ?_)
    · have hf := if_t w hf
      exact x_throw hx hb hst (hml.trans hl.1.symm) hown hE hP hS (by decide +kernel) K171 (hts _ (List.mem_cons_of_mem _ (List.mem_append_left _ (List.mem_of_getElem? (i := 1) rfl)))) (List.mem_of_getElem? (i := 2) rfl) (fun w h => hts w (List.mem_cons_of_mem _ (List.mem_append_right _ h))) qh_2 qo_2 dX5_testSpan_15 dX5_testSpan_18 dX5_testSpan_19 dX5_testSpan_21 dX5_testSpan_24 hT (Nat.le_of_ble_eq_true rfl) (Nat.le_of_ble_eq_true rfl) (Nat.le_of_ble_eq_true rfl) (Nat.le_of_ble_eq_true rfl) hlocks (Nat.le_of_ble_eq_true rfl) (Nat.le_of_ble_eq_true rfl) (Option.some.inj hf).symm
    · have hf := if_f w hf
      refine lv_iload_n hx hb dX5_testSpan_5 rfl (lv_at hl 0 rfl) ?_
      refine lv_iload_n hx hb dX5_testSpan_6 rfl (lv_at hl 1 rfl) ?_
      refine lv_icmp_gt (tgt := 15) hx hb dX5_testSpan_7 (by decide) (fun w => ?_) (fun w => ?_)
      · have hf := if_t w hf
        exact x_throw hx hb hst (hml.trans hl.1.symm) hown hE hP hS (by decide +kernel) K171 (hts _ (List.mem_cons_of_mem _ (List.mem_append_left _ (List.mem_of_getElem? (i := 1) rfl)))) (List.mem_of_getElem? (i := 2) rfl) (fun w h => hts w (List.mem_cons_of_mem _ (List.mem_append_right _ h))) qh_2 qo_2 dX5_testSpan_15 dX5_testSpan_18 dX5_testSpan_19 dX5_testSpan_21 dX5_testSpan_24 hT (Nat.le_of_ble_eq_true rfl) (Nat.le_of_ble_eq_true rfl) (Nat.le_of_ble_eq_true rfl) (Nat.le_of_ble_eq_true rfl) hlocks (Nat.le_of_ble_eq_true rfl) (Nat.le_of_ble_eq_true rfl) (Option.some.inj hf).symm
      · have hf := if_f w hf
        refine lv_iload_n hx hb dX5_testSpan_10 rfl (lv_at hl 1 rfl) ?_
        refine lv_iload_n hx hb dX5_testSpan_11 rfl (lv_at hl 3 rfl) ?_
        refine lv_icmp_le (tgt := 25) hx hb dX5_testSpan_12 (by decide) (fun w => ?_) (fun w => ?_)
        · have hf := if_t w hf
          exact x_uret hx hb hr hP hS dX5_testSpan_25 hlocks (Nat.le_of_ble_eq_true rfl) (Nat.le_of_ble_eq_true rfl) (Option.some.inj hf).symm
        · have hf := if_f w hf
          exact x_throw hx hb hst (hml.trans hl.1.symm) hown hE hP hS (by decide +kernel) K171 (hts _ (List.mem_cons_of_mem _ (List.mem_append_left _ (List.mem_of_getElem? (i := 1) rfl)))) (List.mem_of_getElem? (i := 2) rfl) (fun w h => hts w (List.mem_cons_of_mem _ (List.mem_append_right _ h))) qh_2 qo_2 dX5_testSpan_15 dX5_testSpan_18 dX5_testSpan_19 dX5_testSpan_21 dX5_testSpan_24 hT (Nat.le_of_ble_eq_true rfl) (Nat.le_of_ble_eq_true rfl) (Nat.le_of_ble_eq_true rfl) (Nat.le_of_ble_eq_true rfl) hlocks (Nat.le_of_ble_eq_true rfl) (Nat.le_of_ble_eq_true rfl) (Option.some.inj hf).symm
  exact main s.heap [] ls hP va_S.rf hl
def rm_X5_testWay : Room := { frames := 6, cells := 1, slots := 6, locals := 90 }
set_option maxRecDepth 100000 in
set_option maxHeartbeats 4000000 in
theorem m_X5_testWay (l : Launch) (hst : l.stackTraces = false) (D : va_G) (ca : Nat → ClassId) (ad : Nat → Nat) (hj : Inj ad)  (S : QS) (o : (String × QS) ⊕ Unit) (hf : f_X5_testWay S = some o) : Xu l D ca ad yX5_testWay wzX5_testWay rm_X5_testWay [.ref (ad 0)] S o 1 6 := by
  intro sz
  refine vx_ofW (cc := cX5_testWay) (maxL := 1) (ret := none) (by decide) rfl ?_
  intro p e s m args below meth c s₁ B hml hT hv
  obtain ⟨hav, ⟨hsz, hP, hKK⟩, hE⟩ := hv
  have hx := B.exec
  have hb := B.bytes
  have hr := B.returns
  have hts := atoms_spec (ws := wzX5_testWay) B.pre
  have hown : s.vm.findClass RX5 = some m.cls := findClass_of_methodNamed B.named
  have hlocks := B.notSynchronized
  subst hsz
  have hX1 : ∀ w ∈ wsX10, w.before _ s = true := fun w h => hts w (List.mem_cons_of_mem _ (List.mem_append_left _ (List.mem_append_right _ h)))
  have hX5 : ∀ w ∈ wsX50, w.before _ s = true := fun w h => hts w (List.mem_cons_of_mem _ (List.mem_append_left _ (List.mem_append_left _ (List.mem_append_right _ h))))
  have K31 := hts (Cond.fieldLink RX5 31 "CrashDesk" "meeting" "LCrashDesk$Meeting;") (List.mem_cons_of_mem _ (List.mem_append_left _ (List.mem_append_left _ (List.mem_append_left _ (List.mem_of_getElem? (i := 2) rfl)))))
  have K121 := hts (Cond.fieldLink RX5 121 "CrashDesk$Meeting" "wayCount" "J") (List.mem_cons_of_mem _ (List.mem_append_left _ (List.mem_append_left _ (List.mem_append_left _ (List.mem_of_getElem? (i := 3) rfl)))))
  have K149 := hts (Cond.classLink RX5 149 "java/util/NoSuchElementException") (List.mem_cons_of_mem _ (List.mem_append_left _ (List.mem_append_left _ (List.mem_append_left _ (List.mem_of_getElem? (i := 0) rfl)))))
  have hl := lv_entry [.ref (ad 0)] (n := 1) (Nat.le_of_ble_eq_true rfl)
  rw [show entryFrame m args 1 = entryFrame m ([.ref (ad 0)] : List Value).toArray 1 by rw [hav], lg_entry_eq]
  generalize (lg_sl [.ref (ad 0)] ++ List.replicate (1 - (lg_sl [.ref (ad 0)]).length) Slot.unset).toArray = ls at hl ⊢
  have hl : lv_has ls 1 [(0, .ref (ad 0))] := hl
  have main : ∀ (H : Heap) (locs : List Loc) (ls : Array Slot), va_P D vwCl (wd ca ad S) H → va_S (Aq ad s.heap.size) s.heap H locs → lv_has ls 1 [(0, .ref (ad 0))] → W p l e rm_X5_testWay s m args below meth c H locs 0 0 (Yu below D ca ad args s 1 6 S o) (F0 m 0 ls []) := by
    intro H locs ls hP hS hl
    unfold f_X5_testWay at hf
    refine lv_aload_n hx hb dX5_testWay_0 rfl (lv_at hl 0 rfl) ?_
    refine g_X5_meeting hx hb hX5 hown hKK hP (show qk 0 = 5 from rfl) K31 dX5_testWay_1 ?_
    refine g_X1_wayCount hx hb hX1 hown hKK hP (show qk 25 = 1 from rfl) K121 dX5_testWay_4 ?_
    refine lv_lconst (v := 0) hx hb dX5_testWay_7 rfl ?_
    refine W.lcmp hx hb dX5_testWay_8 ?_
    refine lv_if_ne (tgt := 22) hx hb dX5_testWay_9 (by decide) (fun w => ?_) (fun w => ?_)
    · have hf := if_f w hf
      exact x_uret hx hb hr hP hS dX5_testWay_22 hlocks (Nat.le_of_ble_eq_true rfl) (Nat.le_of_ble_eq_true rfl) (Option.some.inj hf).symm
    · have hf := if_t w hf
      exact x_throwX hx hb hst (hml.trans hl.1.symm) hown hE hP hS (by decide +kernel) K149 (hts _ (List.mem_cons_of_mem _ (List.mem_append_left _ (List.mem_append_left _ (List.mem_append_left _ (List.mem_of_getElem? (i := 1) rfl)))))) (List.mem_of_getElem? (i := 7) rfl) (fun w h => hts w (List.mem_cons_of_mem _ (List.mem_append_right _ h))) qh_5 qo_5 dX5_testWay_12 dX5_testWay_15 dX5_testWay_16 dX5_testWay_18 dX5_testWay_21 hT (Nat.le_of_ble_eq_true rfl) (Nat.le_of_ble_eq_true rfl) (Nat.le_of_ble_eq_true rfl) (Nat.le_of_ble_eq_true rfl) hlocks (Nat.le_of_ble_eq_true rfl) (Nat.le_of_ble_eq_true rfl) (Option.some.inj hf).symm
  exact main s.heap [] ls hP va_S.rf hl
theorem k_X5_skidOf {a : Int32} {S : QS} {c : Nat} (h : f_X5_skidOf a S = some (.inr c)) : qk c = 2 := by
  unfold f_X5_skidOf at h
  split at h
  · cases h
  · split at h
    · obtain ⟨c1, h1, h⟩ := bd_e h
      obtain rfl := Sum.inr.inj (Option.some.inj h)
      obtain ⟨-, h2, rfl⟩ := q_inQ h1
      exact q_skid h2
    · cases h
def rm_X5_skidOf : Room := { frames := 6, cells := 1, slots := 6, locals := 90 }
set_option maxRecDepth 100000 in
set_option maxHeartbeats 4000000 in
theorem m_X5_skidOf (l : Launch) (hst : l.stackTraces = false) (D : va_G) (ca : Nat → ClassId) (ad : Nat → Nat) (hj : Inj ad) (a1 : Int32) (S : QS) (o : (String × QS) ⊕ Nat) (hf : f_X5_skidOf a1 S = some o) : Xr l D ca ad yX5_skidOf wsX5_skidOf rm_X5_skidOf [.ref (ad 0), .int a1] S o 1 6 := by
  intro sz
  refine vx_ofW (cc := cX5_skidOf) (maxL := 2) (ret := (some (.object "CrashDesk$Skid"))) (by decide) rfl ?_
  intro p e s m args below meth c s₁ B hml hT hv
  obtain ⟨hav, ⟨hsz, hP, hKK⟩, hE⟩ := hv
  have hx := B.exec
  have hb := B.bytes
  have hr := B.returns
  have hts := atoms_spec (ws := wsX5_skidOf) B.pre
  have hown : s.vm.findClass RX5 = some m.cls := findClass_of_methodNamed B.named
  have hlocks := B.notSynchronized
  subst hsz
  have hX5 : ∀ w ∈ wsX50, w.before _ s = true := fun w h => hts w (List.mem_cons_of_mem _ (List.mem_append_left _ (List.mem_append_right _ h)))
  have K11 := hts (Cond.fieldLink RX5 11 "CrashDesk" "skids" "[LCrashDesk$Skid;") (List.mem_cons_of_mem _ (List.mem_append_left _ (List.mem_append_left _ (List.mem_of_getElem? (i := 3) rfl))))
  have K21 := hts (Cond.fieldLink RX5 21 "CrashDesk" "skidCount" "I") (List.mem_cons_of_mem _ (List.mem_append_left _ (List.mem_append_left _ (List.mem_of_getElem? (i := 2) rfl))))
  have K164 := hts (Cond.classLink RX5 164 "java/lang/IndexOutOfBoundsException") (List.mem_cons_of_mem _ (List.mem_append_left _ (List.mem_append_left _ (List.mem_of_getElem? (i := 0) rfl))))
  have hl := lv_entry [.ref (ad 0), .int a1] (n := 2) (Nat.le_of_ble_eq_true rfl)
  rw [show entryFrame m args 2 = entryFrame m ([.ref (ad 0), .int a1] : List Value).toArray 2 by rw [hav], lg_entry_eq]
  generalize (lg_sl [.ref (ad 0), .int a1] ++ List.replicate (2 - (lg_sl [.ref (ad 0), .int a1]).length) Slot.unset).toArray = ls at hl ⊢
  have hl : lv_has ls 2 [(0, .ref (ad 0)), (1, .int a1)] := hl
  have main : ∀ (H : Heap) (locs : List Loc) (ls : Array Slot), va_P D vwCl (wd ca ad S) H → va_S (Aq ad s.heap.size) s.heap H locs → lv_has ls 2 [(0, .ref (ad 0)), (1, .int a1)] → W p l e rm_X5_skidOf s m args below meth c H locs 0 0 (Yr below D ca ad args s 1 6 S o) (F0 m 0 ls []) := by
    intro H locs ls hP hS hl
    unfold f_X5_skidOf at hf
    refine lv_iload_n hx hb dX5_skidOf_0 rfl (lv_at hl 1 rfl) ?_
    refine lv_if_lt (tgt := 12) hx hb dX5_skidOf_1 (by decide) (fun w => ?_) (fun w => ?_)
    · have hf := if_t w hf
      exact x_throw hx hb hst (hml.trans hl.1.symm) hown hE hP hS (by decide +kernel) K164 (hts _ (List.mem_cons_of_mem _ (List.mem_append_left _ (List.mem_append_left _ (List.mem_of_getElem? (i := 1) rfl))))) (List.mem_of_getElem? (i := 4) rfl) (fun w h => hts w (List.mem_cons_of_mem _ (List.mem_append_right _ h))) qh_1 qo_1 dX5_skidOf_12 dX5_skidOf_15 dX5_skidOf_16 dX5_skidOf_18 dX5_skidOf_21 hT (Nat.le_of_ble_eq_true rfl) (Nat.le_of_ble_eq_true rfl) (Nat.le_of_ble_eq_true rfl) (Nat.le_of_ble_eq_true rfl) hlocks (Nat.le_of_ble_eq_true rfl) (Nat.le_of_ble_eq_true rfl) (Option.some.inj hf).symm
    · have hf := if_f w hf
      refine lv_iload_n hx hb dX5_skidOf_4 rfl (lv_at hl 1 rfl) ?_
      refine lv_aload_n hx hb dX5_skidOf_5 rfl (lv_at hl 0 rfl) ?_
      refine g_X5_skidCount hx hb hX5 hown hKK hP (show qk 0 = 5 from rfl) K21 dX5_skidOf_6 ?_
      refine lv_icmp_lt (tgt := 22) hx hb dX5_skidOf_9 (by decide) (fun w => ?_) (fun w => ?_)
      · have hf := if_t w hf
        refine lv_aload_n hx hb dX5_skidOf_22 rfl (lv_at hl 0 rfl) ?_
        refine g_X5_skids hx hb hX5 hown hKK hP (show qk 0 = 5 from rfl) K11 dX5_skidOf_23 ?_
        refine lv_iload_n hx hb dX5_skidOf_26 rfl (lv_at hl 1 rfl) ?_
        obtain ⟨c1, h2, hf⟩ := bd_e hf
        refine r_sald hx hb hKK hP h2 dX5_skidOf_27 (fun kc1 => ?_)
        exact x_rret hx hb hr hP hS dX5_skidOf_28 hlocks (Nat.le_of_ble_eq_true rfl) (Nat.le_of_ble_eq_true rfl) (Option.some.inj hf).symm
      · have hf := if_f w hf
        exact x_throw hx hb hst (hml.trans hl.1.symm) hown hE hP hS (by decide +kernel) K164 (hts _ (List.mem_cons_of_mem _ (List.mem_append_left _ (List.mem_append_left _ (List.mem_of_getElem? (i := 1) rfl))))) (List.mem_of_getElem? (i := 4) rfl) (fun w h => hts w (List.mem_cons_of_mem _ (List.mem_append_right _ h))) qh_1 qo_1 dX5_skidOf_12 dX5_skidOf_15 dX5_skidOf_16 dX5_skidOf_18 dX5_skidOf_21 hT (Nat.le_of_ble_eq_true rfl) (Nat.le_of_ble_eq_true rfl) (Nat.le_of_ble_eq_true rfl) (Nat.le_of_ble_eq_true rfl) hlocks (Nat.le_of_ble_eq_true rfl) (Nat.le_of_ble_eq_true rfl) (Option.some.inj hf).symm
  exact main s.heap [] ls hP va_S.rf hl
theorem k_X5_carOf {a : Int32} {S : QS} {c : Nat} (h : f_X5_carOf a S = some (.inr c)) : qk c = 0 := by
  unfold f_X5_carOf at h
  obtain ⟨o1, ho1⟩ := bx_e h
  cases o1 with
  | inl e => cases bx_l h ho1 rfl
  | inr u =>
    have h := bx_r h ho1 rfl
    obtain ⟨c1, h1, h⟩ := bd_e h
    obtain rfl := Sum.inr.inj (Option.some.inj h)
    exact k_X1_pick h1
def rm_X5_carOf : Room := { frames := 7, cells := 1, slots := 6, locals := 110 }
set_option maxRecDepth 100000 in
set_option maxHeartbeats 4000000 in
theorem m_X5_carOf (l : Launch) (hst : l.stackTraces = false) (D : va_G) (ca : Nat → ClassId) (ad : Nat → Nat) (hj : Inj ad) (a1 : Int32) (S : QS) (o : (String × QS) ⊕ Nat) (hf : f_X5_carOf a1 S = some o) : Xr l D ca ad yX5_carOf wsX5_carOf rm_X5_carOf [.ref (ad 0), .int a1] S o 1 6 := by
  intro sz
  refine vx_ofW (cc := cX5_carOf) (maxL := 2) (ret := (some (.object "CrashDesk$Car"))) (by decide) rfl ?_
  intro p e s m args below meth c s₁ B hml hT hv
  obtain ⟨hav, ⟨hsz, hP, hKK⟩, hE⟩ := hv
  have hx := B.exec
  have hb := B.bytes
  have hr := B.returns
  have hts := atoms_spec (ws := wsX5_carOf) B.pre
  have hown : s.vm.findClass RX5 = some m.cls := findClass_of_methodNamed B.named
  have hlocks := B.notSynchronized
  subst hsz
  have hX5 : ∀ w ∈ wsX50, w.before _ s = true := fun w h => hts w (List.mem_cons_of_mem _ (List.mem_append_left _ (List.mem_append_left _ (List.mem_append_right _ h))))
  have K31 := hts (Cond.fieldLink RX5 31 "CrashDesk" "meeting" "LCrashDesk$Meeting;") (List.mem_cons_of_mem _ (List.mem_append_left _ (List.mem_append_left _ (List.mem_append_left _ (List.mem_of_getElem? (i := 0) rfl)))))
  have hl := lv_entry [.ref (ad 0), .int a1] (n := 2) (Nat.le_of_ble_eq_true rfl)
  rw [show entryFrame m args 2 = entryFrame m ([.ref (ad 0), .int a1] : List Value).toArray 2 by rw [hav], lg_entry_eq]
  generalize (lg_sl [.ref (ad 0), .int a1] ++ List.replicate (2 - (lg_sl [.ref (ad 0), .int a1]).length) Slot.unset).toArray = ls at hl ⊢
  have hl : lv_has ls 2 [(0, .ref (ad 0)), (1, .int a1)] := hl
  have main : ∀ (H : Heap) (locs : List Loc) (ls : Array Slot), va_P D vwCl (wd ca ad S) H → va_S (Aq ad s.heap.size) s.heap H locs → lv_has ls 2 [(0, .ref (ad 0)), (1, .int a1)] → W p l e rm_X5_carOf s m args below meth c H locs 0 0 (Yr below D ca ad args s 1 6 S o) (F0 m 0 ls []) := by
    intro H locs ls hP hS hl
    unfold f_X5_carOf at hf
    refine lv_iload_n hx hb dX5_carOf_0 rfl (lv_at hl 1 rfl) ?_
    obtain ⟨o2, ho2⟩ := bx_e hf
    refine y_u hS (vx_runS (As := [.int a1]) (rest := []) ⟨hx, hb, hml, hown, hts⟩ (m_X5_testCar l hst D ca ad hj a1 S o2 ho2 H.size) (cwS 1 hts gX5_carOf_X5_testCar rfl rfl rfl (by decide +kernel) ⟨Nat.le_of_ble_eq_true rfl, Nat.le_of_ble_eq_true rfl⟩) (x_pre hE hS hKK hP) rfl rfl hl.1 rfl (lv_room (Nat.le_of_ble_eq_true rfl)) dX5_carOf_1 ⟨Nat.le_of_ble_eq_true rfl, Nat.le_of_ble_eq_true rfl⟩) (fun E ce q9 u H locs hu hP hS h1 h2 h3 => x_out hT hlocks hP hS h1 h2 h3 (bx_l hf ho2 hu).symm (Nat.le_of_ble_eq_true rfl) (Nat.le_of_ble_eq_true rfl)) (fun H locs hu hP hS => ?_)
    have hf := bx_r hf ho2 hu
    refine lv_aload_n hx hb dX5_carOf_4 rfl (lv_at hl 0 rfl) ?_
    refine g_X5_meeting hx hb hX5 hown hKK hP (show qk 0 = 5 from rfl) K31 dX5_carOf_5 ?_
    refine lv_iload_n hx hb dX5_carOf_8 rfl (lv_at hl 1 rfl) ?_
    obtain ⟨c4, h3, hf⟩ := bd_e hf
    have kc4 := k_X1_pick h3
    refine r_cr hS (va_runV (As := [.int a1]) (rest := []) ⟨hx, hb, hml, hown, hts⟩ (m_X1_pick l D ca ad hj a1 S _ h3 H.size) (cwV 1 hts gX5_carOf_X1_pick rfl rfl rfl (by decide +kernel) ⟨Nat.le_of_ble_eq_true rfl, Nat.le_of_ble_eq_true rfl⟩) (r_preV hKK hP (show qk 25 = 1 from rfl) rfl) rfl rfl hl.1 rfl (lv_room (Nat.le_of_ble_eq_true rfl)) dX5_carOf_9 ⟨Nat.le_of_ble_eq_true rfl, Nat.le_of_ble_eq_true rfl⟩) (fun H locs hP hS => ?_)
    exact x_rret hx hb hr hP hS dX5_carOf_12 hlocks (Nat.le_of_ble_eq_true rfl) (Nat.le_of_ble_eq_true rfl) (Option.some.inj hf).symm
  exact main s.heap [] ls hP va_S.rf hl
theorem k_X5_speedOf {a b : Int32} {S : QS} {c : Nat} (h : f_X5_speedOf a b S = some (.inr c)) : qk c = 3 := by
  unfold f_X5_speedOf at h
  obtain ⟨o1, ho1⟩ := bx_e h
  cases o1 with
  | inl e => cases bx_l h ho1 rfl
  | inr u =>
    have h := bx_r h ho1 rfl
    obtain ⟨o2, ho2⟩ := bx_e h
    cases o2 with
    | inl e => cases bx_l h ho2 rfl
    | inr c0 =>
      have h := bx_r h ho2 rfl
      obtain ⟨c1, h1, h⟩ := bd_e h
      obtain rfl := Sum.inr.inj (Option.some.inj h)
      exact k_X0_pick (k_X5_carOf ho2) h1
def rm_X5_speedOf : Room := { frames := 8, cells := 3, slots := 18, locals := 131 }
set_option maxRecDepth 100000 in
set_option maxHeartbeats 4000000 in
theorem m_X5_speedOf (l : Launch) (hst : l.stackTraces = false) (D : va_G) (ca : Nat → ClassId) (ad : Nat → Nat) (hj : Inj ad) (a1 : Int32) (a2 : Int32) (S : QS) (o : (String × QS) ⊕ Nat) (hf : f_X5_speedOf a1 a2 S = some o) : Xr l D ca ad yX5_speedOf wsX5_speedOf rm_X5_speedOf [.ref (ad 0), .int a1, .int a2] S o 3 18 := by
  intro sz
  refine vx_ofW (cc := cX5_speedOf) (maxL := 3) (ret := (some (.object "CrashDesk$Speed"))) (by decide) rfl ?_
  intro p e s m args below meth c s₁ B hml hT hv
  obtain ⟨hav, ⟨hsz, hP, hKK⟩, hE⟩ := hv
  have hx := B.exec
  have hb := B.bytes
  have hr := B.returns
  have hts := atoms_spec (ws := wsX5_speedOf) B.pre
  have hown : s.vm.findClass RX5 = some m.cls := findClass_of_methodNamed B.named
  have hlocks := B.notSynchronized
  subst hsz
  have hl := lv_entry [.ref (ad 0), .int a1, .int a2] (n := 3) (Nat.le_of_ble_eq_true rfl)
  rw [show entryFrame m args 3 = entryFrame m ([.ref (ad 0), .int a1, .int a2] : List Value).toArray 3 by rw [hav], lg_entry_eq]
  generalize (lg_sl [.ref (ad 0), .int a1, .int a2] ++ List.replicate (3 - (lg_sl [.ref (ad 0), .int a1, .int a2]).length) Slot.unset).toArray = ls at hl ⊢
  have hl : lv_has ls 3 [(0, .ref (ad 0)), (1, .int a1), (2, .int a2)] := hl
  have main : ∀ (H : Heap) (locs : List Loc) (ls : Array Slot), va_P D vwCl (wd ca ad S) H → va_S (Aq ad s.heap.size) s.heap H locs → lv_has ls 3 [(0, .ref (ad 0)), (1, .int a1), (2, .int a2)] → W p l e rm_X5_speedOf s m args below meth c H locs 0 0 (Yr below D ca ad args s 3 18 S o) (F0 m 0 ls []) := by
    intro H locs ls hP hS hl
    unfold f_X5_speedOf at hf
    refine lv_iload_n hx hb dX5_speedOf_0 rfl (lv_at hl 1 rfl) ?_
    refine lv_iload_n hx hb dX5_speedOf_1 rfl (lv_at hl 2 rfl) ?_
    obtain ⟨o2, ho2⟩ := bx_e hf
    refine y_u hS (vx_runS (As := [.int a1, .int a2]) (rest := []) ⟨hx, hb, hml, hown, hts⟩ (m_X5_testSpeed l hst D ca ad hj a1 a2 S o2 ho2 H.size) (cwS 2 hts gX5_speedOf_X5_testSpeed rfl rfl rfl (by decide +kernel) ⟨Nat.le_of_ble_eq_true rfl, Nat.le_of_ble_eq_true rfl⟩) (x_pre hE hS hKK hP) rfl rfl hl.1 rfl (lv_room (Nat.le_of_ble_eq_true rfl)) dX5_speedOf_2 ⟨Nat.le_of_ble_eq_true rfl, Nat.le_of_ble_eq_true rfl⟩) (fun E ce q9 u H locs hu hP hS h1 h2 h3 => x_out hT hlocks hP hS h1 h2 h3 (bx_l hf ho2 hu).symm (Nat.le_of_ble_eq_true rfl) (Nat.le_of_ble_eq_true rfl)) (fun H locs hu hP hS => ?_)
    have hf := bx_r hf ho2 hu
    refine lv_aload_n hx hb dX5_speedOf_5 rfl (lv_at hl 0 rfl) ?_
    refine lv_iload_n hx hb dX5_speedOf_6 rfl (lv_at hl 1 rfl) ?_
    obtain ⟨o5, ho5⟩ := bx_e hf
    refine y_r hS (vx_runV (As := [.int a1]) (rest := []) ⟨hx, hb, hml, hown, hts⟩ (m_X5_carOf l hst D ca ad hj a1 S o5 ho5 H.size) (cwV 1 hts gX5_speedOf_X5_carOf rfl rfl rfl (by decide +kernel) ⟨Nat.le_of_ble_eq_true rfl, Nat.le_of_ble_eq_true rfl⟩) (x_preV hE hS hKK hP (show qk 0 = 5 from rfl) rfl) rfl rfl hl.1 rfl (lv_room (Nat.le_of_ble_eq_true rfl)) dX5_speedOf_7 ⟨Nat.le_of_ble_eq_true rfl, Nat.le_of_ble_eq_true rfl⟩) (fun E ce q9 u H locs hu hP hS h1 h2 h3 => x_out hT hlocks hP hS h1 h2 h3 (bx_l hf ho5 hu).symm (Nat.le_of_ble_eq_true rfl) (Nat.le_of_ble_eq_true rfl)) (fun c4 H locs hu hP hS => ?_)
    have hf := bx_r hf ho5 hu
    have kc4 := k_X5_carOf (ho5.trans (congrArg some hu))
    refine lv_iload_n hx hb dX5_speedOf_10 rfl (lv_at hl 2 rfl) ?_
    obtain ⟨c7, h6, hf⟩ := bd_e hf
    have kc7 := k_X0_pick kc4 h6
    refine r_cr hS (va_runV (As := [.int a2]) (rest := []) ⟨hx, hb, hml, hown, hts⟩ (m_X0_pick l D ca ad hj c4 kc4 a2 S _ h6 H.size) (cwV 1 hts gX5_speedOf_X0_pick rfl rfl rfl (by decide +kernel) ⟨Nat.le_of_ble_eq_true rfl, Nat.le_of_ble_eq_true rfl⟩) (r_preV hKK hP kc4 rfl) rfl rfl hl.1 rfl (lv_room (Nat.le_of_ble_eq_true rfl)) dX5_speedOf_11 ⟨Nat.le_of_ble_eq_true rfl, Nat.le_of_ble_eq_true rfl⟩) (fun H locs hP hS => ?_)
    exact x_rret hx hb hr hP hS dX5_speedOf_14 hlocks (Nat.le_of_ble_eq_true rfl) (Nat.le_of_ble_eq_true rfl) (Option.some.inj hf).symm
  exact main s.heap [] ls hP va_S.rf hl
def rm_X5_allTales : Room := { frames := 0, cells := 0, slots := 0, locals := 0 }
set_option maxRecDepth 100000 in
set_option maxHeartbeats 4000000 in
theorem m_X5_allTales (l : Launch) (D : va_G) (ca : Nat → ClassId) (ad : Nat → Nat) (hj : Inj ad)  (S : QS) (o : Int32) (hf : f_X5_allTales S = some o) : Ci l D ca ad yX5_allTales wsX5_allTales rm_X5_allTales [.ref (ad 0)] S o S := by
  intro sz
  refine Met.ofW (cc := cX5_allTales) (maxL := 1) (ret := (some .int)) (by decide) rfl ?_
  intro p e s m args below meth c s₁ B hml hv
  obtain ⟨hav, hsz, hP, hKK⟩ := hv
  have hx := B.exec
  have hb := B.bytes
  have hr := B.returns
  have hts := atoms_spec (ws := wsX5_allTales) B.pre
  have hown : s.vm.findClass RX5 = some m.cls := findClass_of_methodNamed B.named
  have hlocks := B.notSynchronized
  subst hsz
  have hX5 : ∀ w ∈ wsX50, w.before _ s = true := fun w h => hts w (List.mem_cons_of_mem _ (List.mem_append_right _ h))
  have K25 := hts (Cond.fieldLink RX5 25 "CrashDesk" "taleCount" "I") (List.mem_cons_of_mem _ (List.mem_append_left _ (List.mem_of_getElem? (i := 0) rfl)))
  have hl := lv_entry [.ref (ad 0)] (n := 1) (Nat.le_of_ble_eq_true rfl)
  rw [show entryFrame m args 1 = entryFrame m ([.ref (ad 0)] : List Value).toArray 1 by rw [hav], lg_entry_eq]
  generalize (lg_sl [.ref (ad 0)] ++ List.replicate (1 - (lg_sl [.ref (ad 0)]).length) Slot.unset).toArray = ls at hl ⊢
  have hl : lv_has ls 1 [(0, .ref (ad 0))] := hl
  have main : ∀ (H : Heap) (locs : List Loc) (ls : Array Slot), va_P D vwCl (wd ca ad S) H → va_S (Aq ad s.heap.size) s.heap H locs → lv_has ls 1 [(0, .ref (ad 0))] → W p l e rm_X5_allTales s m args below meth c H locs 0 0 (Zi below D ca ad args s o S) (F0 m 0 ls []) := by
    intro H locs ls hP hS hl
    unfold f_X5_allTales at hf
    refine lv_iconst (v := 1) hx hb dX5_allTales_0 (by decide) ?_
    refine lv_aload_n hx hb dX5_allTales_1 rfl (lv_at hl 0 rfl) ?_
    refine g_X5_taleCount hx hb hX5 hown hKK hP (show qk 0 = 5 from rfl) K25 dX5_allTales_2 ?_
    refine lv_ishl hx hb dX5_allTales_5 ?_
    refine lv_iconst (v := 1) hx hb dX5_allTales_6 (by decide) ?_
    refine lv_isub hx hb dX5_allTales_7 ?_
    obtain rfl := Option.some.inj hf
    exact r_iret hx hb hr hP hS dX5_allTales_8 hlocks
  exact main s.heap [] ls hP va_S.rf hl
def rm_X5_countingSkids : Room := { frames := 0, cells := 0, slots := 0, locals := 0 }
set_option maxRecDepth 100000 in
set_option maxHeartbeats 4000000 in
theorem m_X5_countingSkids (l : Launch) (D : va_G) (ca : Nat → ClassId) (ad : Nat → Nat) (hj : Inj ad)  (S : QS) (o : Int32) (hf : f_X5_countingSkids S = some o) : Ci l D ca ad yX5_countingSkids wsX5_countingSkids rm_X5_countingSkids [.ref (ad 0)] S o S := by
  intro sz
  refine Met.ofW (cc := cX5_countingSkids) (maxL := 3) (ret := (some .int)) (by decide) rfl ?_
  intro p e s m args below meth c s₁ B hml hv
  obtain ⟨hav, hsz, hP, hKK⟩ := hv
  have hx := B.exec
  have hb := B.bytes
  have hr := B.returns
  have hts := atoms_spec (ws := wsX5_countingSkids) B.pre
  have hown : s.vm.findClass RX5 = some m.cls := findClass_of_methodNamed B.named
  have hlocks := B.notSynchronized
  subst hsz
  have hX2 : ∀ w ∈ wsX20, w.before _ s = true := fun w h => hts w (List.mem_cons_of_mem _ (List.mem_append_right _ h))
  have hX5 : ∀ w ∈ wsX50, w.before _ s = true := fun w h => hts w (List.mem_cons_of_mem _ (List.mem_append_left _ (List.mem_append_right _ h)))
  have K11 := hts (Cond.fieldLink RX5 11 "CrashDesk" "skids" "[LCrashDesk$Skid;") (List.mem_cons_of_mem _ (List.mem_append_left _ (List.mem_append_left _ (List.mem_of_getElem? (i := 1) rfl))))
  have K21 := hts (Cond.fieldLink RX5 21 "CrashDesk" "skidCount" "I") (List.mem_cons_of_mem _ (List.mem_append_left _ (List.mem_append_left _ (List.mem_of_getElem? (i := 0) rfl))))
  have K87 := hts (Cond.fieldLink RX5 87 "CrashDesk$Skid" "counts" "Z") (List.mem_cons_of_mem _ (List.mem_append_left _ (List.mem_append_left _ (List.mem_of_getElem? (i := 2) rfl))))
  have hl := lv_entry [.ref (ad 0)] (n := 3) (Nat.le_of_ble_eq_true rfl)
  rw [show entryFrame m args 3 = entryFrame m ([.ref (ad 0)] : List Value).toArray 3 by rw [hav], lg_entry_eq]
  generalize (lg_sl [.ref (ad 0)] ++ List.replicate (3 - (lg_sl [.ref (ad 0)]).length) Slot.unset).toArray = ls at hl ⊢
  have hl : lv_has ls 3 [(0, .ref (ad 0))] := hl
  have main : ∀ (H : Heap) (locs : List Loc) (ls : Array Slot), va_P D vwCl (wd ca ad S) H → va_S (Aq ad s.heap.size) s.heap H locs → lv_has ls 3 [(0, .ref (ad 0))] → W p l e rm_X5_countingSkids s m args below meth c H locs 0 0 (Zi below D ca ad args s o S) (F0 m 0 ls []) := by
    intro H locs ls hP hS hl
    unfold f_X5_countingSkids at hf
    refine lv_iconst (v := 0) hx hb dX5_countingSkids_0 (by decide) ?_
    refine lv_istore_n (lv' := [(1, .int 0), (0, .ref (ad 0))]) hx hb dX5_countingSkids_1 rfl hl (by decide) rfl (fun ls hl => ?_)
    refine lv_iconst (v := 0) hx hb dX5_countingSkids_2 (by decide) ?_
    refine lv_istore_n (lv' := [(2, .int 0), (1, .int 0), (0, .ref (ad 0))]) hx hb dX5_countingSkids_3 rfl hl (by decide) rfl (fun ls hl => ?_)
    have L1 : ∀ (fuel : Nat) (v1 : Int32) (v2 : Int32), lp_X5_countingSkids_4 S fuel v1 v2 = some o → ∀ (H : Heap) (locs : List Loc) (ls : Array Slot), va_P D vwCl (wd ca ad S) H → va_S (Aq ad s.heap.size) s.heap H locs → lv_has ls 3 [(0, .ref (ad 0)), (1, .int v1), (2, .int v2)] → W p l e rm_X5_countingSkids s m args below meth c H locs 0 0 (Zi below D ca ad args s o S) (F0 m 4 ls []) := by
      intro fuel
      induction fuel with
      | zero =>
        intro v1 v2 hf
        simp [lp_X5_countingSkids_4] at hf
      | succ fuel ih =>
        intro v1 v2 hf H locs ls hP hS hl
        rw [lp_X5_countingSkids_4] at hf
        refine lv_iload_n hx hb dX5_countingSkids_4 rfl (lv_at hl 2 rfl) ?_
        refine lv_aload_n hx hb dX5_countingSkids_5 rfl (lv_at hl 0 rfl) ?_
        refine g_X5_skidCount hx hb hX5 hown hKK hP (show qk 0 = 5 from rfl) K21 dX5_countingSkids_6 ?_
        refine lv_icmp_ge (tgt := 38) hx hb dX5_countingSkids_9 (by decide) (fun w => ?_) (fun w => ?_)
        · have hf := if_t w hf
          refine lv_iload_n hx hb dX5_countingSkids_38 rfl (lv_at hl 1 rfl) ?_
          obtain rfl := Option.some.inj hf
          exact r_iret hx hb hr hP hS dX5_countingSkids_39 hlocks
        · have hf := if_f w hf
          refine lv_iload_n hx hb dX5_countingSkids_12 rfl (lv_at hl 1 rfl) ?_
          refine lv_aload_n hx hb dX5_countingSkids_13 rfl (lv_at hl 0 rfl) ?_
          refine g_X5_skids hx hb hX5 hown hKK hP (show qk 0 = 5 from rfl) K11 dX5_countingSkids_14 ?_
          refine lv_iload_n hx hb dX5_countingSkids_17 rfl (lv_at hl 2 rfl) ?_
          obtain ⟨c3, h4, hf⟩ := bd_e hf
          refine r_sald hx hb hKK hP h4 dX5_countingSkids_18 (fun kc3 => ?_)
          refine g_X2_counts hx hb hX2 hown hKK hP kc3 K87 dX5_countingSkids_19 ?_
          obtain ⟨q5, hq5, hf⟩ := bd_e hf
          have J2 : ∀ (H : Heap) (locs : List Loc) (ls : Array Slot), va_P D vwCl (wd ca ad S) H → va_S (Aq ad s.heap.size) s.heap H locs → lv_has ls 3 [(0, .ref (ad 0)), (2, .int v2)] → W p l e rm_X5_countingSkids s m args below meth c H locs 0 0 (Zi below D ca ad args s o S) (F0 m 30 ls [.int q5, .int v1]) := by
            intro H locs ls hP hS hl
            refine lv_iadd hx hb dX5_countingSkids_30 ?_
            refine lv_istore_n (lv' := [(1, .int (v1 + q5)), (0, .ref (ad 0)), (2, .int v2)]) hx hb dX5_countingSkids_31 rfl hl (by decide) rfl (fun ls hl => ?_)
            refine lv_iinc (v := (v2 + 1)) (lv' := [(2, .int (v2 + 1)), (1, .int (v1 + q5)), (0, .ref (ad 0))]) hx hb dX5_countingSkids_32 hl (k := 2) rfl rfl (by decide) rfl (fun ls hl => ?_)
            refine lv_goto (tgt := 4) hx hb dX5_countingSkids_35 (by decide) ?_
            exact ih _ _ hf _ _ _ hP hS (lv_sub hl [2, 1, 0] rfl)
          replace hf := hq5
          refine lv_if_eq (tgt := 29) hx hb dX5_countingSkids_22 (by decide) (fun w => ?_) (fun w => ?_)
          · have hf := if_t w hf
            refine lv_iconst (v := 0) hx hb dX5_countingSkids_29 (by decide) ?_
            obtain rfl := Option.some.inj hf
            exact J2 _ _ _ hP hS (lv_sub hl [0, 2] rfl)
          · have hf := if_f w hf
            refine lv_iconst (v := 1) hx hb dX5_countingSkids_25 (by decide) ?_
            refine lv_goto (tgt := 30) hx hb dX5_countingSkids_26 (by decide) ?_
            obtain rfl := Option.some.inj hf
            exact J2 _ _ _ hP hS (lv_sub hl [0, 2] rfl)
    exact L1 _ _ _ hf _ _ _ hP hS (lv_sub hl [2, 1, 0] rfl)
  exact main s.heap [] ls hP va_S.rf hl
def rm_X5_mass : Room := { frames := 8, cells := 2, slots := 12, locals := 131 }
set_option maxRecDepth 100000 in
set_option maxHeartbeats 4000000 in
theorem m_X5_mass (l : Launch) (hst : l.stackTraces = false) (D : va_G) (ca : Nat → ClassId) (ad : Nat → Nat) (hj : Inj ad) (a1 : Int32) (a2 : Int32) (S : QS) (o : (String × QS) ⊕ QS) (hf : f_X5_mass a1 a2 S = some o) : Xv l D ca ad yX5_mass wsX5_mass rm_X5_mass [.ref (ad 0), .int a1, .int a2] S o 2 12 := by
  intro sz
  refine vx_ofW (cc := cX5_mass) (maxL := 4) (ret := none) (by decide) rfl ?_
  intro p e s m args below meth c s₁ B hml hT hv
  obtain ⟨hav, ⟨hsz, hP, hKK⟩, hE⟩ := hv
  have hx := B.exec
  have hb := B.bytes
  have hr := B.returns
  have hts := atoms_spec (ws := wsX5_mass) B.pre
  have hown : s.vm.findClass RX5 = some m.cls := findClass_of_methodNamed B.named
  have hlocks := B.notSynchronized
  subst hsz
  have hX0 : ∀ w ∈ wsX00, w.before _ s = true := fun w h => hts w (List.mem_cons_of_mem _ (List.mem_append_left _ (List.mem_append_left _ (List.mem_append_left _ (List.mem_append_left _ (List.mem_append_right _ h))))))
  have hX5 : ∀ w ∈ wsX50, w.before _ s = true := fun w h => hts w (List.mem_cons_of_mem _ (List.mem_append_left _ (List.mem_append_left _ (List.mem_append_left _ (List.mem_append_right _ h)))))
  have K35 := hts (Cond.fieldLink RX5 35 "CrashDesk" "reckoned" "Z") (List.mem_cons_of_mem _ (List.mem_append_left _ (List.mem_append_left _ (List.mem_append_left _ (List.mem_append_left _ (List.mem_append_left _ (List.mem_append_left _ (List.mem_of_getElem? (i := 1) rfl))))))))
  have K55 := hts (Cond.fieldLink RX5 55 "CrashDesk$Car" "mass" "I") (List.mem_cons_of_mem _ (List.mem_append_left _ (List.mem_append_left _ (List.mem_append_left _ (List.mem_append_left _ (List.mem_append_left _ (List.mem_append_left _ (List.mem_of_getElem? (i := 0) rfl))))))))
  have hl := lv_entry [.ref (ad 0), .int a1, .int a2] (n := 4) (Nat.le_of_ble_eq_true rfl)
  rw [show entryFrame m args 4 = entryFrame m ([.ref (ad 0), .int a1, .int a2] : List Value).toArray 4 by rw [hav], lg_entry_eq]
  generalize (lg_sl [.ref (ad 0), .int a1, .int a2] ++ List.replicate (4 - (lg_sl [.ref (ad 0), .int a1, .int a2]).length) Slot.unset).toArray = ls at hl ⊢
  have hl : lv_has ls 4 [(0, .ref (ad 0)), (1, .int a1), (2, .int a2)] := hl
  have main : ∀ (H : Heap) (locs : List Loc) (ls : Array Slot), va_P D vwCl (wd ca ad S) H → va_S (Aq ad s.heap.size) s.heap H locs → lv_has ls 4 [(0, .ref (ad 0)), (1, .int a1), (2, .int a2)] → W p l e rm_X5_mass s m args below meth c H locs 0 0 (Yv below D ca ad args s 2 12 o) (F0 m 0 ls []) := by
    intro H locs ls hP hS hl
    unfold f_X5_mass at hf
    refine lv_aload_n hx hb dX5_mass_0 rfl (lv_at hl 0 rfl) ?_
    refine lv_iload_n hx hb dX5_mass_1 rfl (lv_at hl 1 rfl) ?_
    obtain ⟨o3, ho3⟩ := bx_e hf
    refine y_r hS (vx_runV (As := [.int a1]) (rest := []) ⟨hx, hb, hml, hown, hts⟩ (m_X5_carOf l hst D ca ad hj a1 S o3 ho3 H.size) (cwV 1 hts gX5_mass_X5_carOf rfl rfl rfl (by decide +kernel) ⟨Nat.le_of_ble_eq_true rfl, Nat.le_of_ble_eq_true rfl⟩) (x_preV hE hS hKK hP (show qk 0 = 5 from rfl) rfl) rfl rfl hl.1 rfl (lv_room (Nat.le_of_ble_eq_true rfl)) dX5_mass_2 ⟨Nat.le_of_ble_eq_true rfl, Nat.le_of_ble_eq_true rfl⟩) (fun E ce q9 u H locs hu hP hS h1 h2 h3 => x_out hT hlocks hP hS h1 h2 h3 (bx_l hf ho3 hu).symm (Nat.le_of_ble_eq_true rfl) (Nat.le_of_ble_eq_true rfl)) (fun c2 H locs hu hP hS => ?_)
    have hf := bx_r hf ho3 hu
    have kc2 := k_X5_carOf (ho3.trans (congrArg some hu))
    refine lv_astore_n (lv' := [(3, .ref (ad c2)), (0, .ref (ad 0)), (1, .int a1), (2, .int a2)]) hx hb dX5_mass_5 rfl hl (by decide) rfl (fun ls hl => ?_)
    refine lv_iload_n hx hb dX5_mass_6 rfl (lv_at hl 3 rfl) ?_
    refine lv_iconst (v := 1) hx hb dX5_mass_7 (by decide) ?_
    refine lv_bipush (v := 100) hx hb dX5_mass_8 (by decide) ?_
    obtain ⟨o5, ho5⟩ := bx_e hf
    refine y_u hS (vx_runS (As := [.int a2, .int 1, .int 100]) (rest := []) ⟨hx, hb, hml, hown, hts⟩ (m_X5_testNumber l hst D ca ad hj a2 1 100 S o5 ho5 H.size) (cwS 3 hts gX5_mass_X5_testNumber rfl rfl rfl (by decide +kernel) ⟨Nat.le_of_ble_eq_true rfl, Nat.le_of_ble_eq_true rfl⟩) (x_pre hE hS hKK hP) rfl rfl hl.1 rfl (lv_room (Nat.le_of_ble_eq_true rfl)) dX5_mass_10 ⟨Nat.le_of_ble_eq_true rfl, Nat.le_of_ble_eq_true rfl⟩) (fun E ce q9 u H locs hu hP hS h1 h2 h3 => x_out hT hlocks hP hS h1 h2 h3 (bx_l hf ho5 hu).symm (Nat.le_of_ble_eq_true rfl) (Nat.le_of_ble_eq_true rfl)) (fun H locs hu hP hS => ?_)
    have hf := bx_r hf ho5 hu
    refine lv_aload_n hx hb dX5_mass_13 rfl (lv_at hl 0 rfl) ?_
    refine lv_iload_n hx hb dX5_mass_14 rfl (lv_at hl 3 rfl) ?_
    obtain ⟨S6, h7, hf⟩ := bd_e hf
    obtain rfl := Option.some.inj h7
    refine p_X0_mass hx hb hX0 hown hj hKK hP hS kc2 K55 dX5_mass_15 (fun H locs hP hS => ?_)
    refine lv_aload_n hx hb dX5_mass_18 rfl (lv_at hl 1 rfl) ?_
    refine lv_iconst (v := 0) hx hb dX5_mass_19 (by decide) ?_
    obtain ⟨S8, h9, hf⟩ := bd_e hf
    refine p_X5_reckoned hx hb hX5 hown hj hKK hP hS (show qk 0 = 5 from rfl) h9 K35 dX5_mass_20 (fun H locs hP hS => ?_)
    exact x_vret hx hb hr hP hS dX5_mass_23 hlocks (Nat.le_of_ble_eq_true rfl) (Nat.le_of_ble_eq_true rfl) (Option.some.inj hf).symm
  exact main s.heap [] ls hP va_S.rf hl
def rm_X5_skid : Room := { frames := 7, cells := 4, slots := 24, locals := 113 }
set_option maxRecDepth 100000 in
set_option maxHeartbeats 4000000 in
theorem m_X5_skid (l : Launch) (hst : l.stackTraces = false) (D : va_G) (ca : Nat → ClassId) (ad : Nat → Nat) (hj : Inj ad) (a1 : Int32) (a2 : Int32) (a3 : Int32) (a4 : Int32) (a5 : Int32) (a6 : Int32) (S : QS) (o : (String × QS) ⊕ (Int32 × QS)) (hf : f_X5_skid a1 a2 a3 a4 a5 a6 S = some o) : Xi l D ca ad yX5_skid wsX5_skid rm_X5_skid [.ref (ad 0), .int a1, .int a2, .int a3, .int a4, .int a5, .int a6] S o 4 24 := by
  intro sz
  refine vx_ofW (cc := cX5_skid) (maxL := 8) (ret := (some .int)) (by decide) rfl ?_
  intro p e s m args below meth c s₁ B hml hT hv
  obtain ⟨hav, ⟨hsz, hP, hKK⟩, hE⟩ := hv
  have hx := B.exec
  have hb := B.bytes
  have hr := B.returns
  have hts := atoms_spec (ws := wsX5_skid) B.pre
  have hown : s.vm.findClass RX5 = some m.cls := findClass_of_methodNamed B.named
  have hlocks := B.notSynchronized
  subst hsz
  have hX2 : ∀ w ∈ wsX20, w.before _ s = true := fun w h => hts w (List.mem_cons_of_mem _ (List.mem_append_left _ (List.mem_append_left _ (List.mem_append_left _ (List.mem_append_right _ h)))))
  have hX5 : ∀ w ∈ wsX50, w.before _ s = true := fun w h => hts w (List.mem_cons_of_mem _ (List.mem_append_left _ (List.mem_append_left _ (List.mem_append_left _ (List.mem_append_left _ (List.mem_append_right _ h))))))
  have K11 := hts (Cond.fieldLink RX5 11 "CrashDesk" "skids" "[LCrashDesk$Skid;") (List.mem_cons_of_mem _ (List.mem_append_left _ (List.mem_append_left _ (List.mem_append_left _ (List.mem_append_left _ (List.mem_append_left _ (List.mem_of_getElem? (i := 3) rfl)))))))
  have K21 := hts (Cond.fieldLink RX5 21 "CrashDesk" "skidCount" "I") (List.mem_cons_of_mem _ (List.mem_append_left _ (List.mem_append_left _ (List.mem_append_left _ (List.mem_append_left _ (List.mem_append_left _ (List.mem_of_getElem? (i := 2) rfl)))))))
  have K35 := hts (Cond.fieldLink RX5 35 "CrashDesk" "reckoned" "Z") (List.mem_cons_of_mem _ (List.mem_append_left _ (List.mem_append_left _ (List.mem_append_left _ (List.mem_append_left _ (List.mem_append_left _ (List.mem_of_getElem? (i := 9) rfl)))))))
  have K68 := hts (Cond.classLink RX5 68 "java/lang/UnsupportedOperationException") (List.mem_cons_of_mem _ (List.mem_append_left _ (List.mem_append_left _ (List.mem_append_left _ (List.mem_append_left _ (List.mem_append_left _ (List.mem_of_getElem? (i := 0) rfl)))))))
  have K75 := hts (Cond.fieldLink RX5 75 "CrashDesk$Skid" "car" "I") (List.mem_cons_of_mem _ (List.mem_append_left _ (List.mem_append_left _ (List.mem_append_left _ (List.mem_append_left _ (List.mem_append_left _ (List.mem_of_getElem? (i := 4) rfl)))))))
  have K78 := hts (Cond.fieldLink RX5 78 "CrashDesk$Skid" "behind" "Z") (List.mem_cons_of_mem _ (List.mem_append_left _ (List.mem_append_left _ (List.mem_append_left _ (List.mem_append_left _ (List.mem_append_left _ (List.mem_of_getElem? (i := 5) rfl)))))))
  have K81 := hts (Cond.fieldLink RX5 81 "CrashDesk$Skid" "least" "I") (List.mem_cons_of_mem _ (List.mem_append_left _ (List.mem_append_left _ (List.mem_append_left _ (List.mem_append_left _ (List.mem_append_left _ (List.mem_of_getElem? (i := 6) rfl)))))))
  have K84 := hts (Cond.fieldLink RX5 84 "CrashDesk$Skid" "greatest" "I") (List.mem_cons_of_mem _ (List.mem_append_left _ (List.mem_append_left _ (List.mem_append_left _ (List.mem_append_left _ (List.mem_append_left _ (List.mem_of_getElem? (i := 7) rfl)))))))
  have K87 := hts (Cond.fieldLink RX5 87 "CrashDesk$Skid" "counts" "Z") (List.mem_cons_of_mem _ (List.mem_append_left _ (List.mem_append_left _ (List.mem_append_left _ (List.mem_append_left _ (List.mem_append_left _ (List.mem_of_getElem? (i := 8) rfl)))))))
  have hl := lv_entry [.ref (ad 0), .int a1, .int a2, .int a3, .int a4, .int a5, .int a6] (n := 8) (Nat.le_of_ble_eq_true rfl)
  rw [show entryFrame m args 8 = entryFrame m ([.ref (ad 0), .int a1, .int a2, .int a3, .int a4, .int a5, .int a6] : List Value).toArray 8 by rw [hav], lg_entry_eq]
  generalize (lg_sl [.ref (ad 0), .int a1, .int a2, .int a3, .int a4, .int a5, .int a6] ++ List.replicate (8 - (lg_sl [.ref (ad 0), .int a1, .int a2, .int a3, .int a4, .int a5, .int a6]).length) Slot.unset).toArray = ls at hl ⊢
  have hl : lv_has ls 8 [(0, .ref (ad 0)), (1, .int a1), (2, .int a2), (3, .int a3), (4, .int a4), (5, .int a5), (6, .int a6)] := hl
  have main : ∀ (H : Heap) (locs : List Loc) (ls : Array Slot), va_P D vwCl (wd ca ad S) H → va_S (Aq ad s.heap.size) s.heap H locs → lv_has ls 8 [(0, .ref (ad 0)), (1, .int a1), (2, .int a2), (3, .int a3), (4, .int a4), (5, .int a5), (6, .int a6)] → W p l e rm_X5_skid s m args below meth c H locs 0 0 (Yi below D ca ad args s 4 24 o) (F0 m 0 ls []) := by
    intro H locs ls hP hS hl
    unfold f_X5_skid at hf
    refine lv_iload_n hx hb dX5_skid_0 rfl (lv_at hl 1 rfl) ?_
    obtain ⟨o2, ho2⟩ := bx_e hf
    refine y_u hS (vx_runS (As := [.int a1]) (rest := []) ⟨hx, hb, hml, hown, hts⟩ (m_X5_testCar l hst D ca ad hj a1 S o2 ho2 H.size) (cwS 1 hts gX5_skid_X5_testCar rfl rfl rfl (by decide +kernel) ⟨Nat.le_of_ble_eq_true rfl, Nat.le_of_ble_eq_true rfl⟩) (x_pre hE hS hKK hP) rfl rfl hl.1 rfl (lv_room (Nat.le_of_ble_eq_true rfl)) dX5_skid_1 ⟨Nat.le_of_ble_eq_true rfl, Nat.le_of_ble_eq_true rfl⟩) (fun E ce q9 u H locs hu hP hS h1 h2 h3 => x_out hT hlocks hP hS h1 h2 h3 (bx_l hf ho2 hu).symm (Nat.le_of_ble_eq_true rfl) (Nat.le_of_ble_eq_true rfl)) (fun H locs hu hP hS => ?_)
    have hf := bx_r hf ho2 hu
    refine lv_iload_n hx hb dX5_skid_4 rfl (lv_at hl 3 rfl) ?_
    refine lv_iload hx hb dX5_skid_5 (lv_at hl 4 rfl) ?_
    refine lv_iconst (v := 0) hx hb dX5_skid_7 (by decide) ?_
    refine lv_sipush (v := 2000) hx hb dX5_skid_8 (by decide) ?_
    obtain ⟨o4, ho4⟩ := bx_e hf
    refine y_u hS (vx_runS (As := [.int a3, .int a4, .int 0, .int 2000]) (rest := []) ⟨hx, hb, hml, hown, hts⟩ (m_X5_testSpan l hst D ca ad hj a3 a4 0 2000 S o4 ho4 H.size) (cwS 4 hts gX5_skid_X5_testSpan rfl rfl rfl (by decide +kernel) ⟨Nat.le_of_ble_eq_true rfl, Nat.le_of_ble_eq_true rfl⟩) (x_pre hE hS hKK hP) rfl rfl hl.1 rfl (lv_room (Nat.le_of_ble_eq_true rfl)) dX5_skid_11 ⟨Nat.le_of_ble_eq_true rfl, Nat.le_of_ble_eq_true rfl⟩) (fun E ce q9 u H locs hu hP hS h1 h2 h3 => x_out hT hlocks hP hS h1 h2 h3 (bx_l hf ho4 hu).symm (Nat.le_of_ble_eq_true rfl) (Nat.le_of_ble_eq_true rfl)) (fun H locs hu hP hS => ?_)
    have hf := bx_r hf ho4 hu
    refine lv_iload hx hb dX5_skid_14 (lv_at hl 5 rfl) ?_
    refine lv_iload hx hb dX5_skid_16 (lv_at hl 6 rfl) ?_
    refine lv_iconst (v := 0) hx hb dX5_skid_18 (by decide) ?_
    refine lv_sipush (v := 150) hx hb dX5_skid_19 (by decide) ?_
    obtain ⟨o6, ho6⟩ := bx_e hf
    refine y_u hS (vx_runS (As := [.int a5, .int a6, .int 0, .int 150]) (rest := []) ⟨hx, hb, hml, hown, hts⟩ (m_X5_testSpan l hst D ca ad hj a5 a6 0 150 S o6 ho6 H.size) (cwS 4 hts gX5_skid_X5_testSpan rfl rfl rfl (by decide +kernel) ⟨Nat.le_of_ble_eq_true rfl, Nat.le_of_ble_eq_true rfl⟩) (x_pre hE hS hKK hP) rfl rfl hl.1 rfl (lv_room (Nat.le_of_ble_eq_true rfl)) dX5_skid_22 ⟨Nat.le_of_ble_eq_true rfl, Nat.le_of_ble_eq_true rfl⟩) (fun E ce q9 u H locs hu hP hS h1 h2 h3 => x_out hT hlocks hP hS h1 h2 h3 (bx_l hf ho6 hu).symm (Nat.le_of_ble_eq_true rfl) (Nat.le_of_ble_eq_true rfl)) (fun H locs hu hP hS => ?_)
    have hf := bx_r hf ho6 hu
    refine lv_aload_n hx hb dX5_skid_25 rfl (lv_at hl 0 rfl) ?_
    refine g_X5_skidCount hx hb hX5 hown hKK hP (show qk 0 = 5 from rfl) K21 dX5_skid_26 ?_
    refine lv_bipush (v := 12) hx hb dX5_skid_29 (by decide) ?_
    refine lv_icmp_lt (tgt := 44) hx hb dX5_skid_31 (by decide) (fun w => ?_) (fun w => ?_)
    · have hf := if_t w hf
      refine lv_aload_n hx hb dX5_skid_44 rfl (lv_at hl 0 rfl) ?_
      refine g_X5_skids hx hb hX5 hown hKK hP (show qk 0 = 5 from rfl) K11 dX5_skid_45 ?_
      refine lv_aload_n hx hb dX5_skid_48 rfl (lv_at hl 0 rfl) ?_
      refine g_X5_skidCount hx hb hX5 hown hKK hP (show qk 0 = 5 from rfl) K21 dX5_skid_49 ?_
      obtain ⟨c7, h8, hf⟩ := bd_e hf
      refine r_sald hx hb hKK hP h8 dX5_skid_52 (fun kc7 => ?_)
      refine lv_astore (lv' := [(7, .ref (ad c7)), (0, .ref (ad 0)), (1, .int a1), (2, .int a2), (3, .int a3), (4, .int a4), (5, .int a5), (6, .int a6)]) hx hb dX5_skid_53 hl (by decide) rfl (fun ls hl => ?_)
      refine lv_aload hx hb dX5_skid_55 (lv_at hl 0 rfl) ?_
      refine lv_iload_n hx hb dX5_skid_57 rfl (lv_at hl 2 rfl) ?_
      obtain ⟨S9, h10, hf⟩ := bd_e hf
      obtain rfl := Option.some.inj h10
      refine p_X2_car hx hb hX2 hown hj hKK hP hS kc7 K75 dX5_skid_58 (fun H locs hP hS => ?_)
      refine lv_aload hx hb dX5_skid_61 (lv_at hl 0 rfl) ?_
      refine lv_iload_n hx hb dX5_skid_63 rfl (lv_at hl 3 rfl) ?_
      obtain ⟨S11, h12, hf⟩ := bd_e hf
      refine p_X2_behind hx hb hX2 hown hj hKK hP hS kc7 h12 K78 dX5_skid_64 (fun H locs hP hS => ?_)
      refine lv_aload hx hb dX5_skid_67 (lv_at hl 0 rfl) ?_
      refine lv_iload_n hx hb dX5_skid_69 rfl (lv_at hl 4 rfl) ?_
      refine lv_iload hx hb dX5_skid_70 (lv_at hl 6 rfl) ?_
      refine lv_imul hx hb dX5_skid_72 ?_
      obtain ⟨S13, h14, hf⟩ := bd_e hf
      obtain rfl := Option.some.inj h14
      refine p_X2_least hx hb hX2 hown hj hKK hP hS kc7 K81 dX5_skid_73 (fun H locs hP hS => ?_)
      refine lv_aload hx hb dX5_skid_76 (lv_at hl 0 rfl) ?_
      refine lv_iload hx hb dX5_skid_78 (lv_at hl 5 rfl) ?_
      refine lv_iload hx hb dX5_skid_80 (lv_at hl 7 rfl) ?_
      refine lv_imul hx hb dX5_skid_82 ?_
      obtain ⟨S15, h16, hf⟩ := bd_e hf
      obtain rfl := Option.some.inj h16
      refine p_X2_greatest hx hb hX2 hown hj hKK hP hS kc7 K84 dX5_skid_83 (fun H locs hP hS => ?_)
      refine lv_aload hx hb dX5_skid_86 (lv_at hl 0 rfl) ?_
      refine lv_iconst (v := 1) hx hb dX5_skid_88 (by decide) ?_
      obtain ⟨S17, h18, hf⟩ := bd_e hf
      refine p_X2_counts hx hb hX2 hown hj hKK hP hS kc7 h18 K87 dX5_skid_89 (fun H locs hP hS => ?_)
      refine lv_aload_n hx hb dX5_skid_92 rfl (lv_at hl 1 rfl) ?_
      refine lv_dup hx hb dX5_skid_93 rfl ?_
      refine g_X5_skidCount hx hb hX5 hown hKK hP (show qk 0 = 5 from rfl) K21 dX5_skid_94 ?_
      refine lv_iconst (v := 1) hx hb dX5_skid_97 (by decide) ?_
      refine lv_iadd hx hb dX5_skid_98 ?_
      obtain ⟨S19, h20, hf⟩ := bd_e hf
      obtain rfl := Option.some.inj h20
      refine p_X5_skidCount hx hb hX5 hown hj hKK hP hS (show qk 0 = 5 from rfl) K21 dX5_skid_99 (fun H locs hP hS => ?_)
      refine lv_aload_n hx hb dX5_skid_102 rfl (lv_at hl 1 rfl) ?_
      refine lv_iconst (v := 0) hx hb dX5_skid_103 (by decide) ?_
      obtain ⟨S21, h22, hf⟩ := bd_e hf
      refine p_X5_reckoned hx hb hX5 hown hj hKK hP hS (show qk 0 = 5 from rfl) h22 K35 dX5_skid_104 (fun H locs hP hS => ?_)
      refine lv_aload_n hx hb dX5_skid_107 rfl (lv_at hl 1 rfl) ?_
      refine g_X5_skidCount hx hb hX5 hown hKK hP (show qk 0 = 5 from rfl) K21 dX5_skid_108 ?_
      refine lv_iconst (v := 1) hx hb dX5_skid_111 (by decide) ?_
      refine lv_isub hx hb dX5_skid_112 ?_
      exact x_iret hx hb hr hP hS dX5_skid_113 hlocks (Nat.le_of_ble_eq_true rfl) (Nat.le_of_ble_eq_true rfl) (Option.some.inj hf).symm
    · have hf := if_f w hf
      exact x_throw hx hb hst (hml.trans hl.1.symm) hown hE hP hS (by decide +kernel) K68 (hts _ (List.mem_cons_of_mem _ (List.mem_append_left _ (List.mem_append_left _ (List.mem_append_left _ (List.mem_append_left _ (List.mem_append_left _ (List.mem_of_getElem? (i := 1) rfl)))))))) (List.mem_of_getElem? (i := 3) rfl) (fun w h => hts w (List.mem_cons_of_mem _ (List.mem_append_left _ (List.mem_append_left _ (List.mem_append_right _ h))))) qh_3 qo_3 dX5_skid_34 dX5_skid_37 dX5_skid_38 dX5_skid_40 dX5_skid_43 hT (Nat.le_of_ble_eq_true rfl) (Nat.le_of_ble_eq_true rfl) (Nat.le_of_ble_eq_true rfl) (Nat.le_of_ble_eq_true rfl) hlocks (Nat.le_of_ble_eq_true rfl) (Nat.le_of_ble_eq_true rfl) (Option.some.inj hf).symm
  exact main s.heap [] ls hP va_S.rf hl
def rm_X5_drop : Room := { frames := 7, cells := 1, slots := 6, locals := 111 }
set_option maxRecDepth 100000 in
set_option maxHeartbeats 4000000 in
theorem m_X5_drop (l : Launch) (hst : l.stackTraces = false) (D : va_G) (ca : Nat → ClassId) (ad : Nat → Nat) (hj : Inj ad) (a1 : Int32) (a2 : Int32) (S : QS) (o : (String × QS) ⊕ (Int32 × QS)) (hf : f_X5_drop a1 a2 S = some o) : Xi l D ca ad yX5_drop wsX5_drop rm_X5_drop [.ref (ad 0), .int a1, .int a2] S o 1 6 := by
  intro sz
  refine vx_ofW (cc := cX5_drop) (maxL := 4) (ret := (some .boolean)) (by decide) rfl ?_
  intro p e s m args below meth c s₁ B hml hT hv
  obtain ⟨hav, ⟨hsz, hP, hKK⟩, hE⟩ := hv
  have hx := B.exec
  have hb := B.bytes
  have hr := B.returns
  have hts := atoms_spec (ws := wsX5_drop) B.pre
  have hown : s.vm.findClass RX5 = some m.cls := findClass_of_methodNamed B.named
  have hlocks := B.notSynchronized
  subst hsz
  have hX2 : ∀ w ∈ wsX20, w.before _ s = true := fun w h => hts w (List.mem_cons_of_mem _ (List.mem_append_left _ (List.mem_append_left _ (List.mem_append_right _ h))))
  have hX5 : ∀ w ∈ wsX50, w.before _ s = true := fun w h => hts w (List.mem_cons_of_mem _ (List.mem_append_left _ (List.mem_append_right _ h)))
  have K35 := hts (Cond.fieldLink RX5 35 "CrashDesk" "reckoned" "Z") (List.mem_cons_of_mem _ (List.mem_append_left _ (List.mem_append_left _ (List.mem_append_left _ (List.mem_of_getElem? (i := 1) rfl)))))
  have K87 := hts (Cond.fieldLink RX5 87 "CrashDesk$Skid" "counts" "Z") (List.mem_cons_of_mem _ (List.mem_append_left _ (List.mem_append_left _ (List.mem_append_left _ (List.mem_of_getElem? (i := 0) rfl)))))
  have hl := lv_entry [.ref (ad 0), .int a1, .int a2] (n := 4) (Nat.le_of_ble_eq_true rfl)
  rw [show entryFrame m args 4 = entryFrame m ([.ref (ad 0), .int a1, .int a2] : List Value).toArray 4 by rw [hav], lg_entry_eq]
  generalize (lg_sl [.ref (ad 0), .int a1, .int a2] ++ List.replicate (4 - (lg_sl [.ref (ad 0), .int a1, .int a2]).length) Slot.unset).toArray = ls at hl ⊢
  have hl : lv_has ls 4 [(0, .ref (ad 0)), (1, .int a1), (2, .int a2)] := hl
  have main : ∀ (H : Heap) (locs : List Loc) (ls : Array Slot), va_P D vwCl (wd ca ad S) H → va_S (Aq ad s.heap.size) s.heap H locs → lv_has ls 4 [(0, .ref (ad 0)), (1, .int a1), (2, .int a2)] → W p l e rm_X5_drop s m args below meth c H locs 0 0 (Yi below D ca ad args s 1 6 o) (F0 m 0 ls []) := by
    intro H locs ls hP hS hl
    unfold f_X5_drop at hf
    refine lv_aload_n hx hb dX5_drop_0 rfl (lv_at hl 0 rfl) ?_
    refine lv_iload_n hx hb dX5_drop_1 rfl (lv_at hl 1 rfl) ?_
    obtain ⟨o3, ho3⟩ := bx_e hf
    refine y_r hS (vx_runV (As := [.int a1]) (rest := []) ⟨hx, hb, hml, hown, hts⟩ (m_X5_skidOf l hst D ca ad hj a1 S o3 ho3 H.size) (cwV 1 hts gX5_drop_X5_skidOf rfl rfl rfl (by decide +kernel) ⟨Nat.le_of_ble_eq_true rfl, Nat.le_of_ble_eq_true rfl⟩) (x_preV hE hS hKK hP (show qk 0 = 5 from rfl) rfl) rfl rfl hl.1 rfl (lv_room (Nat.le_of_ble_eq_true rfl)) dX5_drop_2 ⟨Nat.le_of_ble_eq_true rfl, Nat.le_of_ble_eq_true rfl⟩) (fun E ce q9 u H locs hu hP hS h1 h2 h3 => x_out hT hlocks hP hS h1 h2 h3 (bx_l hf ho3 hu).symm (Nat.le_of_ble_eq_true rfl) (Nat.le_of_ble_eq_true rfl)) (fun c2 H locs hu hP hS => ?_)
    have hf := bx_r hf ho3 hu
    have kc2 := k_X5_skidOf (ho3.trans (congrArg some hu))
    refine lv_astore_n (lv' := [(3, .ref (ad c2)), (0, .ref (ad 0)), (1, .int a1), (2, .int a2)]) hx hb dX5_drop_5 rfl hl (by decide) rfl (fun ls hl => ?_)
    refine lv_aload_n hx hb dX5_drop_6 rfl (lv_at hl 0 rfl) ?_
    refine g_X2_counts hx hb hX2 hown hKK hP kc2 K87 dX5_drop_7 ?_
    refine lv_iload_n hx hb dX5_drop_10 rfl (lv_at hl 3 rfl) ?_
    refine lv_icmp_eq (tgt := 16) hx hb dX5_drop_11 (by decide) (fun w => ?_) (fun w => ?_)
    · have hf := if_t w hf
      refine lv_aload_n hx hb dX5_drop_16 rfl (lv_at hl 0 rfl) ?_
      refine lv_iload_n hx hb dX5_drop_17 rfl (lv_at hl 3 rfl) ?_
      obtain ⟨q4, hq4, hf⟩ := bd_e hf
      have J1 : ∀ (H : Heap) (locs : List Loc) (ls : Array Slot), va_P D vwCl (wd ca ad S) H → va_S (Aq ad s.heap.size) s.heap H locs → lv_has ls 4 [(0, .ref (ad 0))] → W p l e rm_X5_drop s m args below meth c H locs 1 6 (Yi below D ca ad args s 1 6 o) (F0 m 26 ls [.int q4, .ref (ad c2)]) := by
        intro H locs ls hP hS hl
        obtain ⟨S5, h6, hf⟩ := bd_e hf
        refine p_X2_counts hx hb hX2 hown hj hKK hP hS kc2 h6 K87 dX5_drop_26 (fun H locs hP hS => ?_)
        refine lv_aload_n hx hb dX5_drop_29 rfl (lv_at hl 0 rfl) ?_
        refine lv_iconst (v := 0) hx hb dX5_drop_30 (by decide) ?_
        obtain ⟨S7, h8, hf⟩ := bd_e hf
        refine p_X5_reckoned hx hb hX5 hown hj hKK hP hS (show qk 0 = 5 from rfl) h8 K35 dX5_drop_31 (fun H locs hP hS => ?_)
        refine lv_iconst (v := 1) hx hb dX5_drop_34 (by decide) ?_
        exact x_zret hx hb hr (Or.inr rfl) hP hS dX5_drop_35 hlocks (Nat.le_of_ble_eq_true rfl) (Nat.le_of_ble_eq_true rfl) (Option.some.inj hf).symm
      replace hf := hq4
      refine lv_if_ne (tgt := 25) hx hb dX5_drop_18 (by decide) (fun w => ?_) (fun w => ?_)
      · have hf := if_f w hf
        refine lv_iconst (v := 0) hx hb dX5_drop_25 (by decide) ?_
        obtain rfl := Option.some.inj hf
        exact J1 _ _ _ hP hS (lv_sub hl [1] rfl)
      · have hf := if_t w hf
        refine lv_iconst (v := 1) hx hb dX5_drop_21 (by decide) ?_
        refine lv_goto (tgt := 26) hx hb dX5_drop_22 (by decide) ?_
        obtain rfl := Option.some.inj hf
        exact J1 _ _ _ hP hS (lv_sub hl [1] rfl)
    · have hf := if_f w hf
      refine lv_iconst (v := 0) hx hb dX5_drop_14 (by decide) ?_
      exact x_zret hx hb hr (Or.inl rfl) hP hS dX5_drop_15 hlocks (Nat.le_of_ble_eq_true rfl) (Nat.le_of_ble_eq_true rfl) (Option.some.inj hf).symm
  exact main s.heap [] ls hP va_S.rf hl
def rm_X5_sure : Room := { frames := 9, cells := 4, slots := 24, locals := 153 }
set_option maxRecDepth 100000 in
set_option maxHeartbeats 4000000 in
theorem m_X5_sure (l : Launch) (hst : l.stackTraces = false) (D : va_G) (ca : Nat → ClassId) (ad : Nat → Nat) (hj : Inj ad) (a1 : Int32) (a2 : Int32) (a3 : Int32) (a4 : Int32) (S : QS) (o : (String × QS) ⊕ QS) (hf : f_X5_sure a1 a2 a3 a4 S = some o) : Xv l D ca ad yX5_sure wsX5_sure rm_X5_sure [.ref (ad 0), .int a1, .int a2, .int a3, .int a4] S o 4 24 := by
  intro sz
  refine vx_ofW (cc := cX5_sure) (maxL := 6) (ret := none) (by decide) rfl ?_
  intro p e s m args below meth c s₁ B hml hT hv
  obtain ⟨hav, ⟨hsz, hP, hKK⟩, hE⟩ := hv
  have hx := B.exec
  have hb := B.bytes
  have hr := B.returns
  have hts := atoms_spec (ws := wsX5_sure) B.pre
  have hown : s.vm.findClass RX5 = some m.cls := findClass_of_methodNamed B.named
  have hlocks := B.notSynchronized
  subst hsz
  have hX3 : ∀ w ∈ wsX30, w.before _ s = true := fun w h => hts w (List.mem_cons_of_mem _ (List.mem_append_left _ (List.mem_append_left _ (List.mem_append_left _ (List.mem_append_left _ (List.mem_append_left _ (List.mem_append_right _ h)))))))
  have hX5 : ∀ w ∈ wsX50, w.before _ s = true := fun w h => hts w (List.mem_cons_of_mem _ (List.mem_append_left _ (List.mem_append_left _ (List.mem_append_left _ (List.mem_append_left _ (List.mem_append_right _ h))))))
  have K35 := hts (Cond.fieldLink RX5 35 "CrashDesk" "reckoned" "Z") (List.mem_cons_of_mem _ (List.mem_append_left _ (List.mem_append_left _ (List.mem_append_left _ (List.mem_append_left _ (List.mem_append_left _ (List.mem_append_left _ (List.mem_append_left _ (List.mem_of_getElem? (i := 2) rfl)))))))))
  have K98 := hts (Cond.fieldLink RX5 98 "CrashDesk$Speed" "low" "I") (List.mem_cons_of_mem _ (List.mem_append_left _ (List.mem_append_left _ (List.mem_append_left _ (List.mem_append_left _ (List.mem_append_left _ (List.mem_append_left _ (List.mem_append_left _ (List.mem_of_getElem? (i := 0) rfl)))))))))
  have K103 := hts (Cond.fieldLink RX5 103 "CrashDesk$Speed" "high" "I") (List.mem_cons_of_mem _ (List.mem_append_left _ (List.mem_append_left _ (List.mem_append_left _ (List.mem_append_left _ (List.mem_append_left _ (List.mem_append_left _ (List.mem_append_left _ (List.mem_of_getElem? (i := 1) rfl)))))))))
  have hl := lv_entry [.ref (ad 0), .int a1, .int a2, .int a3, .int a4] (n := 6) (Nat.le_of_ble_eq_true rfl)
  rw [show entryFrame m args 6 = entryFrame m ([.ref (ad 0), .int a1, .int a2, .int a3, .int a4] : List Value).toArray 6 by rw [hav], lg_entry_eq]
  generalize (lg_sl [.ref (ad 0), .int a1, .int a2, .int a3, .int a4] ++ List.replicate (6 - (lg_sl [.ref (ad 0), .int a1, .int a2, .int a3, .int a4]).length) Slot.unset).toArray = ls at hl ⊢
  have hl : lv_has ls 6 [(0, .ref (ad 0)), (1, .int a1), (2, .int a2), (3, .int a3), (4, .int a4)] := hl
  have main : ∀ (H : Heap) (locs : List Loc) (ls : Array Slot), va_P D vwCl (wd ca ad S) H → va_S (Aq ad s.heap.size) s.heap H locs → lv_has ls 6 [(0, .ref (ad 0)), (1, .int a1), (2, .int a2), (3, .int a3), (4, .int a4)] → W p l e rm_X5_sure s m args below meth c H locs 0 0 (Yv below D ca ad args s 4 24 o) (F0 m 0 ls []) := by
    intro H locs ls hP hS hl
    unfold f_X5_sure at hf
    refine lv_aload_n hx hb dX5_sure_0 rfl (lv_at hl 0 rfl) ?_
    refine lv_iload_n hx hb dX5_sure_1 rfl (lv_at hl 1 rfl) ?_
    refine lv_iload_n hx hb dX5_sure_2 rfl (lv_at hl 2 rfl) ?_
    obtain ⟨o3, ho3⟩ := bx_e hf
    refine y_r hS (vx_runV (As := [.int a1, .int a2]) (rest := []) ⟨hx, hb, hml, hown, hts⟩ (m_X5_speedOf l hst D ca ad hj a1 a2 S o3 ho3 H.size) (cwV 2 hts gX5_sure_X5_speedOf rfl rfl rfl (by decide +kernel) ⟨Nat.le_of_ble_eq_true rfl, Nat.le_of_ble_eq_true rfl⟩) (x_preV hE hS hKK hP (show qk 0 = 5 from rfl) rfl) rfl rfl hl.1 rfl (lv_room (Nat.le_of_ble_eq_true rfl)) dX5_sure_3 ⟨Nat.le_of_ble_eq_true rfl, Nat.le_of_ble_eq_true rfl⟩) (fun E ce q9 u H locs hu hP hS h1 h2 h3 => x_out hT hlocks hP hS h1 h2 h3 (bx_l hf ho3 hu).symm (Nat.le_of_ble_eq_true rfl) (Nat.le_of_ble_eq_true rfl)) (fun c2 H locs hu hP hS => ?_)
    have hf := bx_r hf ho3 hu
    have kc2 := k_X5_speedOf (ho3.trans (congrArg some hu))
    refine lv_astore (lv' := [(5, .ref (ad c2)), (0, .ref (ad 0)), (1, .int a1), (2, .int a2), (3, .int a3), (4, .int a4)]) hx hb dX5_sure_6 hl (by decide) rfl (fun ls hl => ?_)
    refine lv_iload_n hx hb dX5_sure_8 rfl (lv_at hl 4 rfl) ?_
    refine lv_iload hx hb dX5_sure_9 (lv_at hl 5 rfl) ?_
    refine lv_bipush (v := (-50)) hx hb dX5_sure_11 (by decide) ?_
    refine lv_bipush (v := 50) hx hb dX5_sure_13 (by decide) ?_
    obtain ⟨o5, ho5⟩ := bx_e hf
    refine y_u hS (vx_runS (As := [.int a3, .int a4, .int (-50), .int 50]) (rest := []) ⟨hx, hb, hml, hown, hts⟩ (m_X5_testSpan l hst D ca ad hj a3 a4 (-50) 50 S o5 ho5 H.size) (cwS 4 hts gX5_sure_X5_testSpan rfl rfl rfl (by decide +kernel) ⟨Nat.le_of_ble_eq_true rfl, Nat.le_of_ble_eq_true rfl⟩) (x_pre hE hS hKK hP) rfl rfl hl.1 rfl (lv_room (Nat.le_of_ble_eq_true rfl)) dX5_sure_15 ⟨Nat.le_of_ble_eq_true rfl, Nat.le_of_ble_eq_true rfl⟩) (fun E ce q9 u H locs hu hP hS h1 h2 h3 => x_out hT hlocks hP hS h1 h2 h3 (bx_l hf ho5 hu).symm (Nat.le_of_ble_eq_true rfl) (Nat.le_of_ble_eq_true rfl)) (fun H locs hu hP hS => ?_)
    have hf := bx_r hf ho5 hu
    refine lv_aload hx hb dX5_sure_18 (lv_at hl 0 rfl) ?_
    refine lv_iload_n hx hb dX5_sure_20 rfl (lv_at hl 4 rfl) ?_
    obtain ⟨S6, h7, hf⟩ := bd_e hf
    obtain rfl := Option.some.inj h7
    refine p_X3_low hx hb hX3 hown hj hKK hP hS kc2 K98 dX5_sure_21 (fun H locs hP hS => ?_)
    refine lv_aload hx hb dX5_sure_24 (lv_at hl 0 rfl) ?_
    refine lv_iload hx hb dX5_sure_26 (lv_at hl 5 rfl) ?_
    obtain ⟨S8, h9, hf⟩ := bd_e hf
    obtain rfl := Option.some.inj h9
    refine p_X3_high hx hb hX3 hown hj hKK hP hS kc2 K103 dX5_sure_28 (fun H locs hP hS => ?_)
    refine lv_aload_n hx hb dX5_sure_31 rfl (lv_at hl 1 rfl) ?_
    refine lv_iconst (v := 0) hx hb dX5_sure_32 (by decide) ?_
    obtain ⟨S10, h11, hf⟩ := bd_e hf
    refine p_X5_reckoned hx hb hX5 hown hj hKK hP hS (show qk 0 = 5 from rfl) h11 K35 dX5_sure_33 (fun H locs hP hS => ?_)
    exact x_vret hx hb hr hP hS dX5_sure_36 hlocks (Nat.le_of_ble_eq_true rfl) (Nat.le_of_ble_eq_true rfl) (Option.some.inj hf).symm
  exact main s.heap [] ls hP va_S.rf hl
def rm_X5_tale : Room := { frames := 8, cells := 4, slots := 24, locals := 131 }
set_option maxRecDepth 100000 in
set_option maxHeartbeats 4000000 in
theorem m_X5_tale (l : Launch) (hst : l.stackTraces = false) (D : va_G) (ca : Nat → ClassId) (ad : Nat → Nat) (hj : Inj ad) (a1 : Int32) (a2 : Int32) (a3 : Int32) (a4 : Int32) (S : QS) (o : (String × QS) ⊕ (Int32 × QS)) (hf : f_X5_tale a1 a2 a3 a4 S = some o) : Xi l D ca ad yX5_tale wsX5_tale rm_X5_tale [.ref (ad 0), .int a1, .int a2, .int a3, .int a4] S o 4 24 := by
  intro sz
  refine vx_ofW (cc := cX5_tale) (maxL := 6) (ret := (some .int)) (by decide) rfl ?_
  intro p e s m args below meth c s₁ B hml hT hv
  obtain ⟨hav, ⟨hsz, hP, hKK⟩, hE⟩ := hv
  have hx := B.exec
  have hb := B.bytes
  have hr := B.returns
  have hts := atoms_spec (ws := wsX5_tale) B.pre
  have hown : s.vm.findClass RX5 = some m.cls := findClass_of_methodNamed B.named
  have hlocks := B.notSynchronized
  subst hsz
  have hX4 : ∀ w ∈ wsX40, w.before _ s = true := fun w h => hts w (List.mem_cons_of_mem _ (List.mem_append_left _ (List.mem_append_left _ (List.mem_append_left _ (List.mem_append_right _ h)))))
  have hX5 : ∀ w ∈ wsX50, w.before _ s = true := fun w h => hts w (List.mem_cons_of_mem _ (List.mem_append_left _ (List.mem_append_left _ (List.mem_append_left _ (List.mem_append_left _ (List.mem_append_right _ h))))))
  have K17 := hts (Cond.fieldLink RX5 17 "CrashDesk" "tales" "[LCrashDesk$Tale;") (List.mem_cons_of_mem _ (List.mem_append_left _ (List.mem_append_left _ (List.mem_append_left _ (List.mem_append_left _ (List.mem_append_left _ (List.mem_of_getElem? (i := 3) rfl)))))))
  have K25 := hts (Cond.fieldLink RX5 25 "CrashDesk" "taleCount" "I") (List.mem_cons_of_mem _ (List.mem_append_left _ (List.mem_append_left _ (List.mem_append_left _ (List.mem_append_left _ (List.mem_append_left _ (List.mem_of_getElem? (i := 2) rfl)))))))
  have K35 := hts (Cond.fieldLink RX5 35 "CrashDesk" "reckoned" "Z") (List.mem_cons_of_mem _ (List.mem_append_left _ (List.mem_append_left _ (List.mem_append_left _ (List.mem_append_left _ (List.mem_append_left _ (List.mem_of_getElem? (i := 8) rfl)))))))
  have K68 := hts (Cond.classLink RX5 68 "java/lang/UnsupportedOperationException") (List.mem_cons_of_mem _ (List.mem_append_left _ (List.mem_append_left _ (List.mem_append_left _ (List.mem_append_left _ (List.mem_append_left _ (List.mem_of_getElem? (i := 0) rfl)))))))
  have K112 := hts (Cond.fieldLink RX5 112 "CrashDesk$Tale" "car" "I") (List.mem_cons_of_mem _ (List.mem_append_left _ (List.mem_append_left _ (List.mem_append_left _ (List.mem_append_left _ (List.mem_append_left _ (List.mem_of_getElem? (i := 4) rfl)))))))
  have K113 := hts (Cond.fieldLink RX5 113 "CrashDesk$Tale" "speed" "I") (List.mem_cons_of_mem _ (List.mem_append_left _ (List.mem_append_left _ (List.mem_append_left _ (List.mem_append_left _ (List.mem_append_left _ (List.mem_of_getElem? (i := 5) rfl)))))))
  have K116 := hts (Cond.fieldLink RX5 116 "CrashDesk$Tale" "low" "I") (List.mem_cons_of_mem _ (List.mem_append_left _ (List.mem_append_left _ (List.mem_append_left _ (List.mem_append_left _ (List.mem_append_left _ (List.mem_of_getElem? (i := 6) rfl)))))))
  have K117 := hts (Cond.fieldLink RX5 117 "CrashDesk$Tale" "high" "I") (List.mem_cons_of_mem _ (List.mem_append_left _ (List.mem_append_left _ (List.mem_append_left _ (List.mem_append_left _ (List.mem_append_left _ (List.mem_of_getElem? (i := 7) rfl)))))))
  have hl := lv_entry [.ref (ad 0), .int a1, .int a2, .int a3, .int a4] (n := 6) (Nat.le_of_ble_eq_true rfl)
  rw [show entryFrame m args 6 = entryFrame m ([.ref (ad 0), .int a1, .int a2, .int a3, .int a4] : List Value).toArray 6 by rw [hav], lg_entry_eq]
  generalize (lg_sl [.ref (ad 0), .int a1, .int a2, .int a3, .int a4] ++ List.replicate (6 - (lg_sl [.ref (ad 0), .int a1, .int a2, .int a3, .int a4]).length) Slot.unset).toArray = ls at hl ⊢
  have hl : lv_has ls 6 [(0, .ref (ad 0)), (1, .int a1), (2, .int a2), (3, .int a3), (4, .int a4)] := hl
  have main : ∀ (H : Heap) (locs : List Loc) (ls : Array Slot), va_P D vwCl (wd ca ad S) H → va_S (Aq ad s.heap.size) s.heap H locs → lv_has ls 6 [(0, .ref (ad 0)), (1, .int a1), (2, .int a2), (3, .int a3), (4, .int a4)] → W p l e rm_X5_tale s m args below meth c H locs 0 0 (Yi below D ca ad args s 4 24 o) (F0 m 0 ls []) := by
    intro H locs ls hP hS hl
    unfold f_X5_tale at hf
    refine lv_iload_n hx hb dX5_tale_0 rfl (lv_at hl 1 rfl) ?_
    refine lv_iload_n hx hb dX5_tale_1 rfl (lv_at hl 2 rfl) ?_
    obtain ⟨o2, ho2⟩ := bx_e hf
    refine y_u hS (vx_runS (As := [.int a1, .int a2]) (rest := []) ⟨hx, hb, hml, hown, hts⟩ (m_X5_testSpeed l hst D ca ad hj a1 a2 S o2 ho2 H.size) (cwS 2 hts gX5_tale_X5_testSpeed rfl rfl rfl (by decide +kernel) ⟨Nat.le_of_ble_eq_true rfl, Nat.le_of_ble_eq_true rfl⟩) (x_pre hE hS hKK hP) rfl rfl hl.1 rfl (lv_room (Nat.le_of_ble_eq_true rfl)) dX5_tale_2 ⟨Nat.le_of_ble_eq_true rfl, Nat.le_of_ble_eq_true rfl⟩) (fun E ce q9 u H locs hu hP hS h1 h2 h3 => x_out hT hlocks hP hS h1 h2 h3 (bx_l hf ho2 hu).symm (Nat.le_of_ble_eq_true rfl) (Nat.le_of_ble_eq_true rfl)) (fun H locs hu hP hS => ?_)
    have hf := bx_r hf ho2 hu
    refine lv_iload_n hx hb dX5_tale_5 rfl (lv_at hl 3 rfl) ?_
    refine lv_iload hx hb dX5_tale_6 (lv_at hl 4 rfl) ?_
    refine lv_bipush (v := (-50)) hx hb dX5_tale_8 (by decide) ?_
    refine lv_bipush (v := 50) hx hb dX5_tale_10 (by decide) ?_
    obtain ⟨o4, ho4⟩ := bx_e hf
    refine y_u hS (vx_runS (As := [.int a3, .int a4, .int (-50), .int 50]) (rest := []) ⟨hx, hb, hml, hown, hts⟩ (m_X5_testSpan l hst D ca ad hj a3 a4 (-50) 50 S o4 ho4 H.size) (cwS 4 hts gX5_tale_X5_testSpan rfl rfl rfl (by decide +kernel) ⟨Nat.le_of_ble_eq_true rfl, Nat.le_of_ble_eq_true rfl⟩) (x_pre hE hS hKK hP) rfl rfl hl.1 rfl (lv_room (Nat.le_of_ble_eq_true rfl)) dX5_tale_12 ⟨Nat.le_of_ble_eq_true rfl, Nat.le_of_ble_eq_true rfl⟩) (fun E ce q9 u H locs hu hP hS h1 h2 h3 => x_out hT hlocks hP hS h1 h2 h3 (bx_l hf ho4 hu).symm (Nat.le_of_ble_eq_true rfl) (Nat.le_of_ble_eq_true rfl)) (fun H locs hu hP hS => ?_)
    have hf := bx_r hf ho4 hu
    refine lv_aload_n hx hb dX5_tale_15 rfl (lv_at hl 0 rfl) ?_
    refine g_X5_taleCount hx hb hX5 hown hKK hP (show qk 0 = 5 from rfl) K25 dX5_tale_16 ?_
    refine lv_bipush (v := 10) hx hb dX5_tale_19 (by decide) ?_
    refine lv_icmp_lt (tgt := 34) hx hb dX5_tale_21 (by decide) (fun w => ?_) (fun w => ?_)
    · have hf := if_t w hf
      refine lv_aload_n hx hb dX5_tale_34 rfl (lv_at hl 0 rfl) ?_
      refine g_X5_tales hx hb hX5 hown hKK hP (show qk 0 = 5 from rfl) K17 dX5_tale_35 ?_
      refine lv_aload_n hx hb dX5_tale_38 rfl (lv_at hl 0 rfl) ?_
      refine g_X5_taleCount hx hb hX5 hown hKK hP (show qk 0 = 5 from rfl) K25 dX5_tale_39 ?_
      obtain ⟨c5, h6, hf⟩ := bd_e hf
      refine r_tald hx hb hKK hP h6 dX5_tale_42 (fun kc5 => ?_)
      refine lv_astore (lv' := [(5, .ref (ad c5)), (0, .ref (ad 0)), (1, .int a1), (2, .int a2), (3, .int a3), (4, .int a4)]) hx hb dX5_tale_43 hl (by decide) rfl (fun ls hl => ?_)
      refine lv_aload hx hb dX5_tale_45 (lv_at hl 0 rfl) ?_
      refine lv_iload_n hx hb dX5_tale_47 rfl (lv_at hl 2 rfl) ?_
      obtain ⟨S7, h8, hf⟩ := bd_e hf
      obtain rfl := Option.some.inj h8
      refine p_X4_car hx hb hX4 hown hj hKK hP hS kc5 K112 dX5_tale_48 (fun H locs hP hS => ?_)
      refine lv_aload hx hb dX5_tale_51 (lv_at hl 0 rfl) ?_
      refine lv_iload_n hx hb dX5_tale_53 rfl (lv_at hl 3 rfl) ?_
      obtain ⟨S9, h10, hf⟩ := bd_e hf
      obtain rfl := Option.some.inj h10
      refine p_X4_speed hx hb hX4 hown hj hKK hP hS kc5 K113 dX5_tale_54 (fun H locs hP hS => ?_)
      refine lv_aload hx hb dX5_tale_57 (lv_at hl 0 rfl) ?_
      refine lv_iload_n hx hb dX5_tale_59 rfl (lv_at hl 4 rfl) ?_
      obtain ⟨S11, h12, hf⟩ := bd_e hf
      obtain rfl := Option.some.inj h12
      refine p_X4_low hx hb hX4 hown hj hKK hP hS kc5 K116 dX5_tale_60 (fun H locs hP hS => ?_)
      refine lv_aload hx hb dX5_tale_63 (lv_at hl 0 rfl) ?_
      refine lv_iload hx hb dX5_tale_65 (lv_at hl 5 rfl) ?_
      obtain ⟨S13, h14, hf⟩ := bd_e hf
      obtain rfl := Option.some.inj h14
      refine p_X4_high hx hb hX4 hown hj hKK hP hS kc5 K117 dX5_tale_67 (fun H locs hP hS => ?_)
      refine lv_aload_n hx hb dX5_tale_70 rfl (lv_at hl 1 rfl) ?_
      refine lv_dup hx hb dX5_tale_71 rfl ?_
      refine g_X5_taleCount hx hb hX5 hown hKK hP (show qk 0 = 5 from rfl) K25 dX5_tale_72 ?_
      refine lv_iconst (v := 1) hx hb dX5_tale_75 (by decide) ?_
      refine lv_iadd hx hb dX5_tale_76 ?_
      obtain ⟨S15, h16, hf⟩ := bd_e hf
      obtain rfl := Option.some.inj h16
      refine p_X5_taleCount hx hb hX5 hown hj hKK hP hS (show qk 0 = 5 from rfl) K25 dX5_tale_77 (fun H locs hP hS => ?_)
      refine lv_aload_n hx hb dX5_tale_80 rfl (lv_at hl 1 rfl) ?_
      refine lv_iconst (v := 0) hx hb dX5_tale_81 (by decide) ?_
      obtain ⟨S17, h18, hf⟩ := bd_e hf
      refine p_X5_reckoned hx hb hX5 hown hj hKK hP hS (show qk 0 = 5 from rfl) h18 K35 dX5_tale_82 (fun H locs hP hS => ?_)
      refine lv_aload_n hx hb dX5_tale_85 rfl (lv_at hl 1 rfl) ?_
      refine g_X5_taleCount hx hb hX5 hown hKK hP (show qk 0 = 5 from rfl) K25 dX5_tale_86 ?_
      refine lv_iconst (v := 1) hx hb dX5_tale_89 (by decide) ?_
      refine lv_isub hx hb dX5_tale_90 ?_
      exact x_iret hx hb hr hP hS dX5_tale_91 hlocks (Nat.le_of_ble_eq_true rfl) (Nat.le_of_ble_eq_true rfl) (Option.some.inj hf).symm
    · have hf := if_f w hf
      exact x_throw hx hb hst (hml.trans hl.1.symm) hown hE hP hS (by decide +kernel) K68 (hts _ (List.mem_cons_of_mem _ (List.mem_append_left _ (List.mem_append_left _ (List.mem_append_left _ (List.mem_append_left _ (List.mem_append_left _ (List.mem_of_getElem? (i := 1) rfl)))))))) (List.mem_of_getElem? (i := 6) rfl) (fun w h => hts w (List.mem_cons_of_mem _ (List.mem_append_left _ (List.mem_append_left _ (List.mem_append_right _ h))))) qh_3 qo_3 dX5_tale_24 dX5_tale_27 dX5_tale_28 dX5_tale_30 dX5_tale_33 hT (Nat.le_of_ble_eq_true rfl) (Nat.le_of_ble_eq_true rfl) (Nat.le_of_ble_eq_true rfl) (Nat.le_of_ble_eq_true rfl) hlocks (Nat.le_of_ble_eq_true rfl) (Nat.le_of_ble_eq_true rfl) (Option.some.inj hf).symm
  exact main s.heap [] ls hP va_S.rf hl
def rm_X5_hush : Room := { frames := 0, cells := 0, slots := 0, locals := 0 }
set_option maxRecDepth 100000 in
set_option maxHeartbeats 4000000 in
theorem m_X5_hush (l : Launch) (D : va_G) (ca : Nat → ClassId) (ad : Nat → Nat) (hj : Inj ad)  (S : QS) (o : Int32 × QS) (hf : f_X5_hush S = some o) : Ci l D ca ad yX5_hush wsX5_hush rm_X5_hush [.ref (ad 0)] S o.1 o.2 := by
  intro sz
  refine Met.ofW (cc := cX5_hush) (maxL := 2) (ret := (some .int)) (by decide) rfl ?_
  intro p e s m args below meth c s₁ B hml hv
  obtain ⟨hav, hsz, hP, hKK⟩ := hv
  have hx := B.exec
  have hb := B.bytes
  have hr := B.returns
  have hts := atoms_spec (ws := wsX5_hush) B.pre
  have hown : s.vm.findClass RX5 = some m.cls := findClass_of_methodNamed B.named
  have hlocks := B.notSynchronized
  subst hsz
  have hX5 : ∀ w ∈ wsX50, w.before _ s = true := fun w h => hts w (List.mem_cons_of_mem _ (List.mem_append_right _ h))
  have K25 := hts (Cond.fieldLink RX5 25 "CrashDesk" "taleCount" "I") (List.mem_cons_of_mem _ (List.mem_append_left _ (List.mem_of_getElem? (i := 0) rfl)))
  have K35 := hts (Cond.fieldLink RX5 35 "CrashDesk" "reckoned" "Z") (List.mem_cons_of_mem _ (List.mem_append_left _ (List.mem_of_getElem? (i := 1) rfl)))
  have hl := lv_entry [.ref (ad 0)] (n := 2) (Nat.le_of_ble_eq_true rfl)
  rw [show entryFrame m args 2 = entryFrame m ([.ref (ad 0)] : List Value).toArray 2 by rw [hav], lg_entry_eq]
  generalize (lg_sl [.ref (ad 0)] ++ List.replicate (2 - (lg_sl [.ref (ad 0)]).length) Slot.unset).toArray = ls at hl ⊢
  have hl : lv_has ls 2 [(0, .ref (ad 0))] := hl
  have main : ∀ (H : Heap) (locs : List Loc) (ls : Array Slot), va_P D vwCl (wd ca ad S) H → va_S (Aq ad s.heap.size) s.heap H locs → lv_has ls 2 [(0, .ref (ad 0))] → W p l e rm_X5_hush s m args below meth c H locs 0 0 (Zi below D ca ad args s o.1 o.2) (F0 m 0 ls []) := by
    intro H locs ls hP hS hl
    unfold f_X5_hush at hf
    refine lv_aload_n hx hb dX5_hush_0 rfl (lv_at hl 0 rfl) ?_
    refine g_X5_taleCount hx hb hX5 hown hKK hP (show qk 0 = 5 from rfl) K25 dX5_hush_1 ?_
    refine lv_istore_n (lv' := [(1, .int (S.1 0 3)), (0, .ref (ad 0))]) hx hb dX5_hush_4 rfl hl (by decide) rfl (fun ls hl => ?_)
    refine lv_aload_n hx hb dX5_hush_5 rfl (lv_at hl 1 rfl) ?_
    refine lv_iconst (v := 0) hx hb dX5_hush_6 (by decide) ?_
    obtain ⟨S1, h2, hf⟩ := bd_e hf
    obtain rfl := Option.some.inj h2
    refine p_X5_taleCount hx hb hX5 hown hj hKK hP hS (show qk 0 = 5 from rfl) K25 dX5_hush_7 (fun H locs hP hS => ?_)
    refine lv_aload_n hx hb dX5_hush_10 rfl (lv_at hl 1 rfl) ?_
    refine lv_iconst (v := 0) hx hb dX5_hush_11 (by decide) ?_
    obtain ⟨S3, h4, hf⟩ := bd_e hf
    refine p_X5_reckoned hx hb hX5 hown hj hKK hP hS (show qk 0 = 5 from rfl) h4 K35 dX5_hush_12 (fun H locs hP hS => ?_)
    refine lv_iload_n hx hb dX5_hush_15 rfl (lv_at hl 0 rfl) ?_
    obtain rfl := Option.some.inj hf
    exact r_iret hx hb hr hP hS dX5_hush_16 hlocks
  exact main s.heap [] ls hP va_S.rf hl
def rm_X5_look : Room := { frames := 7, cells := 2, slots := 12, locals := 111 }
set_option maxRecDepth 100000 in
set_option maxHeartbeats 4000000 in
theorem m_X5_look (l : Launch) (hst : l.stackTraces = false) (D : va_G) (ca : Nat → ClassId) (ad : Nat → Nat) (hj : Inj ad) (a1 : Int32) (a2 : Int32) (S : QS) (o : (String × QS) ⊕ Int32) (hf : f_X5_look a1 a2 S = some o) : Xj l D ca ad yX5_look wzX5_look rm_X5_look [.ref (ad 0), .int a1, .int a2] S o 2 12 := by
  intro sz
  refine vx_ofW (cc := cX5_look) (maxL := 4) (ret := (some .int)) (by decide) rfl ?_
  intro p e s m args below meth c s₁ B hml hT hv
  obtain ⟨hav, ⟨hsz, hP, hKK⟩, hE⟩ := hv
  have hx := B.exec
  have hb := B.bytes
  have hr := B.returns
  have hts := atoms_spec (ws := wzX5_look) B.pre
  have hown : s.vm.findClass RX5 = some m.cls := findClass_of_methodNamed B.named
  have hlocks := B.notSynchronized
  subst hsz
  have hX2 : ∀ w ∈ wsX20, w.before _ s = true := fun w h => hts w (List.mem_cons_of_mem _ (List.mem_append_left _ (List.mem_append_left _ (List.mem_append_left _ (List.mem_append_right _ h)))))
  have K75 := hts (Cond.fieldLink RX5 75 "CrashDesk$Skid" "car" "I") (List.mem_cons_of_mem _ (List.mem_append_left _ (List.mem_append_left _ (List.mem_append_left _ (List.mem_append_left _ (List.mem_of_getElem? (i := 2) rfl))))))
  have K78 := hts (Cond.fieldLink RX5 78 "CrashDesk$Skid" "behind" "Z") (List.mem_cons_of_mem _ (List.mem_append_left _ (List.mem_append_left _ (List.mem_append_left _ (List.mem_append_left _ (List.mem_of_getElem? (i := 3) rfl))))))
  have K81 := hts (Cond.fieldLink RX5 81 "CrashDesk$Skid" "least" "I") (List.mem_cons_of_mem _ (List.mem_append_left _ (List.mem_append_left _ (List.mem_append_left _ (List.mem_append_left _ (List.mem_of_getElem? (i := 4) rfl))))))
  have K84 := hts (Cond.fieldLink RX5 84 "CrashDesk$Skid" "greatest" "I") (List.mem_cons_of_mem _ (List.mem_append_left _ (List.mem_append_left _ (List.mem_append_left _ (List.mem_append_left _ (List.mem_of_getElem? (i := 5) rfl))))))
  have K87 := hts (Cond.fieldLink RX5 87 "CrashDesk$Skid" "counts" "Z") (List.mem_cons_of_mem _ (List.mem_append_left _ (List.mem_append_left _ (List.mem_append_left _ (List.mem_append_left _ (List.mem_of_getElem? (i := 6) rfl))))))
  have K149 := hts (Cond.classLink RX5 149 "java/util/NoSuchElementException") (List.mem_cons_of_mem _ (List.mem_append_left _ (List.mem_append_left _ (List.mem_append_left _ (List.mem_append_left _ (List.mem_of_getElem? (i := 0) rfl))))))
  have hl := lv_entry [.ref (ad 0), .int a1, .int a2] (n := 4) (Nat.le_of_ble_eq_true rfl)
  rw [show entryFrame m args 4 = entryFrame m ([.ref (ad 0), .int a1, .int a2] : List Value).toArray 4 by rw [hav], lg_entry_eq]
  generalize (lg_sl [.ref (ad 0), .int a1, .int a2] ++ List.replicate (4 - (lg_sl [.ref (ad 0), .int a1, .int a2]).length) Slot.unset).toArray = ls at hl ⊢
  have hl : lv_has ls 4 [(0, .ref (ad 0)), (1, .int a1), (2, .int a2)] := hl
  have main : ∀ (H : Heap) (locs : List Loc) (ls : Array Slot), va_P D vwCl (wd ca ad S) H → va_S (Aq ad s.heap.size) s.heap H locs → lv_has ls 4 [(0, .ref (ad 0)), (1, .int a1), (2, .int a2)] → W p l e rm_X5_look s m args below meth c H locs 0 0 (Yj below D ca ad args s 2 12 S o) (F0 m 0 ls []) := by
    intro H locs ls hP hS hl
    unfold f_X5_look at hf
    refine lv_aload_n hx hb dX5_look_0 rfl (lv_at hl 0 rfl) ?_
    refine lv_iload_n hx hb dX5_look_1 rfl (lv_at hl 1 rfl) ?_
    obtain ⟨o3, ho3⟩ := bx_e hf
    refine y_r hS (vx_runV (As := [.int a1]) (rest := []) ⟨hx, hb, hml, hown, hts⟩ (m_X5_skidOf l hst D ca ad hj a1 S o3 ho3 H.size) (cwV 1 hts gX5_look_X5_skidOf rfl rfl rfl (by decide +kernel) ⟨Nat.le_of_ble_eq_true rfl, Nat.le_of_ble_eq_true rfl⟩) (x_preV hE hS hKK hP (show qk 0 = 5 from rfl) rfl) rfl rfl hl.1 rfl (lv_room (Nat.le_of_ble_eq_true rfl)) dX5_look_2 ⟨Nat.le_of_ble_eq_true rfl, Nat.le_of_ble_eq_true rfl⟩) (fun E ce q9 u H locs hu hP hS h1 h2 h3 => x_out hT hlocks hP hS h1 h2 h3 (bx_l hf ho3 hu).symm (Nat.le_of_ble_eq_true rfl) (Nat.le_of_ble_eq_true rfl)) (fun c2 H locs hu hP hS => ?_)
    have hf := bx_r hf ho3 hu
    have kc2 := k_X5_skidOf (ho3.trans (congrArg some hu))
    refine lv_astore_n (lv' := [(3, .ref (ad c2)), (0, .ref (ad 0)), (1, .int a1), (2, .int a2)]) hx hb dX5_look_5 rfl hl (by decide) rfl (fun ls hl => ?_)
    refine lv_iload_n hx hb dX5_look_6 rfl (lv_at hl 3 rfl) ?_
    by_cases w0 : a2 = 0
    · have hf := if_t w0 hf
      rw [w0]
      refine lv_tableIn (off := 33) (tgt := 40) hx hb dX5_look_7 (by decide) (by decide) (by decide) (by decide) ?_
      refine lv_aload_n hx hb dX5_look_40 rfl (lv_at hl 0 rfl) ?_
      refine g_X2_car hx hb hX2 hown hKK hP kc2 K75 dX5_look_41 ?_
      exact x_jret hx hb hr hP hS dX5_look_44 hlocks (Nat.le_of_ble_eq_true rfl) (Nat.le_of_ble_eq_true rfl) (Option.some.inj hf).symm
    · have hf := if_f w0 hf
      by_cases w1 : a2 = 1
      · have hf := if_t w1 hf
        rw [w1]
        refine lv_tableIn (off := 38) (tgt := 45) hx hb dX5_look_7 (by decide) (by decide) (by decide) (by decide) ?_
        refine lv_aload_n hx hb dX5_look_45 rfl (lv_at hl 0 rfl) ?_
        refine g_X2_behind hx hb hX2 hown hKK hP kc2 K78 dX5_look_46 ?_
        refine lv_if_eq (tgt := 56) hx hb dX5_look_49 (by decide) (fun w => ?_) (fun w => ?_)
        · have hf := if_t w hf
          refine lv_iconst (v := 0) hx hb dX5_look_56 (by decide) ?_
          exact x_jret hx hb hr hP hS dX5_look_57 hlocks (Nat.le_of_ble_eq_true rfl) (Nat.le_of_ble_eq_true rfl) (Option.some.inj hf).symm
        · have hf := if_f w hf
          refine lv_iconst (v := 1) hx hb dX5_look_52 (by decide) ?_
          refine lv_goto (tgt := 57) hx hb dX5_look_53 (by decide) ?_
          exact x_jret hx hb hr hP hS dX5_look_57 hlocks (Nat.le_of_ble_eq_true rfl) (Nat.le_of_ble_eq_true rfl) (Option.some.inj hf).symm
      · have hf := if_f w1 hf
        by_cases w2 : a2 = 2
        · have hf := if_t w2 hf
          rw [w2]
          refine lv_tableIn (off := 51) (tgt := 58) hx hb dX5_look_7 (by decide) (by decide) (by decide) (by decide) ?_
          refine lv_aload_n hx hb dX5_look_58 rfl (lv_at hl 0 rfl) ?_
          refine g_X2_least hx hb hX2 hown hKK hP kc2 K81 dX5_look_59 ?_
          exact x_jret hx hb hr hP hS dX5_look_62 hlocks (Nat.le_of_ble_eq_true rfl) (Nat.le_of_ble_eq_true rfl) (Option.some.inj hf).symm
        · have hf := if_f w2 hf
          by_cases w3 : a2 = 3
          · have hf := if_t w3 hf
            rw [w3]
            refine lv_tableIn (off := 56) (tgt := 63) hx hb dX5_look_7 (by decide) (by decide) (by decide) (by decide) ?_
            refine lv_aload_n hx hb dX5_look_63 rfl (lv_at hl 0 rfl) ?_
            refine g_X2_greatest hx hb hX2 hown hKK hP kc2 K84 dX5_look_64 ?_
            exact x_jret hx hb hr hP hS dX5_look_67 hlocks (Nat.le_of_ble_eq_true rfl) (Nat.le_of_ble_eq_true rfl) (Option.some.inj hf).symm
          · have hf := if_f w3 hf
            by_cases w4 : a2 = 4
            · have hf := if_t w4 hf
              rw [w4]
              refine lv_tableIn (off := 61) (tgt := 68) hx hb dX5_look_7 (by decide) (by decide) (by decide) (by decide) ?_
              refine lv_aload_n hx hb dX5_look_68 rfl (lv_at hl 0 rfl) ?_
              refine g_X2_counts hx hb hX2 hown hKK hP kc2 K87 dX5_look_69 ?_
              refine lv_if_eq (tgt := 79) hx hb dX5_look_72 (by decide) (fun w => ?_) (fun w => ?_)
              · have hf := if_t w hf
                refine lv_iconst (v := 0) hx hb dX5_look_79 (by decide) ?_
                exact x_jret hx hb hr hP hS dX5_look_80 hlocks (Nat.le_of_ble_eq_true rfl) (Nat.le_of_ble_eq_true rfl) (Option.some.inj hf).symm
              · have hf := if_f w hf
                refine lv_iconst (v := 1) hx hb dX5_look_75 (by decide) ?_
                refine lv_goto (tgt := 80) hx hb dX5_look_76 (by decide) ?_
                exact x_jret hx hb hr hP hS dX5_look_80 hlocks (Nat.le_of_ble_eq_true rfl) (Nat.le_of_ble_eq_true rfl) (Option.some.inj hf).symm
            · have hf := if_f w4 hf
              refine lv_tableOut (tgt := 81) hx hb dX5_look_7 (q_out5 w0 w1 w2 w3 w4) (by decide) ?_
              exact x_throwX hx hb hst (hml.trans hl.1.symm) hown hE hP hS (by decide +kernel) K149 (hts _ (List.mem_cons_of_mem _ (List.mem_append_left _ (List.mem_append_left _ (List.mem_append_left _ (List.mem_append_left _ (List.mem_of_getElem? (i := 1) rfl))))))) (List.mem_of_getElem? (i := 8) rfl) (fun w h => hts w (List.mem_cons_of_mem _ (List.mem_append_left _ (List.mem_append_right _ h)))) qh_5 qo_5 dX5_look_81 dX5_look_84 dX5_look_85 dX5_look_87 dX5_look_90 hT (Nat.le_of_ble_eq_true rfl) (Nat.le_of_ble_eq_true rfl) (Nat.le_of_ble_eq_true rfl) (Nat.le_of_ble_eq_true rfl) hlocks (Nat.le_of_ble_eq_true rfl) (Nat.le_of_ble_eq_true rfl) (Option.some.inj hf).symm
  exact main s.heap [] ls hP va_S.rf hl
def rm_X5_count : Room := { frames := 1, cells := 0, slots := 0, locals := 22 }
set_option maxRecDepth 100000 in
set_option maxHeartbeats 4000000 in
theorem m_X5_count (l : Launch) (D : va_G) (ca : Nat → ClassId) (ad : Nat → Nat) (hj : Inj ad) (a1 : Int32) (S : QS) (o : Int32) (hf : f_X5_count a1 S = some o) : Ci l D ca ad yX5_count wsX5_count rm_X5_count [.ref (ad 0), .int a1] S o S := by
  intro sz
  refine Met.ofW (cc := cX5_count) (maxL := 2) (ret := (some .int)) (by decide) rfl ?_
  intro p e s m args below meth c s₁ B hml hv
  obtain ⟨hav, hsz, hP, hKK⟩ := hv
  have hx := B.exec
  have hb := B.bytes
  have hr := B.returns
  have hts := atoms_spec (ws := wsX5_count) B.pre
  have hown : s.vm.findClass RX5 = some m.cls := findClass_of_methodNamed B.named
  have hlocks := B.notSynchronized
  subst hsz
  have hX0 : ∀ w ∈ wsX00, w.before _ s = true := fun w h => hts w (List.mem_cons_of_mem _ (List.mem_append_left _ (List.mem_append_right _ h)))
  have hX1 : ∀ w ∈ wsX10, w.before _ s = true := fun w h => hts w (List.mem_cons_of_mem _ (List.mem_append_left _ (List.mem_append_left _ (List.mem_append_right _ h))))
  have hX5 : ∀ w ∈ wsX50, w.before _ s = true := fun w h => hts w (List.mem_cons_of_mem _ (List.mem_append_left _ (List.mem_append_left _ (List.mem_append_left _ (List.mem_append_right _ h)))))
  have K21 := hts (Cond.fieldLink RX5 21 "CrashDesk" "skidCount" "I") (List.mem_cons_of_mem _ (List.mem_append_left _ (List.mem_append_left _ (List.mem_append_left _ (List.mem_append_left _ (List.mem_of_getElem? (i := 0) rfl))))))
  have K25 := hts (Cond.fieldLink RX5 25 "CrashDesk" "taleCount" "I") (List.mem_cons_of_mem _ (List.mem_append_left _ (List.mem_append_left _ (List.mem_append_left _ (List.mem_append_left _ (List.mem_of_getElem? (i := 1) rfl))))))
  have K31 := hts (Cond.fieldLink RX5 31 "CrashDesk" "meeting" "LCrashDesk$Meeting;") (List.mem_cons_of_mem _ (List.mem_append_left _ (List.mem_append_left _ (List.mem_append_left _ (List.mem_append_left _ (List.mem_of_getElem? (i := 2) rfl))))))
  have K55 := hts (Cond.fieldLink RX5 55 "CrashDesk$Car" "mass" "I") (List.mem_cons_of_mem _ (List.mem_append_left _ (List.mem_append_left _ (List.mem_append_left _ (List.mem_append_left _ (List.mem_of_getElem? (i := 4) rfl))))))
  have K157 := hts (Cond.fieldLink RX5 157 "CrashDesk$Meeting" "zero" "LCrashDesk$Car;") (List.mem_cons_of_mem _ (List.mem_append_left _ (List.mem_append_left _ (List.mem_append_left _ (List.mem_append_left _ (List.mem_of_getElem? (i := 3) rfl))))))
  have K161 := hts (Cond.fieldLink RX5 161 "CrashDesk$Meeting" "one" "LCrashDesk$Car;") (List.mem_cons_of_mem _ (List.mem_append_left _ (List.mem_append_left _ (List.mem_append_left _ (List.mem_append_left _ (List.mem_of_getElem? (i := 5) rfl))))))
  have hl := lv_entry [.ref (ad 0), .int a1] (n := 2) (Nat.le_of_ble_eq_true rfl)
  rw [show entryFrame m args 2 = entryFrame m ([.ref (ad 0), .int a1] : List Value).toArray 2 by rw [hav], lg_entry_eq]
  generalize (lg_sl [.ref (ad 0), .int a1] ++ List.replicate (2 - (lg_sl [.ref (ad 0), .int a1]).length) Slot.unset).toArray = ls at hl ⊢
  have hl : lv_has ls 2 [(0, .ref (ad 0)), (1, .int a1)] := hl
  have main : ∀ (H : Heap) (locs : List Loc) (ls : Array Slot), va_P D vwCl (wd ca ad S) H → va_S (Aq ad s.heap.size) s.heap H locs → lv_has ls 2 [(0, .ref (ad 0)), (1, .int a1)] → W p l e rm_X5_count s m args below meth c H locs 0 0 (Zi below D ca ad args s o S) (F0 m 0 ls []) := by
    intro H locs ls hP hS hl
    unfold f_X5_count at hf
    refine lv_iload_n hx hb dX5_count_0 rfl (lv_at hl 1 rfl) ?_
    by_cases w0 : a1 = 0
    · have hf := if_t w0 hf
      rw [w0]
      refine lv_tableIn (off := 35) (tgt := 36) hx hb dX5_count_1 (by decide) (by decide) (by decide) (by decide) ?_
      refine lv_aload_n hx hb dX5_count_36 rfl (lv_at hl 0 rfl) ?_
      refine g_X5_skidCount hx hb hX5 hown hKK hP (show qk 0 = 5 from rfl) K21 dX5_count_37 ?_
      obtain rfl := Option.some.inj hf
      exact r_iret hx hb hr hP hS dX5_count_40 hlocks
    · have hf := if_f w0 hf
      by_cases w1 : a1 = 1
      · have hf := if_t w1 hf
        rw [w1]
        refine lv_tableIn (off := 40) (tgt := 41) hx hb dX5_count_1 (by decide) (by decide) (by decide) (by decide) ?_
        refine lv_aload_n hx hb dX5_count_41 rfl (lv_at hl 0 rfl) ?_
        obtain ⟨v2, h1, hf⟩ := bd_e hf
        refine r_ci hS (va_runV (As := []) (rest := []) ⟨hx, hb, hml, hown, hts⟩ (m_X5_countingSkids l D ca ad hj S _ h1 H.size) (cwV 0 hts gX5_count_X5_countingSkids rfl rfl rfl (by decide +kernel) ⟨Nat.le_of_ble_eq_true rfl, Nat.le_of_ble_eq_true rfl⟩) (r_preV hKK hP (show qk 0 = 5 from rfl) rfl) rfl rfl hl.1 rfl (lv_room (Nat.le_of_ble_eq_true rfl)) dX5_count_42 ⟨Nat.le_of_ble_eq_true rfl, Nat.le_of_ble_eq_true rfl⟩) (fun H locs hP hS => ?_)
        obtain rfl := Option.some.inj hf
        exact r_iret hx hb hr hP hS dX5_count_45 hlocks
      · have hf := if_f w1 hf
        by_cases w2 : a1 = 2
        · have hf := if_t w2 hf
          rw [w2]
          refine lv_tableIn (off := 45) (tgt := 46) hx hb dX5_count_1 (by decide) (by decide) (by decide) (by decide) ?_
          refine lv_aload_n hx hb dX5_count_46 rfl (lv_at hl 0 rfl) ?_
          refine g_X5_taleCount hx hb hX5 hown hKK hP (show qk 0 = 5 from rfl) K25 dX5_count_47 ?_
          obtain rfl := Option.some.inj hf
          exact r_iret hx hb hr hP hS dX5_count_50 hlocks
        · have hf := if_f w2 hf
          by_cases w3 : a1 = 3
          · have hf := if_t w3 hf
            rw [w3]
            refine lv_tableIn (off := 50) (tgt := 51) hx hb dX5_count_1 (by decide) (by decide) (by decide) (by decide) ?_
            refine lv_aload_n hx hb dX5_count_51 rfl (lv_at hl 0 rfl) ?_
            refine g_X5_meeting hx hb hX5 hown hKK hP (show qk 0 = 5 from rfl) K31 dX5_count_52 ?_
            refine g_X1_zero hx hb hX1 hown hKK hP (show qk 25 = 1 from rfl) K157 dX5_count_55 ?_
            refine g_X0_mass hx hb hX0 hown hKK hP (show qk 26 = 0 from rfl) K55 dX5_count_58 ?_
            obtain rfl := Option.some.inj hf
            exact r_iret hx hb hr hP hS dX5_count_61 hlocks
          · have hf := if_f w3 hf
            by_cases w4 : a1 = 4
            · have hf := if_t w4 hf
              rw [w4]
              refine lv_tableIn (off := 61) (tgt := 62) hx hb dX5_count_1 (by decide) (by decide) (by decide) (by decide) ?_
              refine lv_aload_n hx hb dX5_count_62 rfl (lv_at hl 0 rfl) ?_
              refine g_X5_meeting hx hb hX5 hown hKK hP (show qk 0 = 5 from rfl) K31 dX5_count_63 ?_
              refine g_X1_one hx hb hX1 hown hKK hP (show qk 25 = 1 from rfl) K161 dX5_count_66 ?_
              refine g_X0_mass hx hb hX0 hown hKK hP (show qk 37 = 0 from rfl) K55 dX5_count_69 ?_
              obtain rfl := Option.some.inj hf
              exact r_iret hx hb hr hP hS dX5_count_72 hlocks
            · have hf := if_f w4 hf
              refine lv_tableOut (tgt := 73) hx hb dX5_count_1 (q_out5 w0 w1 w2 w3 w4) (by decide) ?_
              refine lv_iconst (v := (-1)) hx hb dX5_count_73 (by decide) ?_
              obtain rfl := Option.some.inj hf
              exact r_iret hx hb hr hP hS dX5_count_74 hlocks
  exact main s.heap [] ls hP va_S.rf hl
