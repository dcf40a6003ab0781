theorem k_X1_pick {a : Int32} {S : QS} {c : Nat} (h : f_X1_pick a S = some c) : qk c = 0 := by
  unfold f_X1_pick at h
  split at h <;> obtain rfl := Option.some.inj h <;> rfl
def rm_X1_pick : Room := { frames := 0, cells := 0, slots := 0, locals := 0 }
set_option maxRecDepth 100000 in
set_option maxHeartbeats 4000000 in
theorem m_X1_pick (l : Launch) (D : va_G) (ca : Nat → ClassId) (ad : Nat → Nat) (hj : Inj ad) (a1 : Int32) (S : QS) (o : Nat) (hf : f_X1_pick a1 S = some o) : Cr l D ca ad yX1_pick wsX1_pick rm_X1_pick [.ref (ad 25), .int a1] S o S := by
  intro sz
  refine Met.ofW (cc := cX1_pick) (maxL := 2) (ret := (some (.object "CrashDesk$Car"))) (by decide) rfl ?_
  intro p e s m args below meth c s₁ B hml hv
  obtain ⟨hav, hsz, hP, hKK⟩ := hv
  have hx := B.exec
  have hb := B.bytes
  have hr := B.returns
  have hts := atoms_spec (ws := wsX1_pick) B.pre
  have hown : s.vm.findClass RX1 = some m.cls := findClass_of_methodNamed B.named
  have hlocks := B.notSynchronized
  subst hsz
  have hX1 : ∀ w ∈ wsX10, w.before _ s = true := fun w h => hts w (List.mem_cons_of_mem _ (List.mem_append_right _ h))
  have K12 := hts (Cond.fieldLink RX1 12 "CrashDesk$Meeting" "zero" "LCrashDesk$Car;") (List.mem_cons_of_mem _ (List.mem_append_left _ (List.mem_of_getElem? (i := 0) rfl)))
  have K18 := hts (Cond.fieldLink RX1 18 "CrashDesk$Meeting" "one" "LCrashDesk$Car;") (List.mem_cons_of_mem _ (List.mem_append_left _ (List.mem_of_getElem? (i := 1) rfl)))
  have hl := lv_entry [.ref (ad 25), .int a1] (n := 2) (Nat.le_of_ble_eq_true rfl)
  rw [show entryFrame m args 2 = entryFrame m ([.ref (ad 25), .int a1] : List Value).toArray 2 by rw [hav], lg_entry_eq]
  generalize (lg_sl [.ref (ad 25), .int a1] ++ List.replicate (2 - (lg_sl [.ref (ad 25), .int a1]).length) Slot.unset).toArray = ls at hl ⊢
  have hl : lv_has ls 2 [(0, .ref (ad 25)), (1, .int a1)] := hl
  have main : ∀ (H : Heap) (locs : List Loc) (ls : Array Slot), va_P D vwCl (wd ca ad S) H → va_S (Aq ad s.heap.size) s.heap H locs → lv_has ls 2 [(0, .ref (ad 25)), (1, .int a1)] → W p l e rm_X1_pick s m args below meth c H locs 0 0 (Zr below D ca ad args s o S) (F0 m 0 ls []) := by
    intro H locs ls hP hS hl
    unfold f_X1_pick at hf
    refine lv_iload_n hx hb dX1_pick_0 rfl (lv_at hl 1 rfl) ?_
    refine lv_if_ne (tgt := 11) hx hb dX1_pick_1 (by decide) (fun w => ?_) (fun w => ?_)
    · have hf := if_f w hf
      refine lv_aload_n hx hb dX1_pick_11 rfl (lv_at hl 0 rfl) ?_
      refine g_X1_one hx hb hX1 hown hKK hP (show qk 25 = 1 from rfl) K18 dX1_pick_12 ?_
      obtain rfl := Option.some.inj hf
      exact r_aret hx hb hr hP hS dX1_pick_15 hlocks
    · have hf := if_t w hf
      refine lv_aload_n hx hb dX1_pick_4 rfl (lv_at hl 0 rfl) ?_
      refine g_X1_zero hx hb hX1 hown hKK hP (show qk 25 = 1 from rfl) K12 dX1_pick_5 ?_
      refine lv_goto (tgt := 15) hx hb dX1_pick_8 (by decide) ?_
      obtain rfl := Option.some.inj hf
      exact r_aret hx hb hr hP hS dX1_pick_15 hlocks
  exact main s.heap [] ls hP va_S.rf hl
def rm_X1_lowestShare : Room := { frames := 0, cells := 0, slots := 0, locals := 0 }
set_option maxRecDepth 100000 in
set_option maxHeartbeats 4000000 in
theorem m_X1_lowestShare (l : Launch) (D : va_G) (ca : Nat → ClassId) (ad : Nat → Nat) (hj : Inj ad) (a1 : Int32) (a2 : Int32) (S : QS) (o : Int32) (hf : f_X1_lowestShare a1 a2 = some o) : Ci l D ca ad yX1_lowestShare wsX1_lowestShare rm_X1_lowestShare [.int a1, .int a2] S o S := by
  intro sz
  refine Met.ofW (cc := cX1_lowestShare) (maxL := 3) (ret := (some .int)) (by decide) rfl ?_
  intro p e s m args below meth c s₁ B hml hv
  obtain ⟨hav, hsz, hP, hKK⟩ := hv
  have hx := B.exec
  have hb := B.bytes
  have hr := B.returns
  have hts := atoms_spec (ws := wsX1_lowestShare) B.pre
  have hown : s.vm.findClass RX1 = some m.cls := findClass_of_methodNamed B.named
  have hlocks := B.notSynchronized
  subst hsz
  have hl := lv_entry [.int a1, .int a2] (n := 3) (Nat.le_of_ble_eq_true rfl)
  rw [show entryFrame m args 3 = entryFrame m ([.int a1, .int a2] : List Value).toArray 3 by rw [hav], lg_entry_eq]
  generalize (lg_sl [.int a1, .int a2] ++ List.replicate (3 - (lg_sl [.int a1, .int a2]).length) Slot.unset).toArray = ls at hl ⊢
  have hl : lv_has ls 3 [(0, .int a1), (1, .int a2)] := hl
  have main : ∀ (H : Heap) (locs : List Loc) (ls : Array Slot), va_P D vwCl (wd ca ad S) H → va_S (Aq ad s.heap.size) s.heap H locs → lv_has ls 3 [(0, .int a1), (1, .int a2)] → W p l e rm_X1_lowestShare s m args below meth c H locs 0 0 (Zi below D ca ad args s o S) (F0 m 0 ls []) := by
    intro H locs ls hP hS hl
    unfold f_X1_lowestShare at hf
    refine lv_bipush (v := 100) hx hb dX1_lowestShare_0 (by decide) ?_
    refine lv_istore_n (lv' := [(2, .int 100), (0, .int a1), (1, .int a2)]) hx hb dX1_lowestShare_2 rfl hl (by decide) rfl (fun ls hl => ?_)
    have L1 : ∀ (fuel : Nat) (v1 : Int32), lp_X1_lowestShare_3 a1 a2 fuel v1 = some o → ∀ (H : Heap) (locs : List Loc) (ls : Array Slot), va_P D vwCl (wd ca ad S) H → va_S (Aq ad s.heap.size) s.heap H locs → lv_has ls 3 [(0, .int a1), (1, .int a2), (2, .int v1)] → W p l e rm_X1_lowestShare s m args below meth c H locs 0 0 (Zi below D ca ad args s o S) (F0 m 3 ls []) := by
      intro fuel
      induction fuel with
      | zero =>
        intro v1 hf
        simp [lp_X1_lowestShare_3] at hf
      | succ fuel ih =>
        intro v1 hf H locs ls hP hS hl
        rw [lp_X1_lowestShare_3] at hf
        refine lv_iload_n hx hb dX1_lowestShare_3 rfl (lv_at hl 2 rfl) ?_
        refine lv_iconst (v := 1) hx hb dX1_lowestShare_4 (by decide) ?_
        refine lv_icmp_le (tgt := 30) hx hb dX1_lowestShare_5 (by decide) (fun w => ?_) (fun w => ?_)
        · have hf := if_t w hf
          refine lv_iload_n hx hb dX1_lowestShare_30 rfl (lv_at hl 0 rfl) ?_
          obtain rfl := Option.some.inj hf
          exact r_iret hx hb hr hP hS dX1_lowestShare_31 hlocks
        · have hf := if_f w hf
          refine lv_iload_n hx hb dX1_lowestShare_8 rfl (lv_at hl 0 rfl) ?_
          refine lv_iload_n hx hb dX1_lowestShare_9 rfl (lv_at hl 2 rfl) ?_
          obtain ⟨v2, h7, hf⟩ := bd_e hf
          obtain ⟨h7z, h7e⟩ := q_rm h7
          refine lv_irem hx hb dX1_lowestShare_10 h7z ?_
          rw [← h7e]
          refine lv_if_ne (tgt := 24) hx hb dX1_lowestShare_11 (by decide) (fun w => ?_) (fun w => ?_)
          · have hf := if_f w hf
            refine lv_iinc (v := (v1 + (-1))) (lv' := [(2, .int (v1 + (-1))), (0, .int a1), (1, .int a2)]) hx hb dX1_lowestShare_24 hl (k := 2) rfl rfl (by decide) rfl (fun ls hl => ?_)
            refine lv_goto (tgt := 3) hx hb dX1_lowestShare_27 (by decide) ?_
            exact ih _ hf _ _ _ hP hS (lv_sub hl [1, 2, 0] rfl)
          · have hf := if_t w hf
            refine lv_iload_n hx hb dX1_lowestShare_14 rfl (lv_at hl 1 rfl) ?_
            refine lv_iload_n hx hb dX1_lowestShare_15 rfl (lv_at hl 2 rfl) ?_
            obtain ⟨v3, h6, hf⟩ := bd_e hf
            obtain ⟨h6z, h6e⟩ := q_rm h6
            refine lv_irem hx hb dX1_lowestShare_16 h6z ?_
            rw [← h6e]
            refine lv_if_ne (tgt := 24) hx hb dX1_lowestShare_17 (by decide) (fun w => ?_) (fun w => ?_)
            · have hf := if_f w hf
              refine lv_iinc (v := (v1 + (-1))) (lv' := [(2, .int (v1 + (-1))), (0, .int a1), (1, .int a2)]) hx hb dX1_lowestShare_24 hl (k := 2) rfl rfl (by decide) rfl (fun ls hl => ?_)
              refine lv_goto (tgt := 3) hx hb dX1_lowestShare_27 (by decide) ?_
              exact ih _ hf _ _ _ hP hS (lv_sub hl [1, 2, 0] rfl)
            · have hf := if_t w hf
              refine lv_iload_n hx hb dX1_lowestShare_20 rfl (lv_at hl 0 rfl) ?_
              refine lv_iload_n hx hb dX1_lowestShare_21 rfl (lv_at hl 2 rfl) ?_
              obtain ⟨v4, h5, hf⟩ := bd_e hf
              obtain ⟨h5z, h5e⟩ := q_dv h5
              refine lv_idiv hx hb dX1_lowestShare_22 h5z ?_
              rw [← h5e]
              obtain rfl := Option.some.inj hf
              exact r_iret hx hb hr hP hS dX1_lowestShare_23 hlocks
    exact L1 _ _ hf _ _ _ hP hS (lv_sub hl [1, 2, 0] rfl)
  exact main s.heap [] ls hP va_S.rf hl
def rm_X1_meet : Room := { frames := 1, cells := 0, slots := 0, locals := 21 }
set_option maxRecDepth 100000 in
set_option maxHeartbeats 4000000 in
theorem m_X1_meet (l : Launch) (D : va_G) (ca : Nat → ClassId) (ad : Nat → Nat) (hj : Inj ad) (a1 : Int32) (a2 : Int32) (S : QS) (o : QS) (hf : f_X1_meet a1 a2 S = some o) : Cv l D ca ad yX1_meet wsX1_meet rm_X1_meet [.ref (ad 25), .int a1, .int a2] S o := by
  intro sz
  refine Met.ofW (cc := cX1_meet) (maxL := 13) (ret := none) (by decide) rfl ?_
  intro p e s m args below meth c s₁ B hml hv
  obtain ⟨hav, hsz, hP, hKK⟩ := hv
  have hx := B.exec
  have hb := B.bytes
  have hr := B.returns
  have hts := atoms_spec (ws := wsX1_meet) B.pre
  have hown : s.vm.findClass RX1 = some m.cls := findClass_of_methodNamed B.named
  have hlocks := B.notSynchronized
  subst hsz
  have hX0 : ∀ w ∈ wsX00, w.before _ s = true := fun w h => hts w (List.mem_cons_of_mem _ (List.mem_append_left _ (List.mem_append_right _ h)))
  have hX1 : ∀ w ∈ wsX10, w.before _ s = true := fun w h => hts w (List.mem_cons_of_mem _ (List.mem_append_left _ (List.mem_append_left _ (List.mem_append_right _ h))))
  have hX3 : ∀ w ∈ wsX30, w.before _ s = true := fun w h => hts w (List.mem_cons_of_mem _ (List.mem_append_right _ h))
  have K12 := hts (Cond.fieldLink RX1 12 "CrashDesk$Meeting" "zero" "LCrashDesk$Car;") (List.mem_cons_of_mem _ (List.mem_append_left _ (List.mem_append_left _ (List.mem_append_left _ (List.mem_append_left _ (List.mem_of_getElem? (i := 14) rfl))))))
  have K18 := hts (Cond.fieldLink RX1 18 "CrashDesk$Meeting" "one" "LCrashDesk$Car;") (List.mem_cons_of_mem _ (List.mem_append_left _ (List.mem_append_left _ (List.mem_append_left _ (List.mem_append_left _ (List.mem_of_getElem? (i := 2) rfl))))))
  have K21 := hts (Cond.fieldLink RX1 21 "CrashDesk$Meeting" "wayCount" "J") (List.mem_cons_of_mem _ (List.mem_append_left _ (List.mem_append_left _ (List.mem_append_left _ (List.mem_append_left _ (List.mem_of_getElem? (i := 15) rfl))))))
  have K25 := hts (Cond.fieldLink RX1 25 "CrashDesk$Meeting" "cheapest" "I") (List.mem_cons_of_mem _ (List.mem_append_left _ (List.mem_append_left _ (List.mem_append_left _ (List.mem_append_left _ (List.mem_of_getElem? (i := 16) rfl))))))
  have K29 := hts (Cond.fieldLink RX1 29 "CrashDesk$Meeting" "loss" "I") (List.mem_cons_of_mem _ (List.mem_append_left _ (List.mem_append_left _ (List.mem_append_left _ (List.mem_append_left _ (List.mem_of_getElem? (i := 1) rfl))))))
  have K32 := hts (Cond.fieldLink RX1 32 "CrashDesk$Meeting" "gain" "I") (List.mem_cons_of_mem _ (List.mem_append_left _ (List.mem_append_left _ (List.mem_append_left _ (List.mem_append_left _ (List.mem_of_getElem? (i := 0) rfl))))))
  have K45 := hts (Cond.fieldLink RX1 45 "CrashDesk$Car" "at" "LCrashDesk$Speed;") (List.mem_cons_of_mem _ (List.mem_append_left _ (List.mem_append_left _ (List.mem_append_left _ (List.mem_append_left _ (List.mem_of_getElem? (i := 3) rfl))))))
  have K49 := hts (Cond.fieldLink RX1 49 "CrashDesk$Speed" "bottom" "I") (List.mem_cons_of_mem _ (List.mem_append_left _ (List.mem_append_left _ (List.mem_append_left _ (List.mem_append_left _ (List.mem_of_getElem? (i := 4) rfl))))))
  have K54 := hts (Cond.fieldLink RX1 54 "CrashDesk$Speed" "top" "I") (List.mem_cons_of_mem _ (List.mem_append_left _ (List.mem_append_left _ (List.mem_append_left _ (List.mem_append_left _ (List.mem_of_getElem? (i := 10) rfl))))))
  have K68 := hts (Cond.fieldLink RX1 68 "CrashDesk$Car" "after" "LCrashDesk$Speed;") (List.mem_cons_of_mem _ (List.mem_append_left _ (List.mem_append_left _ (List.mem_append_left _ (List.mem_append_left _ (List.mem_of_getElem? (i := 5) rfl))))))
  have K75 := hts (Cond.methodLink RX1 75 Lib.Math.max.name) (List.mem_cons_of_mem _ (List.mem_append_left _ (List.mem_append_left _ (List.mem_append_left _ (List.mem_append_left _ (List.mem_of_getElem? (i := 6) rfl))))))
  have K80 := hts (Cond.methodLink RX1 80 Lib.Math.min.name) (List.mem_cons_of_mem _ (List.mem_append_left _ (List.mem_append_left _ (List.mem_append_left _ (List.mem_append_left _ (List.mem_of_getElem? (i := 11) rfl))))))
  have hl := lv_entry [.ref (ad 25), .int a1, .int a2] (n := 13) (Nat.le_of_ble_eq_true rfl)
  rw [show entryFrame m args 13 = entryFrame m ([.ref (ad 25), .int a1, .int a2] : List Value).toArray 13 by rw [hav], lg_entry_eq]
  generalize (lg_sl [.ref (ad 25), .int a1, .int a2] ++ List.replicate (13 - (lg_sl [.ref (ad 25), .int a1, .int a2]).length) Slot.unset).toArray = ls at hl ⊢
  have hl : lv_has ls 13 [(0, .ref (ad 25)), (1, .int a1), (2, .int a2)] := hl
  have main : ∀ (H : Heap) (locs : List Loc) (ls : Array Slot), va_P D vwCl (wd ca ad S) H → va_S (Aq ad s.heap.size) s.heap H locs → lv_has ls 13 [(0, .ref (ad 25)), (1, .int a1), (2, .int a2)] → W p l e rm_X1_meet s m args below meth c H locs 0 0 (Zv below D ca ad args s o) (F0 m 0 ls []) := by
    intro H locs ls hP hS hl
    unfold f_X1_meet at hf
    refine lv_iload_n hx hb dX1_meet_0 rfl (lv_at hl 2 rfl) ?_
    refine lv_aload_n hx hb dX1_meet_1 rfl (lv_at hl 0 rfl) ?_
    refine g_X1_gain hx hb hX1 hown hKK hP (show qk 25 = 1 from rfl) K32 dX1_meet_2 ?_
    refine lv_imul hx hb dX1_meet_5 ?_
    refine lv_istore_n (lv' := [(3, .int (a2 * (S.1 25 5))), (0, .ref (ad 25)), (1, .int a1), (2, .int a2)]) hx hb dX1_meet_6 rfl hl (by decide) rfl (fun ls hl => ?_)
    refine lv_iload_n hx hb dX1_meet_7 rfl (lv_at hl 3 rfl) ?_
    refine lv_aload_n hx hb dX1_meet_8 rfl (lv_at hl 1 rfl) ?_
    refine g_X1_loss hx hb hX1 hown hKK hP (show qk 25 = 1 from rfl) K29 dX1_meet_9 ?_
    refine lv_aload_n hx hb dX1_meet_12 rfl (lv_at hl 1 rfl) ?_
    refine g_X1_gain hx hb hX1 hown hKK hP (show qk 25 = 1 from rfl) K32 dX1_meet_13 ?_
    refine lv_iadd hx hb dX1_meet_16 ?_
    refine lv_imul hx hb dX1_meet_17 ?_
    refine lv_istore (lv' := [(4, .int (a2 * ((S.1 25 4) + (S.1 25 5)))), (3, .int (a2 * (S.1 25 5))), (0, .ref (ad 25)), (1, .int a1), (2, .int a2)]) hx hb dX1_meet_18 hl (by decide) rfl (fun ls hl => ?_)
    refine lv_iload_n hx hb dX1_meet_20 rfl (lv_at hl 3 rfl) ?_
    refine lv_iload hx hb dX1_meet_21 (lv_at hl 0 rfl) ?_
    refine lv_isub hx hb dX1_meet_23 ?_
    refine lv_aload_n hx hb dX1_meet_24 rfl (lv_at hl 2 rfl) ?_
    refine g_X1_one hx hb hX1 hown hKK hP (show qk 25 = 1 from rfl) K18 dX1_meet_25 ?_
    refine g_X0_at hx hb hX0 hown hKK hP (show qk 37 = 0 from rfl) K45 dX1_meet_28 ?_
    refine g_X3_bottom hx hb hX3 hown hKK hP (show qk 41 = 3 from rfl) K49 dX1_meet_31 ?_
    refine lv_aload_n hx hb dX1_meet_34 rfl (lv_at hl 2 rfl) ?_
    refine g_X1_one hx hb hX1 hown hKK hP (show qk 25 = 1 from rfl) K18 dX1_meet_35 ?_
    refine g_X0_after hx hb hX0 hown hKK hP (show qk 37 = 0 from rfl) K68 dX1_meet_38 ?_
    refine g_X3_bottom hx hb hX3 hown hKK hP (show qk 44 = 3 from rfl) K49 dX1_meet_41 ?_
    refine lv_iload_n hx hb dX1_meet_44 rfl (lv_at hl 1 rfl) ?_
    refine lv_isub hx hb dX1_meet_45 ?_
    refine va_mmax hx hb (hml.trans hl.1.symm) hown K75 (hts _ (List.mem_cons_of_mem _ (List.mem_append_left _ (List.mem_append_left _ (List.mem_append_left _ (List.mem_append_left _ (List.mem_of_getElem? (i := 7) rfl))))))) (hts _ (List.mem_cons_of_mem _ (List.mem_append_left _ (List.mem_append_left _ (List.mem_append_left _ (List.mem_append_left _ (List.mem_of_getElem? (i := 8) rfl))))))) (hts _ (List.mem_cons_of_mem _ (List.mem_append_left _ (List.mem_append_left _ (List.mem_append_left _ (List.mem_append_left _ (List.mem_of_getElem? (i := 9) rfl))))))) (Nat.le_of_ble_eq_true rfl) (Nat.le_of_ble_eq_true rfl) (Nat.le_of_ble_eq_true rfl) (Nat.le_of_ble_eq_true rfl) dX1_meet_46 ?_
    refine va_mmax hx hb (hml.trans hl.1.symm) hown K75 (hts _ (List.mem_cons_of_mem _ (List.mem_append_left _ (List.mem_append_left _ (List.mem_append_left _ (List.mem_append_left _ (List.mem_of_getElem? (i := 7) rfl))))))) (hts _ (List.mem_cons_of_mem _ (List.mem_append_left _ (List.mem_append_left _ (List.mem_append_left _ (List.mem_append_left _ (List.mem_of_getElem? (i := 8) rfl))))))) (hts _ (List.mem_cons_of_mem _ (List.mem_append_left _ (List.mem_append_left _ (List.mem_append_left _ (List.mem_append_left _ (List.mem_of_getElem? (i := 9) rfl))))))) (Nat.le_of_ble_eq_true rfl) (Nat.le_of_ble_eq_true rfl) (Nat.le_of_ble_eq_true rfl) (Nat.le_of_ble_eq_true rfl) dX1_meet_49 ?_
    obtain ⟨v1, h2, hf⟩ := bd_e hf
    have h2e := Option.some.inj h2
    rw [h2e]
    refine lv_istore (lv' := [(5, .int v1), (4, .int (a2 * ((S.1 25 4) + (S.1 25 5)))), (3, .int (a2 * (S.1 25 5))), (0, .ref (ad 25)), (1, .int a1), (2, .int a2)]) hx hb dX1_meet_52 hl (by decide) rfl (fun ls hl => ?_)
    refine lv_iload_n hx hb dX1_meet_54 rfl (lv_at hl 4 rfl) ?_
    refine lv_iload hx hb dX1_meet_55 (lv_at hl 1 rfl) ?_
    refine lv_iconst (v := 1) hx hb dX1_meet_57 (by decide) ?_
    refine lv_iadd hx hb dX1_meet_58 ?_
    refine lv_iconst (v := 2) hx hb dX1_meet_59 (by decide) ?_
    obtain ⟨v3, h41, hf⟩ := bd_e hf
    obtain ⟨h41z, h41e⟩ := q_dv h41
    refine lv_idiv hx hb dX1_meet_60 h41z ?_
    rw [← h41e]
    refine lv_isub hx hb dX1_meet_61 ?_
    refine lv_aload_n hx hb dX1_meet_62 rfl (lv_at hl 3 rfl) ?_
    refine g_X1_one hx hb hX1 hown hKK hP (show qk 25 = 1 from rfl) K18 dX1_meet_63 ?_
    refine g_X0_at hx hb hX0 hown hKK hP (show qk 37 = 0 from rfl) K45 dX1_meet_66 ?_
    refine g_X3_top hx hb hX3 hown hKK hP (show qk 41 = 3 from rfl) K54 dX1_meet_69 ?_
    refine lv_aload_n hx hb dX1_meet_72 rfl (lv_at hl 3 rfl) ?_
    refine g_X1_one hx hb hX1 hown hKK hP (show qk 25 = 1 from rfl) K18 dX1_meet_73 ?_
    refine g_X0_after hx hb hX0 hown hKK hP (show qk 37 = 0 from rfl) K68 dX1_meet_76 ?_
    refine g_X3_top hx hb hX3 hown hKK hP (show qk 44 = 3 from rfl) K54 dX1_meet_79 ?_
    refine lv_iload_n hx hb dX1_meet_82 rfl (lv_at hl 2 rfl) ?_
    refine lv_isub hx hb dX1_meet_83 ?_
    refine va_mmin hx hb (hml.trans hl.1.symm) hown K80 (hts _ (List.mem_cons_of_mem _ (List.mem_append_left _ (List.mem_append_left _ (List.mem_append_left _ (List.mem_append_left _ (List.mem_of_getElem? (i := 12) rfl))))))) (hts _ (List.mem_cons_of_mem _ (List.mem_append_left _ (List.mem_append_left _ (List.mem_append_left _ (List.mem_append_left _ (List.mem_of_getElem? (i := 8) rfl))))))) (hts _ (List.mem_cons_of_mem _ (List.mem_append_left _ (List.mem_append_left _ (List.mem_append_left _ (List.mem_append_left _ (List.mem_of_getElem? (i := 13) rfl))))))) (Nat.le_of_ble_eq_true rfl) (Nat.le_of_ble_eq_true rfl) (Nat.le_of_ble_eq_true rfl) (Nat.le_of_ble_eq_true rfl) dX1_meet_84 ?_
    refine va_mmin hx hb (hml.trans hl.1.symm) hown K80 (hts _ (List.mem_cons_of_mem _ (List.mem_append_left _ (List.mem_append_left _ (List.mem_append_left _ (List.mem_append_left _ (List.mem_of_getElem? (i := 12) rfl))))))) (hts _ (List.mem_cons_of_mem _ (List.mem_append_left _ (List.mem_append_left _ (List.mem_append_left _ (List.mem_append_left _ (List.mem_of_getElem? (i := 8) rfl))))))) (hts _ (List.mem_cons_of_mem _ (List.mem_append_left _ (List.mem_append_left _ (List.mem_append_left _ (List.mem_append_left _ (List.mem_of_getElem? (i := 13) rfl))))))) (Nat.le_of_ble_eq_true rfl) (Nat.le_of_ble_eq_true rfl) (Nat.le_of_ble_eq_true rfl) (Nat.le_of_ble_eq_true rfl) dX1_meet_87 ?_
    obtain ⟨v4, h5, hf⟩ := bd_e hf
    have h5e := Option.some.inj h5
    rw [h5e]
    refine lv_istore (lv' := [(6, .int v4), (5, .int v1), (4, .int (a2 * ((S.1 25 4) + (S.1 25 5)))), (3, .int (a2 * (S.1 25 5))), (0, .ref (ad 25)), (1, .int a1), (2, .int a2)]) hx hb dX1_meet_90 hl (by decide) rfl (fun ls hl => ?_)
    refine lv_iload hx hb dX1_meet_92 (lv_at hl 1 rfl) ?_
    refine lv_bipush (v := (-50)) hx hb dX1_meet_94 (by decide) ?_
    refine va_mmax hx hb (hml.trans hl.1.symm) hown K75 (hts _ (List.mem_cons_of_mem _ (List.mem_append_left _ (List.mem_append_left _ (List.mem_append_left _ (List.mem_append_left _ (List.mem_of_getElem? (i := 7) rfl))))))) (hts _ (List.mem_cons_of_mem _ (List.mem_append_left _ (List.mem_append_left _ (List.mem_append_left _ (List.mem_append_left _ (List.mem_of_getElem? (i := 8) rfl))))))) (hts _ (List.mem_cons_of_mem _ (List.mem_append_left _ (List.mem_append_left _ (List.mem_append_left _ (List.mem_append_left _ (List.mem_of_getElem? (i := 9) rfl))))))) (Nat.le_of_ble_eq_true rfl) (Nat.le_of_ble_eq_true rfl) (Nat.le_of_ble_eq_true rfl) (Nat.le_of_ble_eq_true rfl) dX1_meet_96 ?_
    refine lv_istore (lv' := [(5, .int (if v1 < (-50) then (-50) else v1)), (6, .int v4), (4, .int (a2 * ((S.1 25 4) + (S.1 25 5)))), (3, .int (a2 * (S.1 25 5))), (0, .ref (ad 25)), (1, .int a1), (2, .int a2)]) hx hb dX1_meet_99 hl (by decide) rfl (fun ls hl => ?_)
    refine lv_iload hx hb dX1_meet_101 (lv_at hl 1 rfl) ?_
    refine lv_bipush (v := 50) hx hb dX1_meet_103 (by decide) ?_
    refine lv_iload_n hx hb dX1_meet_105 rfl (lv_at hl 3 rfl) ?_
    refine lv_isub hx hb dX1_meet_106 ?_
    refine va_mmin hx hb (hml.trans hl.1.symm) hown K80 (hts _ (List.mem_cons_of_mem _ (List.mem_append_left _ (List.mem_append_left _ (List.mem_append_left _ (List.mem_append_left _ (List.mem_of_getElem? (i := 12) rfl))))))) (hts _ (List.mem_cons_of_mem _ (List.mem_append_left _ (List.mem_append_left _ (List.mem_append_left _ (List.mem_append_left _ (List.mem_of_getElem? (i := 8) rfl))))))) (hts _ (List.mem_cons_of_mem _ (List.mem_append_left _ (List.mem_append_left _ (List.mem_append_left _ (List.mem_append_left _ (List.mem_of_getElem? (i := 13) rfl))))))) (Nat.le_of_ble_eq_true rfl) (Nat.le_of_ble_eq_true rfl) (Nat.le_of_ble_eq_true rfl) (Nat.le_of_ble_eq_true rfl) dX1_meet_107 ?_
    obtain ⟨v6, h7, hf⟩ := bd_e hf
    have h7e := Option.some.inj h7
    rw [h7e]
    refine lv_istore (lv' := [(6, .int v6), (5, .int (if v1 < (-50) then (-50) else v1)), (4, .int (a2 * ((S.1 25 4) + (S.1 25 5)))), (3, .int (a2 * (S.1 25 5))), (0, .ref (ad 25)), (1, .int a1), (2, .int a2)]) hx hb dX1_meet_110 hl (by decide) rfl (fun ls hl => ?_)
    refine lv_lconst (v := 0) hx hb dX1_meet_112 rfl ?_
    refine lv_lstore (lv' := [(7, .long 0), (6, .int v6), (5, .int (if v1 < (-50) then (-50) else v1)), (4, .int (a2 * ((S.1 25 4) + (S.1 25 5)))), (3, .int (a2 * (S.1 25 5))), (0, .ref (ad 25)), (1, .int a1), (2, .int a2)]) hx hb dX1_meet_113 hl (by decide) rfl (fun ls hl => ?_)
    refine lv_iconst (v := (-1)) hx hb dX1_meet_115 (by decide) ?_
    refine lv_istore (lv' := [(9, .int (-1)), (7, .long 0), (6, .int v6), (5, .int (if v1 < (-50) then (-50) else v1)), (4, .int (a2 * ((S.1 25 4) + (S.1 25 5)))), (3, .int (a2 * (S.1 25 5))), (0, .ref (ad 25)), (1, .int a1), (2, .int a2)]) hx hb dX1_meet_116 hl (by decide) rfl (fun ls hl => ?_)
    refine lv_iload hx hb dX1_meet_118 (lv_at hl 3 rfl) ?_
    refine lv_istore (lv' := [(10, .int (if v1 < (-50) then (-50) else v1)), (9, .int (-1)), (7, .long 0), (6, .int v6), (5, .int (if v1 < (-50) then (-50) else v1)), (4, .int (a2 * ((S.1 25 4) + (S.1 25 5)))), (3, .int (a2 * (S.1 25 5))), (0, .ref (ad 25)), (1, .int a1), (2, .int a2)]) hx hb dX1_meet_120 hl (by decide) rfl (fun ls hl => ?_)
    obtain ⟨q12, hq12, hf⟩ := bd_e hf
    have J1 : ∀ (H : Heap) (locs : List Loc) (ls : Array Slot), va_P D vwCl (wd ca ad q12.2.2) H → va_S (Aq ad s.heap.size) s.heap H locs → lv_has ls 13 [(0, .ref (ad 25)), (1, .int a1), (2, .int a2), (7, .long q12.1), (9, .int q12.2.1)] → W p l e rm_X1_meet s m args below meth c H locs 0 0 (Zv below D ca ad args s o) (F0 m 252 ls []) := by
      intro H locs ls hP hS hl
      refine lv_lload hx hb dX1_meet_252 (lv_at hl 3 rfl) ?_
      refine lv_lconst (v := 0) hx hb dX1_meet_254 rfl ?_
      refine W.lcmp hx hb dX1_meet_255 ?_
      refine lv_if_le (tgt := 351) hx hb dX1_meet_256 (by decide) (fun w => ?_) (fun w => ?_)
      · have hf := if_t w hf
        obtain rfl := Option.some.inj hf
        exact r_vret hx hb hr hP hS dX1_meet_351 hlocks
      · have hf := if_f w hf
        refine lv_iload_n hx hb dX1_meet_259 rfl (lv_at hl 1 rfl) ?_
        refine lv_iload_n hx hb dX1_meet_260 rfl (lv_at hl 2 rfl) ?_
        refine lv_aload_n hx hb dX1_meet_261 rfl (lv_at hl 0 rfl) ?_
        refine g_X1_loss hx hb hX1 hown hKK hP (show qk 25 = 1 from rfl) K29 dX1_meet_262 ?_
        refine lv_imul hx hb dX1_meet_265 ?_
        refine lv_isub hx hb dX1_meet_266 ?_
        refine lv_istore (lv' := [(10, .int (a1 - (a2 * (q12.2.2.1 25 4)))), (0, .ref (ad 25)), (1, .int a1), (2, .int a2), (7, .long q12.1), (9, .int q12.2.1)]) hx hb dX1_meet_267 hl (by decide) rfl (fun ls hl => ?_)
        refine lv_aload_n hx hb dX1_meet_269 rfl (lv_at hl 1 rfl) ?_
        refine g_X1_zero hx hb hX1 hown hKK hP (show qk 25 = 1 from rfl) K12 dX1_meet_270 ?_
        refine g_X0_at hx hb hX0 hown hKK hP (show qk 26 = 0 from rfl) K45 dX1_meet_273 ?_
        refine lv_iload_n hx hb dX1_meet_276 rfl (lv_at hl 2 rfl) ?_
        obtain ⟨S26, h25, hf⟩ := bd_e hf
        refine r_cv hS (va_runV (As := [.int a1]) (rest := []) ⟨hx, hb, hml, hown, hts⟩ (m_X3_see l D ca ad hj 30 (show qk 30 = 3 from rfl) a1 q12.2.2 _ h25 H.size) (cwV 1 hts gX1_meet_X3_see rfl rfl rfl (by decide +kernel) ⟨Nat.le_of_ble_eq_true rfl, Nat.le_of_ble_eq_true rfl⟩) (r_preV hKK hP (show qk 30 = 3 from rfl) rfl) rfl rfl hl.1 rfl (lv_room (Nat.le_of_ble_eq_true rfl)) dX1_meet_277 ⟨Nat.le_of_ble_eq_true rfl, Nat.le_of_ble_eq_true rfl⟩) (fun H locs hP hS => ?_)
        refine lv_aload_n hx hb dX1_meet_280 rfl (lv_at hl 1 rfl) ?_
        refine g_X1_zero hx hb hX1 hown hKK hP (show qk 25 = 1 from rfl) K12 dX1_meet_281 ?_
        refine g_X0_after hx hb hX0 hown hKK hP (show qk 26 = 0 from rfl) K68 dX1_meet_284 ?_
        refine lv_iload hx hb dX1_meet_287 (lv_at hl 0 rfl) ?_
        obtain ⟨S28, h27, hf⟩ := bd_e hf
        refine r_cv hS (va_runV (As := [.int (a1 - (a2 * (q12.2.2.1 25 4)))]) (rest := []) ⟨hx, hb, hml, hown, hts⟩ (m_X3_see l D ca ad hj 33 (show qk 33 = 3 from rfl) (a1 - (a2 * (q12.2.2.1 25 4))) S26 _ h27 H.size) (cwV 1 hts gX1_meet_X3_see rfl rfl rfl (by decide +kernel) ⟨Nat.le_of_ble_eq_true rfl, Nat.le_of_ble_eq_true rfl⟩) (r_preV hKK hP (show qk 33 = 3 from rfl) rfl) rfl rfl hl.1 rfl (lv_room (Nat.le_of_ble_eq_true rfl)) dX1_meet_289 ⟨Nat.le_of_ble_eq_true rfl, Nat.le_of_ble_eq_true rfl⟩) (fun H locs hP hS => ?_)
        refine lv_aload_n hx hb dX1_meet_292 rfl (lv_at hl 1 rfl) ?_
        refine lv_dup hx hb dX1_meet_293 rfl ?_
        refine g_X1_wayCount hx hb hX1 hown hKK hP (show qk 25 = 1 from rfl) K21 dX1_meet_294 ?_
        refine lv_lload hx hb dX1_meet_297 (lv_at hl 4 rfl) ?_
        refine lv_aload_n hx hb dX1_meet_299 rfl (lv_at hl 1 rfl) ?_
        refine g_X1_zero hx hb hX1 hown hKK hP (show qk 25 = 1 from rfl) K12 dX1_meet_300 ?_
        refine lv_iload_n hx hb dX1_meet_303 rfl (lv_at hl 2 rfl) ?_
        obtain ⟨v30, h29, hf⟩ := bd_e hf
        refine r_ci hS (va_runV (As := [.int a1]) (rest := [.long q12.1, .long (S28.2 25), .ref (ad 25)]) ⟨hx, hb, hml, hown, hts⟩ (m_X0_firstCount l D ca ad hj 26 (show qk 26 = 0 from rfl) a1 S28 _ h29 H.size) (cwV 1 hts gX1_meet_X0_firstCount rfl rfl rfl (by decide +kernel) ⟨Nat.le_of_ble_eq_true rfl, Nat.le_of_ble_eq_true rfl⟩) (r_preV hKK hP (show qk 26 = 0 from rfl) rfl) rfl rfl hl.1 rfl (lv_room (Nat.le_of_ble_eq_true rfl)) dX1_meet_304 ⟨Nat.le_of_ble_eq_true rfl, Nat.le_of_ble_eq_true rfl⟩) (fun H locs hP hS => ?_)
        refine lv_i2l (v := v30.toInt64) hx hb dX1_meet_307 rfl ?_
        refine lv_lmul hx hb dX1_meet_308 ?_
        refine lv_ladd hx hb dX1_meet_309 ?_
        obtain ⟨S31, h32, hf⟩ := bd_e hf
        refine p_X1_wayCount hx hb hX1 hown hj hKK hP hS (show qk 25 = 1 from rfl) h32 K21 dX1_meet_310 (fun H locs hP hS => ?_)
        refine lv_aload_n hx hb dX1_meet_313 rfl (lv_at hl 1 rfl) ?_
        refine lv_aload_n hx hb dX1_meet_314 rfl (lv_at hl 1 rfl) ?_
        refine g_X1_cheapest hx hb hX1 hown hKK hP (show qk 25 = 1 from rfl) K25 dX1_meet_315 ?_
        refine lv_iload hx hb dX1_meet_318 (lv_at hl 5 rfl) ?_
        refine lv_aload_n hx hb dX1_meet_320 rfl (lv_at hl 1 rfl) ?_
        refine g_X1_zero hx hb hX1 hown hKK hP (show qk 25 = 1 from rfl) K12 dX1_meet_321 ?_
        refine g_X0_at hx hb hX0 hown hKK hP (show qk 26 = 0 from rfl) K45 dX1_meet_324 ?_
        refine lv_iload_n hx hb dX1_meet_327 rfl (lv_at hl 2 rfl) ?_
        obtain ⟨v34, h33, hf⟩ := bd_e hf
        refine r_ci hS (va_runV (As := [.int a1]) (rest := [.int q12.2.1, .int (S31.1 25 3), .ref (ad 25)]) ⟨hx, hb, hml, hown, hts⟩ (m_X3_priceOf l D ca ad hj 30 (show qk 30 = 3 from rfl) a1 S31 _ h33 H.size) (cwV 1 hts gX1_meet_X3_priceOf rfl rfl rfl (by decide +kernel) ⟨Nat.le_of_ble_eq_true rfl, Nat.le_of_ble_eq_true rfl⟩) (r_preV hKK hP (show qk 30 = 3 from rfl) rfl) rfl rfl hl.1 rfl (lv_room (Nat.le_of_ble_eq_true rfl)) dX1_meet_328 ⟨Nat.le_of_ble_eq_true rfl, Nat.le_of_ble_eq_true rfl⟩) (fun H locs hP hS => ?_)
        refine lv_iadd hx hb dX1_meet_331 ?_
        refine lv_aload_n hx hb dX1_meet_332 rfl (lv_at hl 1 rfl) ?_
        refine g_X1_zero hx hb hX1 hown hKK hP (show qk 25 = 1 from rfl) K12 dX1_meet_333 ?_
        refine g_X0_after hx hb hX0 hown hKK hP (show qk 26 = 0 from rfl) K68 dX1_meet_336 ?_
        refine lv_iload hx hb dX1_meet_339 (lv_at hl 0 rfl) ?_
        obtain ⟨v36, h35, hf⟩ := bd_e hf
        refine r_ci hS (va_runV (As := [.int (a1 - (a2 * (q12.2.2.1 25 4)))]) (rest := [.int (q12.2.1 + v34), .int (S31.1 25 3), .ref (ad 25)]) ⟨hx, hb, hml, hown, hts⟩ (m_X3_priceOf l D ca ad hj 33 (show qk 33 = 3 from rfl) (a1 - (a2 * (q12.2.2.1 25 4))) S31 _ h35 H.size) (cwV 1 hts gX1_meet_X3_priceOf rfl rfl rfl (by decide +kernel) ⟨Nat.le_of_ble_eq_true rfl, Nat.le_of_ble_eq_true rfl⟩) (r_preV hKK hP (show qk 33 = 3 from rfl) rfl) rfl rfl hl.1 rfl (lv_room (Nat.le_of_ble_eq_true rfl)) dX1_meet_341 ⟨Nat.le_of_ble_eq_true rfl, Nat.le_of_ble_eq_true rfl⟩) (fun H locs hP hS => ?_)
        refine lv_iadd hx hb dX1_meet_344 ?_
        obtain ⟨v38, h37, hf⟩ := bd_e hf
        refine r_ci hS (va_runSN (As := [.int (S31.1 25 3), .int ((q12.2.1 + v34) + v36)]) (rest := [.ref (ad 25)]) ⟨hx, hb, hml, hown, hts⟩ (m_X5_cheaper l D ca ad hj (S31.1 25 3) ((q12.2.1 + v34) + v36) S31 _ h37 H.size) ⟨va_cnB 2 hts ggX1_meet_X5_cheaper rfl rfl rfl (hKK.2 _ (List.mem_of_getElem? (i := 4) rfl)) (hts _ (List.mem_cons_of_mem _ (List.mem_append_left _ (List.mem_append_left _ (List.mem_append_left _ (List.mem_append_left _ (List.mem_of_getElem? (i := 18) rfl))))))) (by decide +kernel) ⟨Nat.le_of_ble_eq_true rfl, Nat.le_of_ble_eq_true rfl⟩, hts _ (List.mem_cons_of_mem _ (List.mem_append_left _ (List.mem_append_left _ (List.mem_append_left _ (List.mem_append_left _ (List.mem_of_getElem? (i := 17) rfl)))))), trivial⟩ (r_pre hKK hP) rfl rfl hl.1 rfl (lv_room (Nat.le_of_ble_eq_true rfl)) dX1_meet_345 ⟨Nat.le_of_ble_eq_true rfl, Nat.le_of_ble_eq_true rfl⟩) (fun H locs hP hS => ?_)
        obtain ⟨S39, h40, hf⟩ := bd_e hf
        obtain rfl := Option.some.inj h40
        refine p_X1_cheapest hx hb hX1 hown hj hKK hP hS (show qk 25 = 1 from rfl) K25 dX1_meet_348 (fun H locs hP hS => ?_)
        obtain rfl := Option.some.inj hf
        exact r_vret hx hb hr hP hS dX1_meet_351 hlocks
    replace hf := hq12
    have L1 : ∀ (fuel : Nat) (w8 : Int64) (v9 : Int32) (v10 : Int32) (S11 : QS), lp_X1_meet_122 a2 S v6 fuel w8 v9 v10 S11 = some q12 → ∀ (H : Heap) (locs : List Loc) (ls : Array Slot), va_P D vwCl (wd ca ad S11) H → va_S (Aq ad s.heap.size) s.heap H locs → lv_has ls 13 [(0, .ref (ad 25)), (1, .int a1), (2, .int a2), (3, .int (a2 * (S.1 25 5))), (6, .int v6), (7, .long w8), (9, .int v9), (10, .int v10)] → W p l e rm_X1_meet s m args below meth c H locs 0 0 (Zv below D ca ad args s o) (F0 m 122 ls []) := by
      intro fuel
      induction fuel with
      | zero =>
        intro w8 v9 v10 S11 hf
        simp [lp_X1_meet_122] at hf
      | succ fuel ih =>
        intro w8 v9 v10 S11 hf H locs ls hP hS hl
        rw [lp_X1_meet_122] at hf
        refine lv_iload hx hb dX1_meet_122 (lv_at hl 7 rfl) ?_
        refine lv_iload hx hb dX1_meet_124 (lv_at hl 4 rfl) ?_
        refine lv_icmp_gt (tgt := 252) hx hb dX1_meet_126 (by decide) (fun w => ?_) (fun w => ?_)
        · have hf := if_t w hf
          obtain rfl := Option.some.inj hf
          exact J1 _ _ _ hP hS (lv_sub hl [0, 1, 2, 5, 6] rfl)
        · have hf := if_f w hf
          refine lv_aload_n hx hb dX1_meet_129 rfl (lv_at hl 0 rfl) ?_
          refine g_X1_one hx hb hX1 hown hKK hP (show qk 25 = 1 from rfl) K18 dX1_meet_130 ?_
          refine g_X0_at hx hb hX0 hown hKK hP (show qk 37 = 0 from rfl) K45 dX1_meet_133 ?_
          refine gN_X3_prices hx hb hX3 hown hKK hP (show qk 41 = 3 from rfl) (hKK.2 _ (List.mem_of_getElem? (i := 0) rfl)) dX1_meet_136 ?_
          refine lv_iload hx hb dX1_meet_139 (lv_at hl 7 rfl) ?_
          refine lv_bipush (v := (-50)) hx hb dX1_meet_141 (by decide) ?_
          refine lv_isub hx hb dX1_meet_143 ?_
          obtain ⟨v13, h14, hf⟩ := bd_e hf
          refine r_iald hx hb hKK hP (show qk 42 = 7 from rfl) (show qn 42 = 101 from rfl) h14 dX1_meet_144 ?_
          refine lv_istore (lv' := [(11, .int v13), (0, .ref (ad 25)), (1, .int a1), (2, .int a2), (3, .int (a2 * (S.1 25 5))), (6, .int v6), (7, .long w8), (9, .int v9), (10, .int v10)]) hx hb dX1_meet_145 hl (by decide) rfl (fun ls hl => ?_)
          refine lv_aload_n hx hb dX1_meet_147 rfl (lv_at hl 1 rfl) ?_
          refine g_X1_one hx hb hX1 hown hKK hP (show qk 25 = 1 from rfl) K18 dX1_meet_148 ?_
          refine g_X0_after hx hb hX0 hown hKK hP (show qk 37 = 0 from rfl) K68 dX1_meet_151 ?_
          refine gN_X3_prices hx hb hX3 hown hKK hP (show qk 44 = 3 from rfl) (hKK.2 _ (List.mem_of_getElem? (i := 0) rfl)) dX1_meet_154 ?_
          refine lv_iload hx hb dX1_meet_157 (lv_at hl 8 rfl) ?_
          refine lv_iload_n hx hb dX1_meet_159 rfl (lv_at hl 4 rfl) ?_
          refine lv_iadd hx hb dX1_meet_160 ?_
          refine lv_bipush (v := (-50)) hx hb dX1_meet_161 (by decide) ?_
          refine lv_isub hx hb dX1_meet_163 ?_
          obtain ⟨v15, h16, hf⟩ := bd_e hf
          refine r_iald hx hb hKK hP (show qk 45 = 7 from rfl) (show qn 45 = 101 from rfl) h16 dX1_meet_164 ?_
          refine lv_istore (lv' := [(12, .int v15), (11, .int v13), (0, .ref (ad 25)), (1, .int a1), (2, .int a2), (3, .int (a2 * (S.1 25 5))), (6, .int v6), (7, .long w8), (9, .int v9), (10, .int v10)]) hx hb dX1_meet_165 hl (by decide) rfl (fun ls hl => ?_)
          refine lv_iload hx hb dX1_meet_167 (lv_at hl 1 rfl) ?_
          refine lv_iconst (v := (-1)) hx hb dX1_meet_169 (by decide) ?_
          refine lv_icmp_eq (tgt := 246) hx hb dX1_meet_170 (by decide) (fun w => ?_) (fun w => ?_)
          · have hf := if_t w hf
            refine lv_iinc (v := (v10 + 1)) (lv' := [(10, .int (v10 + 1)), (12, .int v15), (11, .int v13), (0, .ref (ad 25)), (1, .int a1), (2, .int a2), (3, .int (a2 * (S.1 25 5))), (6, .int v6), (7, .long w8), (9, .int v9)]) hx hb dX1_meet_246 hl (k := 9) rfl rfl (by decide) rfl (fun ls hl => ?_)
            refine lv_goto (tgt := 122) hx hb dX1_meet_249 (by decide) ?_
            exact ih _ _ _ _ hf _ _ _ hP hS (lv_sub hl [3, 4, 5, 6, 7, 8, 9, 0] rfl)
          · have hf := if_f w hf
            refine lv_iload hx hb dX1_meet_173 (lv_at hl 0 rfl) ?_
            refine lv_iconst (v := (-1)) hx hb dX1_meet_175 (by decide) ?_
            refine lv_icmp_eq (tgt := 246) hx hb dX1_meet_176 (by decide) (fun w => ?_) (fun w => ?_)
            · have hf := if_t w hf
              refine lv_iinc (v := (v10 + 1)) (lv' := [(10, .int (v10 + 1)), (12, .int v15), (11, .int v13), (0, .ref (ad 25)), (1, .int a1), (2, .int a2), (3, .int (a2 * (S.1 25 5))), (6, .int v6), (7, .long w8), (9, .int v9)]) hx hb dX1_meet_246 hl (k := 9) rfl rfl (by decide) rfl (fun ls hl => ?_)
              refine lv_goto (tgt := 122) hx hb dX1_meet_249 (by decide) ?_
              exact ih _ _ _ _ hf _ _ _ hP hS (lv_sub hl [3, 4, 5, 6, 7, 8, 9, 0] rfl)
            · have hf := if_f w hf
              refine lv_lload hx hb dX1_meet_179 (lv_at hl 7 rfl) ?_
              refine lv_aload_n hx hb dX1_meet_181 rfl (lv_at hl 2 rfl) ?_
              refine g_X1_one hx hb hX1 hown hKK hP (show qk 25 = 1 from rfl) K18 dX1_meet_182 ?_
              refine gN_X0_firstCounts hx hb hX0 hown hKK hP (show qk 37 = 0 from rfl) (hKK.2 _ (List.mem_of_getElem? (i := 2) rfl)) dX1_meet_185 ?_
              refine lv_iload hx hb dX1_meet_188 (lv_at hl 9 rfl) ?_
              refine lv_bipush (v := (-50)) hx hb dX1_meet_190 (by decide) ?_
              refine lv_isub hx hb dX1_meet_192 ?_
              obtain ⟨v17, h18, hf⟩ := bd_e hf
              refine r_iald hx hb hKK hP (show qk 47 = 7 from rfl) (show qn 47 = 101 from rfl) h18 dX1_meet_193 ?_
              refine lv_i2l (v := v17.toInt64) hx hb dX1_meet_194 rfl ?_
              refine lv_ladd hx hb dX1_meet_195 ?_
              refine lv_lstore (lv' := [(7, .long (w8 + v17.toInt64)), (12, .int v15), (11, .int v13), (0, .ref (ad 25)), (1, .int a1), (2, .int a2), (3, .int (a2 * (S.1 25 5))), (6, .int v6), (9, .int v9), (10, .int v10)]) hx hb dX1_meet_196 hl (by decide) rfl (fun ls hl => ?_)
              refine lv_iload hx hb dX1_meet_198 (lv_at hl 8 rfl) ?_
              refine lv_iload hx hb dX1_meet_200 (lv_at hl 2 rfl) ?_
              refine lv_iload hx hb dX1_meet_202 (lv_at hl 1 rfl) ?_
              refine lv_iadd hx hb dX1_meet_204 ?_
              obtain ⟨v20, h19, hf⟩ := bd_e hf
              refine r_ci hS (va_runSN (As := [.int v9, .int (v13 + v15)]) (rest := []) ⟨hx, hb, hml, hown, hts⟩ (m_X5_cheaper l D ca ad hj v9 (v13 + v15) S11 _ h19 H.size) ⟨va_cnB 2 hts ggX1_meet_X5_cheaper rfl rfl rfl (hKK.2 _ (List.mem_of_getElem? (i := 4) rfl)) (hts _ (List.mem_cons_of_mem _ (List.mem_append_left _ (List.mem_append_left _ (List.mem_append_left _ (List.mem_append_left _ (List.mem_of_getElem? (i := 18) rfl))))))) (by decide +kernel) ⟨Nat.le_of_ble_eq_true rfl, Nat.le_of_ble_eq_true rfl⟩, hts _ (List.mem_cons_of_mem _ (List.mem_append_left _ (List.mem_append_left _ (List.mem_append_left _ (List.mem_append_left _ (List.mem_of_getElem? (i := 17) rfl)))))), trivial⟩ (r_pre hKK hP) rfl rfl hl.1 rfl (lv_room (Nat.le_of_ble_eq_true rfl)) dX1_meet_205 ⟨Nat.le_of_ble_eq_true rfl, Nat.le_of_ble_eq_true rfl⟩) (fun H locs hP hS => ?_)
              refine lv_istore (lv' := [(9, .int v20), (7, .long (w8 + v17.toInt64)), (12, .int v15), (11, .int v13), (0, .ref (ad 25)), (1, .int a1), (2, .int a2), (3, .int (a2 * (S.1 25 5))), (6, .int v6), (10, .int v10)]) hx hb dX1_meet_208 hl (by decide) rfl (fun ls hl => ?_)
              refine lv_aload_n hx hb dX1_meet_210 rfl (lv_at hl 4 rfl) ?_
              refine g_X1_one hx hb hX1 hown hKK hP (show qk 25 = 1 from rfl) K18 dX1_meet_211 ?_
              refine g_X0_at hx hb hX0 hown hKK hP (show qk 37 = 0 from rfl) K45 dX1_meet_214 ?_
              refine gN_X3_seen hx hb hX3 hown hKK hP (show qk 41 = 3 from rfl) (hKK.2 _ (List.mem_of_getElem? (i := 1) rfl)) dX1_meet_217 ?_
              refine lv_iload hx hb dX1_meet_220 (lv_at hl 9 rfl) ?_
              refine lv_bipush (v := (-50)) hx hb dX1_meet_222 (by decide) ?_
              refine lv_isub hx hb dX1_meet_224 ?_
              refine lv_iconst (v := 1) hx hb dX1_meet_225 (by decide) ?_
              obtain ⟨S21, h22, hf⟩ := bd_e hf
              refine r_zast hx hb hj hKK hP hS (show qk 43 = 8 from rfl) (show qn 43 = 101 from rfl) h22 dX1_meet_226 (fun H locs hP hS => ?_)
              refine lv_aload_n hx hb dX1_meet_227 rfl (lv_at hl 4 rfl) ?_
              refine g_X1_one hx hb hX1 hown hKK hP (show qk 25 = 1 from rfl) K18 dX1_meet_228 ?_
              refine g_X0_after hx hb hX0 hown hKK hP (show qk 37 = 0 from rfl) K68 dX1_meet_231 ?_
              refine gN_X3_seen hx hb hX3 hown hKK hP (show qk 44 = 3 from rfl) (hKK.2 _ (List.mem_of_getElem? (i := 1) rfl)) dX1_meet_234 ?_
              refine lv_iload hx hb dX1_meet_237 (lv_at hl 9 rfl) ?_
              refine lv_iload_n hx hb dX1_meet_239 rfl (lv_at hl 7 rfl) ?_
              refine lv_iadd hx hb dX1_meet_240 ?_
              refine lv_bipush (v := (-50)) hx hb dX1_meet_241 (by decide) ?_
              refine lv_isub hx hb dX1_meet_243 ?_
              refine lv_iconst (v := 1) hx hb dX1_meet_244 (by decide) ?_
              obtain ⟨S23, h24, hf⟩ := bd_e hf
              refine r_zast hx hb hj hKK hP hS (show qk 46 = 8 from rfl) (show qn 46 = 101 from rfl) h24 dX1_meet_245 (fun H locs hP hS => ?_)
              refine lv_iinc (v := (v10 + 1)) (lv' := [(10, .int (v10 + 1)), (9, .int v20), (7, .long (w8 + v17.toInt64)), (12, .int v15), (11, .int v13), (0, .ref (ad 25)), (1, .int a1), (2, .int a2), (3, .int (a2 * (S.1 25 5))), (6, .int v6)]) hx hb dX1_meet_246 hl (k := 9) rfl rfl (by decide) rfl (fun ls hl => ?_)
              refine lv_goto (tgt := 122) hx hb dX1_meet_249 (by decide) ?_
              exact ih _ _ _ _ hf _ _ _ hP hS (lv_sub hl [5, 6, 7, 8, 9, 2, 1, 0] rfl)
    exact L1 _ _ _ _ _ hf _ _ _ hP hS (lv_sub hl [7, 8, 9, 6, 3, 2, 1, 0] rfl)
  exact main s.heap [] ls hP va_S.rf hl
def rm_X1_pushFrom : Room := { frames := 2, cells := 0, slots := 0, locals := 53 }
set_option maxRecDepth 100000 in
set_option maxHeartbeats 4000000 in
theorem m_X1_pushFrom (l : Launch) (D : va_G) (ca : Nat → ClassId) (ad : Nat → Nat) (hj : Inj ad) (a1 : Int32) (S : QS) (o : QS) (hf : f_X1_pushFrom a1 S = some o) : Cv l D ca ad yX1_pushFrom wsX1_pushFrom rm_X1_pushFrom [.ref (ad 25), .int a1] S o := by
  intro sz
  refine Met.ofW (cc := cX1_pushFrom) (maxL := 3) (ret := none) (by decide) rfl ?_
  intro p e s m args below meth c s₁ B hml hv
  obtain ⟨hav, hsz, hP, hKK⟩ := hv
  have hx := B.exec
  have hb := B.bytes
  have hr := B.returns
  have hts := atoms_spec (ws := wsX1_pushFrom) B.pre
  have hown : s.vm.findClass RX1 = some m.cls := findClass_of_methodNamed B.named
  have hlocks := B.notSynchronized
  subst hsz
  have hX0 : ∀ w ∈ wsX00, w.before _ s = true := fun w h => hts w (List.mem_cons_of_mem _ (List.mem_append_left _ (List.mem_append_right _ h)))
  have hX1 : ∀ w ∈ wsX10, w.before _ s = true := fun w h => hts w (List.mem_cons_of_mem _ (List.mem_append_left _ (List.mem_append_left _ (List.mem_append_right _ h))))
  have hX3 : ∀ w ∈ wsX30, w.before _ s = true := fun w h => hts w (List.mem_cons_of_mem _ (List.mem_append_right _ h))
  have K12 := hts (Cond.fieldLink RX1 12 "CrashDesk$Meeting" "zero" "LCrashDesk$Car;") (List.mem_cons_of_mem _ (List.mem_append_left _ (List.mem_append_left _ (List.mem_append_left _ (List.mem_append_left _ (List.mem_of_getElem? (i := 1) rfl))))))
  have K29 := hts (Cond.fieldLink RX1 29 "CrashDesk$Meeting" "loss" "I") (List.mem_cons_of_mem _ (List.mem_append_left _ (List.mem_append_left _ (List.mem_append_left _ (List.mem_append_left _ (List.mem_of_getElem? (i := 0) rfl))))))
  have K49 := hts (Cond.fieldLink RX1 49 "CrashDesk$Speed" "bottom" "I") (List.mem_cons_of_mem _ (List.mem_append_left _ (List.mem_append_left _ (List.mem_append_left _ (List.mem_append_left _ (List.mem_of_getElem? (i := 3) rfl))))))
  have K68 := hts (Cond.fieldLink RX1 68 "CrashDesk$Car" "after" "LCrashDesk$Speed;") (List.mem_cons_of_mem _ (List.mem_append_left _ (List.mem_append_left _ (List.mem_append_left _ (List.mem_append_left _ (List.mem_of_getElem? (i := 2) rfl))))))
  have hl := lv_entry [.ref (ad 25), .int a1] (n := 3) (Nat.le_of_ble_eq_true rfl)
  rw [show entryFrame m args 3 = entryFrame m ([.ref (ad 25), .int a1] : List Value).toArray 3 by rw [hav], lg_entry_eq]
  generalize (lg_sl [.ref (ad 25), .int a1] ++ List.replicate (3 - (lg_sl [.ref (ad 25), .int a1]).length) Slot.unset).toArray = ls at hl ⊢
  have hl : lv_has ls 3 [(0, .ref (ad 25)), (1, .int a1)] := hl
  have main : ∀ (H : Heap) (locs : List Loc) (ls : Array Slot), va_P D vwCl (wd ca ad S) H → va_S (Aq ad s.heap.size) s.heap H locs → lv_has ls 3 [(0, .ref (ad 25)), (1, .int a1)] → W p l e rm_X1_pushFrom s m args below meth c H locs 0 0 (Zv below D ca ad args s o) (F0 m 0 ls []) := by
    intro H locs ls hP hS hl
    unfold f_X1_pushFrom at hf
    refine lv_iconst (v := 1) hx hb dX1_pushFrom_0 (by decide) ?_
    refine lv_istore_n (lv' := [(2, .int 1), (0, .ref (ad 25)), (1, .int a1)]) hx hb dX1_pushFrom_1 rfl hl (by decide) rfl (fun ls hl => ?_)
    have L1 : ∀ (fuel : Nat) (v1 : Int32) (S2 : QS), lp_X1_pushFrom_2 a1 fuel v1 S2 = some o → ∀ (H : Heap) (locs : List Loc) (ls : Array Slot), va_P D vwCl (wd ca ad S2) H → va_S (Aq ad s.heap.size) s.heap H locs → lv_has ls 3 [(0, .ref (ad 25)), (1, .int a1), (2, .int v1)] → W p l e rm_X1_pushFrom s m args below meth c H locs 0 0 (Zv below D ca ad args s o) (F0 m 2 ls []) := by
      intro fuel
      induction fuel with
      | zero =>
        intro v1 S2 hf
        simp [lp_X1_pushFrom_2] at hf
      | succ fuel ih =>
        intro v1 S2 hf H locs ls hP hS hl
        rw [lp_X1_pushFrom_2] at hf
        refine lv_iload_n hx hb dX1_pushFrom_2 rfl (lv_at hl 2 rfl) ?_
        refine lv_bipush (v := 101) hx hb dX1_pushFrom_3 (by decide) ?_
        refine lv_icmp_gt (tgt := 62) hx hb dX1_pushFrom_5 (by decide) (fun w => ?_) (fun w => ?_)
        · have hf := if_t w hf
          obtain rfl := Option.some.inj hf
          exact r_vret hx hb hr hP hS dX1_pushFrom_62 hlocks
        · have hf := if_f w hf
          refine lv_iload_n hx hb dX1_pushFrom_8 rfl (lv_at hl 1 rfl) ?_
          refine lv_iload_n hx hb dX1_pushFrom_9 rfl (lv_at hl 2 rfl) ?_
          refine lv_aload_n hx hb dX1_pushFrom_10 rfl (lv_at hl 0 rfl) ?_
          refine g_X1_loss hx hb hX1 hown hKK hP (show qk 25 = 1 from rfl) K29 dX1_pushFrom_11 ?_
          refine lv_imul hx hb dX1_pushFrom_14 ?_
          refine lv_isub hx hb dX1_pushFrom_15 ?_
          refine lv_aload_n hx hb dX1_pushFrom_16 rfl (lv_at hl 0 rfl) ?_
          refine g_X1_zero hx hb hX1 hown hKK hP (show qk 25 = 1 from rfl) K12 dX1_pushFrom_17 ?_
          refine g_X0_after hx hb hX0 hown hKK hP (show qk 26 = 0 from rfl) K68 dX1_pushFrom_20 ?_
          refine g_X3_bottom hx hb hX3 hown hKK hP (show qk 33 = 3 from rfl) K49 dX1_pushFrom_23 ?_
          refine lv_icmp_lt (tgt := 62) hx hb dX1_pushFrom_26 (by decide) (fun w => ?_) (fun w => ?_)
          · have hf := if_t w hf
            obtain rfl := Option.some.inj hf
            exact r_vret hx hb hr hP hS dX1_pushFrom_62 hlocks
          · have hf := if_f w hf
            refine lv_aload_n hx hb dX1_pushFrom_29 rfl (lv_at hl 0 rfl) ?_
            refine g_X1_zero hx hb hX1 hown hKK hP (show qk 25 = 1 from rfl) K12 dX1_pushFrom_30 ?_
            refine g_X0_after hx hb hX0 hown hKK hP (show qk 26 = 0 from rfl) K68 dX1_pushFrom_33 ?_
            refine lv_iload_n hx hb dX1_pushFrom_36 rfl (lv_at hl 1 rfl) ?_
            refine lv_iload_n hx hb dX1_pushFrom_37 rfl (lv_at hl 2 rfl) ?_
            refine lv_aload_n hx hb dX1_pushFrom_38 rfl (lv_at hl 0 rfl) ?_
            refine g_X1_loss hx hb hX1 hown hKK hP (show qk 25 = 1 from rfl) K29 dX1_pushFrom_39 ?_
            refine lv_imul hx hb dX1_pushFrom_42 ?_
            refine lv_isub hx hb dX1_pushFrom_43 ?_
            obtain ⟨v4, h3, hf⟩ := bd_e hf
            refine r_ci hS (va_runV (As := [.int (a1 - (v1 * (S2.1 25 4)))]) (rest := []) ⟨hx, hb, hml, hown, hts⟩ (m_X3_isOpen l D ca ad hj 33 (show qk 33 = 3 from rfl) (a1 - (v1 * (S2.1 25 4))) S2 _ h3 H.size) (cwV 1 hts gX1_pushFrom_X3_isOpen rfl rfl rfl (by decide +kernel) ⟨Nat.le_of_ble_eq_true rfl, Nat.le_of_ble_eq_true rfl⟩) (r_preV hKK hP (show qk 33 = 3 from rfl) rfl) rfl rfl hl.1 rfl (lv_room (Nat.le_of_ble_eq_true rfl)) dX1_pushFrom_44 ⟨Nat.le_of_ble_eq_true rfl, Nat.le_of_ble_eq_true rfl⟩) (fun H locs hP hS => ?_)
            refine lv_if_eq (tgt := 56) hx hb dX1_pushFrom_47 (by decide) (fun w => ?_) (fun w => ?_)
            · have hf := if_t w hf
              refine lv_iinc (v := (v1 + 1)) (lv' := [(2, .int (v1 + 1)), (0, .ref (ad 25)), (1, .int a1)]) hx hb dX1_pushFrom_56 hl (k := 2) rfl rfl (by decide) rfl (fun ls hl => ?_)
              refine lv_goto (tgt := 2) hx hb dX1_pushFrom_59 (by decide) ?_
              exact ih _ _ hf _ _ _ hP hS (lv_sub hl [1, 2, 0] rfl)
            · have hf := if_f w hf
              refine lv_aload_n hx hb dX1_pushFrom_50 rfl (lv_at hl 0 rfl) ?_
              refine lv_iload_n hx hb dX1_pushFrom_51 rfl (lv_at hl 1 rfl) ?_
              refine lv_iload_n hx hb dX1_pushFrom_52 rfl (lv_at hl 2 rfl) ?_
              obtain ⟨S6, h5, hf⟩ := bd_e hf
              refine r_cv hS (va_runV (As := [.int a1, .int v1]) (rest := []) ⟨hx, hb, hml, hown, hts⟩ (m_X1_meet l D ca ad hj a1 v1 S2 _ h5 H.size) (cwV 2 hts gX1_pushFrom_X1_meet rfl rfl rfl (by decide +kernel) ⟨Nat.le_of_ble_eq_true rfl, Nat.le_of_ble_eq_true rfl⟩) (r_preV hKK hP (show qk 25 = 1 from rfl) rfl) rfl rfl hl.1 rfl (lv_room (Nat.le_of_ble_eq_true rfl)) dX1_pushFrom_53 ⟨Nat.le_of_ble_eq_true rfl, Nat.le_of_ble_eq_true rfl⟩) (fun H locs hP hS => ?_)
              refine lv_iinc (v := (v1 + 1)) (lv' := [(2, .int (v1 + 1)), (0, .ref (ad 25)), (1, .int a1)]) hx hb dX1_pushFrom_56 hl (k := 2) rfl rfl (by decide) rfl (fun ls hl => ?_)
              refine lv_goto (tgt := 2) hx hb dX1_pushFrom_59 (by decide) ?_
              exact ih _ _ hf _ _ _ hP hS (lv_sub hl [1, 2, 0] rfl)
    exact L1 _ _ _ hf _ _ _ hP hS (lv_sub hl [1, 2, 0] rfl)
  exact main s.heap [] ls hP va_S.rf hl
def rm_X1_reckon : Room := { frames := 4, cells := 0, slots := 0, locals := 84 }
set_option maxRecDepth 100000 in
set_option maxHeartbeats 4000000 in
theorem m_X1_reckon (l : Launch) (D : va_G) (ca : Nat → ClassId) (ad : Nat → Nat) (hj : Inj ad)  (S : QS) (o : QS) (hf : f_X1_reckon S = some o) : Cv l D ca ad yX1_reckon wsX1_reckon rm_X1_reckon [.ref (ad 25)] S o := by
  intro sz
  refine Met.ofW (cc := cX1_reckon) (maxL := 2) (ret := none) (by decide) rfl ?_
  intro p e s m args below meth c s₁ B hml hv
  obtain ⟨hav, hsz, hP, hKK⟩ := hv
  have hx := B.exec
  have hb := B.bytes
  have hr := B.returns
  have hts := atoms_spec (ws := wsX1_reckon) B.pre
  have hown : s.vm.findClass RX1 = some m.cls := findClass_of_methodNamed B.named
  have hlocks := B.notSynchronized
  subst hsz
  have hX0 : ∀ w ∈ wsX00, w.before _ s = true := fun w h => hts w (List.mem_cons_of_mem _ (List.mem_append_left _ (List.mem_append_right _ h)))
  have hX1 : ∀ w ∈ wsX10, w.before _ s = true := fun w h => hts w (List.mem_cons_of_mem _ (List.mem_append_left _ (List.mem_append_left _ (List.mem_append_right _ h))))
  have hX3 : ∀ w ∈ wsX30, w.before _ s = true := fun w h => hts w (List.mem_cons_of_mem _ (List.mem_append_right _ h))
  have K12 := hts (Cond.fieldLink RX1 12 "CrashDesk$Meeting" "zero" "LCrashDesk$Car;") (List.mem_cons_of_mem _ (List.mem_append_left _ (List.mem_append_left _ (List.mem_append_left _ (List.mem_append_left _ (List.mem_of_getElem? (i := 4) rfl))))))
  have K18 := hts (Cond.fieldLink RX1 18 "CrashDesk$Meeting" "one" "LCrashDesk$Car;") (List.mem_cons_of_mem _ (List.mem_append_left _ (List.mem_append_left _ (List.mem_append_left _ (List.mem_append_left _ (List.mem_of_getElem? (i := 2) rfl))))))
  have K21 := hts (Cond.fieldLink RX1 21 "CrashDesk$Meeting" "wayCount" "J") (List.mem_cons_of_mem _ (List.mem_append_left _ (List.mem_append_left _ (List.mem_append_left _ (List.mem_append_left _ (List.mem_of_getElem? (i := 0) rfl))))))
  have K25 := hts (Cond.fieldLink RX1 25 "CrashDesk$Meeting" "cheapest" "I") (List.mem_cons_of_mem _ (List.mem_append_left _ (List.mem_append_left _ (List.mem_append_left _ (List.mem_append_left _ (List.mem_of_getElem? (i := 1) rfl))))))
  have K29 := hts (Cond.fieldLink RX1 29 "CrashDesk$Meeting" "loss" "I") (List.mem_cons_of_mem _ (List.mem_append_left _ (List.mem_append_left _ (List.mem_append_left _ (List.mem_append_left _ (List.mem_of_getElem? (i := 5) rfl))))))
  have K32 := hts (Cond.fieldLink RX1 32 "CrashDesk$Meeting" "gain" "I") (List.mem_cons_of_mem _ (List.mem_append_left _ (List.mem_append_left _ (List.mem_append_left _ (List.mem_append_left _ (List.mem_of_getElem? (i := 6) rfl))))))
  have K35 := hts (Cond.fieldLink RX1 35 "CrashDesk$Car" "mass" "I") (List.mem_cons_of_mem _ (List.mem_append_left _ (List.mem_append_left _ (List.mem_append_left _ (List.mem_append_left _ (List.mem_of_getElem? (i := 3) rfl))))))
  have K45 := hts (Cond.fieldLink RX1 45 "CrashDesk$Car" "at" "LCrashDesk$Speed;") (List.mem_cons_of_mem _ (List.mem_append_left _ (List.mem_append_left _ (List.mem_append_left _ (List.mem_append_left _ (List.mem_of_getElem? (i := 7) rfl))))))
  have K49 := hts (Cond.fieldLink RX1 49 "CrashDesk$Speed" "bottom" "I") (List.mem_cons_of_mem _ (List.mem_append_left _ (List.mem_append_left _ (List.mem_append_left _ (List.mem_append_left _ (List.mem_of_getElem? (i := 8) rfl))))))
  have K54 := hts (Cond.fieldLink RX1 54 "CrashDesk$Speed" "top" "I") (List.mem_cons_of_mem _ (List.mem_append_left _ (List.mem_append_left _ (List.mem_append_left _ (List.mem_append_left _ (List.mem_of_getElem? (i := 9) rfl))))))
  have hl := lv_entry [.ref (ad 25)] (n := 2) (Nat.le_of_ble_eq_true rfl)
  rw [show entryFrame m args 2 = entryFrame m ([.ref (ad 25)] : List Value).toArray 2 by rw [hav], lg_entry_eq]
  generalize (lg_sl [.ref (ad 25)] ++ List.replicate (2 - (lg_sl [.ref (ad 25)]).length) Slot.unset).toArray = ls at hl ⊢
  have hl : lv_has ls 2 [(0, .ref (ad 25))] := hl
  have main : ∀ (H : Heap) (locs : List Loc) (ls : Array Slot), va_P D vwCl (wd ca ad S) H → va_S (Aq ad s.heap.size) s.heap H locs → lv_has ls 2 [(0, .ref (ad 25))] → W p l e rm_X1_reckon s m args below meth c H locs 0 0 (Zv below D ca ad args s o) (F0 m 0 ls []) := by
    intro H locs ls hP hS hl
    unfold f_X1_reckon at hf
    refine lv_aload_n hx hb dX1_reckon_0 rfl (lv_at hl 0 rfl) ?_
    refine lv_lconst (v := 0) hx hb dX1_reckon_1 rfl ?_
    obtain ⟨S1, h2, hf⟩ := bd_e hf
    refine p_X1_wayCount hx hb hX1 hown hj hKK hP hS (show qk 25 = 1 from rfl) h2 K21 dX1_reckon_2 (fun H locs hP hS => ?_)
    refine lv_aload_n hx hb dX1_reckon_5 rfl (lv_at hl 0 rfl) ?_
    refine lv_iconst (v := (-1)) hx hb dX1_reckon_6 (by decide) ?_
    obtain ⟨S3, h4, hf⟩ := bd_e hf
    obtain rfl := Option.some.inj h4
    refine p_X1_cheapest hx hb hX1 hown hj hKK hP hS (show qk 25 = 1 from rfl) K25 dX1_reckon_7 (fun H locs hP hS => ?_)
    refine lv_aload_n hx hb dX1_reckon_10 rfl (lv_at hl 0 rfl) ?_
    refine lv_aload_n hx hb dX1_reckon_11 rfl (lv_at hl 0 rfl) ?_
    refine g_X1_one hx hb hX1 hown hKK hP (show qk 25 = 1 from rfl) K18 dX1_reckon_12 ?_
    refine g_X0_mass hx hb hX0 hown hKK hP (show qk 37 = 0 from rfl) K35 dX1_reckon_15 ?_
    refine lv_aload_n hx hb dX1_reckon_18 rfl (lv_at hl 0 rfl) ?_
    refine g_X1_zero hx hb hX1 hown hKK hP (show qk 25 = 1 from rfl) K12 dX1_reckon_19 ?_
    refine g_X0_mass hx hb hX0 hown hKK hP (show qk 26 = 0 from rfl) K35 dX1_reckon_22 ?_
    obtain ⟨v6, h5, hf⟩ := bd_e hf
    refine r_ci hS (va_runS (As := [.int ((setF 25 3 (-1) S1).1 37 0), .int ((setF 25 3 (-1) S1).1 26 0)]) (rest := [.ref (ad 25)]) ⟨hx, hb, hml, hown, hts⟩ (m_X1_lowestShare l D ca ad hj ((setF 25 3 (-1) S1).1 37 0) ((setF 25 3 (-1) S1).1 26 0) (setF 25 3 (-1) S1) _ h5 H.size) (cwS 2 hts gX1_reckon_X1_lowestShare rfl rfl rfl (by decide +kernel) ⟨Nat.le_of_ble_eq_true rfl, Nat.le_of_ble_eq_true rfl⟩) (r_pre hKK hP) rfl rfl hl.1 rfl (lv_room (Nat.le_of_ble_eq_true rfl)) dX1_reckon_25 ⟨Nat.le_of_ble_eq_true rfl, Nat.le_of_ble_eq_true rfl⟩) (fun H locs hP hS => ?_)
    obtain ⟨S7, h8, hf⟩ := bd_e hf
    obtain rfl := Option.some.inj h8
    refine p_X1_loss hx hb hX1 hown hj hKK hP hS (show qk 25 = 1 from rfl) K29 dX1_reckon_28 (fun H locs hP hS => ?_)
    refine lv_aload_n hx hb dX1_reckon_31 rfl (lv_at hl 0 rfl) ?_
    refine lv_aload_n hx hb dX1_reckon_32 rfl (lv_at hl 0 rfl) ?_
    refine g_X1_zero hx hb hX1 hown hKK hP (show qk 25 = 1 from rfl) K12 dX1_reckon_33 ?_
    refine g_X0_mass hx hb hX0 hown hKK hP (show qk 26 = 0 from rfl) K35 dX1_reckon_36 ?_
    refine lv_aload_n hx hb dX1_reckon_39 rfl (lv_at hl 0 rfl) ?_
    refine g_X1_one hx hb hX1 hown hKK hP (show qk 25 = 1 from rfl) K18 dX1_reckon_40 ?_
    refine g_X0_mass hx hb hX0 hown hKK hP (show qk 37 = 0 from rfl) K35 dX1_reckon_43 ?_
    obtain ⟨v10, h9, hf⟩ := bd_e hf
    refine r_ci hS (va_runS (As := [.int ((setF 25 4 v6 (setF 25 3 (-1) S1)).1 26 0), .int ((setF 25 4 v6 (setF 25 3 (-1) S1)).1 37 0)]) (rest := [.ref (ad 25)]) ⟨hx, hb, hml, hown, hts⟩ (m_X1_lowestShare l D ca ad hj ((setF 25 4 v6 (setF 25 3 (-1) S1)).1 26 0) ((setF 25 4 v6 (setF 25 3 (-1) S1)).1 37 0) (setF 25 4 v6 (setF 25 3 (-1) S1)) _ h9 H.size) (cwS 2 hts gX1_reckon_X1_lowestShare rfl rfl rfl (by decide +kernel) ⟨Nat.le_of_ble_eq_true rfl, Nat.le_of_ble_eq_true rfl⟩) (r_pre hKK hP) rfl rfl hl.1 rfl (lv_room (Nat.le_of_ble_eq_true rfl)) dX1_reckon_46 ⟨Nat.le_of_ble_eq_true rfl, Nat.le_of_ble_eq_true rfl⟩) (fun H locs hP hS => ?_)
    obtain ⟨S11, h12, hf⟩ := bd_e hf
    obtain rfl := Option.some.inj h12
    refine p_X1_gain hx hb hX1 hown hj hKK hP hS (show qk 25 = 1 from rfl) K32 dX1_reckon_49 (fun H locs hP hS => ?_)
    refine lv_aload_n hx hb dX1_reckon_52 rfl (lv_at hl 0 rfl) ?_
    refine g_X1_zero hx hb hX1 hown hKK hP (show qk 25 = 1 from rfl) K12 dX1_reckon_53 ?_
    obtain ⟨S14, h13, hf⟩ := bd_e hf
    refine r_cv hS (va_runV (As := []) (rest := []) ⟨hx, hb, hml, hown, hts⟩ (m_X0_settle l D ca ad hj 26 (show qk 26 = 0 from rfl) (setF 25 5 v10 (setF 25 4 v6 (setF 25 3 (-1) S1))) _ h13 H.size) (cwV 0 hts gX1_reckon_X0_settle rfl rfl rfl (by decide +kernel) ⟨Nat.le_of_ble_eq_true rfl, Nat.le_of_ble_eq_true rfl⟩) (r_preV hKK hP (show qk 26 = 0 from rfl) rfl) rfl rfl hl.1 rfl (lv_room (Nat.le_of_ble_eq_true rfl)) dX1_reckon_56 ⟨Nat.le_of_ble_eq_true rfl, Nat.le_of_ble_eq_true rfl⟩) (fun H locs hP hS => ?_)
    refine lv_aload_n hx hb dX1_reckon_59 rfl (lv_at hl 0 rfl) ?_
    refine g_X1_one hx hb hX1 hown hKK hP (show qk 25 = 1 from rfl) K18 dX1_reckon_60 ?_
    obtain ⟨S16, h15, hf⟩ := bd_e hf
    refine r_cv hS (va_runV (As := []) (rest := []) ⟨hx, hb, hml, hown, hts⟩ (m_X0_settle l D ca ad hj 37 (show qk 37 = 0 from rfl) S14 _ h15 H.size) (cwV 0 hts gX1_reckon_X0_settle rfl rfl rfl (by decide +kernel) ⟨Nat.le_of_ble_eq_true rfl, Nat.le_of_ble_eq_true rfl⟩) (r_preV hKK hP (show qk 37 = 0 from rfl) rfl) rfl rfl hl.1 rfl (lv_room (Nat.le_of_ble_eq_true rfl)) dX1_reckon_63 ⟨Nat.le_of_ble_eq_true rfl, Nat.le_of_ble_eq_true rfl⟩) (fun H locs hP hS => ?_)
    refine lv_aload_n hx hb dX1_reckon_66 rfl (lv_at hl 0 rfl) ?_
    refine g_X1_zero hx hb hX1 hown hKK hP (show qk 25 = 1 from rfl) K12 dX1_reckon_67 ?_
    refine g_X0_at hx hb hX0 hown hKK hP (show qk 26 = 0 from rfl) K45 dX1_reckon_70 ?_
    refine g_X3_bottom hx hb hX3 hown hKK hP (show qk 30 = 3 from rfl) K49 dX1_reckon_73 ?_
    refine lv_istore_n (lv' := [(1, .int (S16.1 30 2)), (0, .ref (ad 25))]) hx hb dX1_reckon_76 rfl hl (by decide) rfl (fun ls hl => ?_)
    obtain ⟨q19, hq19, hf⟩ := bd_e hf
    have J1 : ∀ (H : Heap) (locs : List Loc) (ls : Array Slot), va_P D vwCl (wd ca ad q19) H → va_S (Aq ad s.heap.size) s.heap H locs → lv_has ls 2 [(0, .ref (ad 25))] → W p l e rm_X1_reckon s m args below meth c H locs 0 0 (Zv below D ca ad args s o) (F0 m 116 ls []) := by
      intro H locs ls hP hS hl
      refine lv_aload_n hx hb dX1_reckon_116 rfl (lv_at hl 0 rfl) ?_
      refine g_X1_zero hx hb hX1 hown hKK hP (show qk 25 = 1 from rfl) K12 dX1_reckon_117 ?_
      obtain ⟨S25, h24, hf⟩ := bd_e hf
      refine r_cv hS (va_runV (As := []) (rest := []) ⟨hx, hb, hml, hown, hts⟩ (m_X0_seeFirsts l D ca ad hj 26 (show qk 26 = 0 from rfl) q19 _ h24 H.size) (cwV 0 hts gX1_reckon_X0_seeFirsts rfl rfl rfl (by decide +kernel) ⟨Nat.le_of_ble_eq_true rfl, Nat.le_of_ble_eq_true rfl⟩) (r_preV hKK hP (show qk 26 = 0 from rfl) rfl) rfl rfl hl.1 rfl (lv_room (Nat.le_of_ble_eq_true rfl)) dX1_reckon_120 ⟨Nat.le_of_ble_eq_true rfl, Nat.le_of_ble_eq_true rfl⟩) (fun H locs hP hS => ?_)
      refine lv_aload_n hx hb dX1_reckon_123 rfl (lv_at hl 0 rfl) ?_
      refine g_X1_one hx hb hX1 hown hKK hP (show qk 25 = 1 from rfl) K18 dX1_reckon_124 ?_
      obtain ⟨S27, h26, hf⟩ := bd_e hf
      refine r_cv hS (va_runV (As := []) (rest := []) ⟨hx, hb, hml, hown, hts⟩ (m_X0_seeFirsts l D ca ad hj 37 (show qk 37 = 0 from rfl) S25 _ h26 H.size) (cwV 0 hts gX1_reckon_X0_seeFirsts rfl rfl rfl (by decide +kernel) ⟨Nat.le_of_ble_eq_true rfl, Nat.le_of_ble_eq_true rfl⟩) (r_preV hKK hP (show qk 37 = 0 from rfl) rfl) rfl rfl hl.1 rfl (lv_room (Nat.le_of_ble_eq_true rfl)) dX1_reckon_127 ⟨Nat.le_of_ble_eq_true rfl, Nat.le_of_ble_eq_true rfl⟩) (fun H locs hP hS => ?_)
      obtain rfl := Option.some.inj hf
      exact r_vret hx hb hr hP hS dX1_reckon_130 hlocks
    replace hf := hq19
    have L1 : ∀ (fuel : Nat) (v17 : Int32) (S18 : QS), lp_X1_reckon_77 fuel v17 S18 = some q19 → ∀ (H : Heap) (locs : List Loc) (ls : Array Slot), va_P D vwCl (wd ca ad S18) H → va_S (Aq ad s.heap.size) s.heap H locs → lv_has ls 2 [(0, .ref (ad 25)), (1, .int v17)] → W p l e rm_X1_reckon s m args below meth c H locs 0 0 (Zv below D ca ad args s o) (F0 m 77 ls []) := by
      intro fuel
      induction fuel with
      | zero =>
        intro v17 S18 hf
        simp [lp_X1_reckon_77] at hf
      | succ fuel ih =>
        intro v17 S18 hf H locs ls hP hS hl
        rw [lp_X1_reckon_77] at hf
        refine lv_iload_n hx hb dX1_reckon_77 rfl (lv_at hl 1 rfl) ?_
        refine lv_aload_n hx hb dX1_reckon_78 rfl (lv_at hl 0 rfl) ?_
        refine g_X1_zero hx hb hX1 hown hKK hP (show qk 25 = 1 from rfl) K12 dX1_reckon_79 ?_
        refine g_X0_at hx hb hX0 hown hKK hP (show qk 26 = 0 from rfl) K45 dX1_reckon_82 ?_
        refine g_X3_top hx hb hX3 hown hKK hP (show qk 30 = 3 from rfl) K54 dX1_reckon_85 ?_
        refine lv_icmp_gt (tgt := 116) hx hb dX1_reckon_88 (by decide) (fun w => ?_) (fun w => ?_)
        · have hf := if_t w hf
          obtain rfl := Option.some.inj hf
          exact J1 _ _ _ hP hS (lv_sub hl [0] rfl)
        · have hf := if_f w hf
          refine lv_aload_n hx hb dX1_reckon_91 rfl (lv_at hl 0 rfl) ?_
          refine g_X1_zero hx hb hX1 hown hKK hP (show qk 25 = 1 from rfl) K12 dX1_reckon_92 ?_
          refine g_X0_at hx hb hX0 hown hKK hP (show qk 26 = 0 from rfl) K45 dX1_reckon_95 ?_
          refine lv_iload_n hx hb dX1_reckon_98 rfl (lv_at hl 1 rfl) ?_
          obtain ⟨v21, h20, hf⟩ := bd_e hf
          refine r_ci hS (va_runV (As := [.int v17]) (rest := []) ⟨hx, hb, hml, hown, hts⟩ (m_X3_isOpen l D ca ad hj 30 (show qk 30 = 3 from rfl) v17 S18 _ h20 H.size) (cwV 1 hts gX1_reckon_X3_isOpen rfl rfl rfl (by decide +kernel) ⟨Nat.le_of_ble_eq_true rfl, Nat.le_of_ble_eq_true rfl⟩) (r_preV hKK hP (show qk 30 = 3 from rfl) rfl) rfl rfl hl.1 rfl (lv_room (Nat.le_of_ble_eq_true rfl)) dX1_reckon_99 ⟨Nat.le_of_ble_eq_true rfl, Nat.le_of_ble_eq_true rfl⟩) (fun H locs hP hS => ?_)
          refine lv_if_eq (tgt := 110) hx hb dX1_reckon_102 (by decide) (fun w => ?_) (fun w => ?_)
          · have hf := if_t w hf
            refine lv_iinc (v := (v17 + 1)) (lv' := [(1, .int (v17 + 1)), (0, .ref (ad 25))]) hx hb dX1_reckon_110 hl (k := 1) rfl rfl (by decide) rfl (fun ls hl => ?_)
            refine lv_goto (tgt := 77) hx hb dX1_reckon_113 (by decide) ?_
            exact ih _ _ hf _ _ _ hP hS (lv_sub hl [1, 0] rfl)
          · have hf := if_f w hf
            refine lv_aload_n hx hb dX1_reckon_105 rfl (lv_at hl 0 rfl) ?_
            refine lv_iload_n hx hb dX1_reckon_106 rfl (lv_at hl 1 rfl) ?_
            obtain ⟨S23, h22, hf⟩ := bd_e hf
            refine r_cv hS (va_runV (As := [.int v17]) (rest := []) ⟨hx, hb, hml, hown, hts⟩ (m_X1_pushFrom l D ca ad hj v17 S18 _ h22 H.size) (cwV 1 hts gX1_reckon_X1_pushFrom rfl rfl rfl (by decide +kernel) ⟨Nat.le_of_ble_eq_true rfl, Nat.le_of_ble_eq_true rfl⟩) (r_preV hKK hP (show qk 25 = 1 from rfl) rfl) rfl rfl hl.1 rfl (lv_room (Nat.le_of_ble_eq_true rfl)) dX1_reckon_107 ⟨Nat.le_of_ble_eq_true rfl, Nat.le_of_ble_eq_true rfl⟩) (fun H locs hP hS => ?_)
            refine lv_iinc (v := (v17 + 1)) (lv' := [(1, .int (v17 + 1)), (0, .ref (ad 25))]) hx hb dX1_reckon_110 hl (k := 1) rfl rfl (by decide) rfl (fun ls hl => ?_)
            refine lv_goto (tgt := 77) hx hb dX1_reckon_113 (by decide) ?_
            exact ih _ _ hf _ _ _ hP hS (lv_sub hl [1, 0] rfl)
    exact L1 _ _ _ hf _ _ _ hP hS (lv_sub hl [1, 0] rfl)
  exact main s.heap [] ls hP va_S.rf hl
