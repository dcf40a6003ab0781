def rm_X6_goes : Room := { frames := 4, cells := 0, slots := 0, locals := 100 }
set_option maxRecDepth 100000 in
set_option maxHeartbeats 4000000 in
theorem m_X6_goes (l : Launch) (D : va_G) (ca : Nat → ClassId) (ad : Nat → Nat) (hj : Inj ad) (a1 : Int32) (a2 : Int32) (S : QS) (o : Int32 × QS) (hf : f_X6_goes a1 a2 S = some o) : Ci l D ca ad yX6_goes wsX6_goes rm_X6_goes [.ref (ad 48), .int a1, .int a2] S o.1 o.2 := by
  intro sz
  refine Met.ofW (cc := cX6_goes) (maxL := 10) (ret := (some .boolean)) (by decide) rfl ?_
  intro p e s m args below meth c s₁ B hml hv
  obtain ⟨hav, hsz, hP, hKK⟩ := hv
  have hx := B.exec
  have hb := B.bytes
  have hr := B.returns
  have hts := atoms_spec (ws := wsX6_goes) B.pre
  have hown : s.vm.findClass RX6 = some m.cls := findClass_of_methodNamed B.named
  have hlocks := B.notSynchronized
  subst hsz
  have hX6 : ∀ w ∈ wsX60, w.before _ s = true := fun w h => hts w (List.mem_cons_of_mem _ (List.mem_append_right _ h))
  have K7 := hts (Cond.fieldLink RX6 7 "CrashDeskModel" "mass" "[I") (List.mem_cons_of_mem _ (List.mem_append_left _ (List.mem_append_left _ (List.mem_of_getElem? (i := 2) rfl))))
  have K44 := hts (Cond.fieldLink RX6 44 "CrashDeskModel" "isLet" "[Z") (List.mem_cons_of_mem _ (List.mem_append_left _ (List.mem_append_left _ (List.mem_of_getElem? (i := 3) rfl))))
  have K47 := hts (Cond.fieldLink RX6 47 "CrashDeskModel" "isThere" "[Z") (List.mem_cons_of_mem _ (List.mem_append_left _ (List.mem_append_left _ (List.mem_of_getElem? (i := 4) rfl))))
  have K50 := hts (Cond.fieldLink RX6 50 "CrashDeskModel" "firsts" "[I") (List.mem_cons_of_mem _ (List.mem_append_left _ (List.mem_append_left _ (List.mem_of_getElem? (i := 1) rfl))))
  have K117 := hts (Cond.fieldLink RX6 117 "CrashDeskModel" "many" "J") (List.mem_cons_of_mem _ (List.mem_append_left _ (List.mem_append_left _ (List.mem_of_getElem? (i := 0) rfl))))
  have K121 := hts (Cond.fieldLink RX6 121 "CrashDeskModel" "wanted" "Z") (List.mem_cons_of_mem _ (List.mem_append_left _ (List.mem_append_left _ (List.mem_of_getElem? (i := 5) rfl))))
  have hl := lv_entry [.ref (ad 48), .int a1, .int a2] (n := 10) (Nat.le_of_ble_eq_true rfl)
  rw [show entryFrame m args 10 = entryFrame m ([.ref (ad 48), .int a1, .int a2] : List Value).toArray 10 by rw [hav], lg_entry_eq]
  generalize (lg_sl [.ref (ad 48), .int a1, .int a2] ++ List.replicate (10 - (lg_sl [.ref (ad 48), .int a1, .int a2]).length) Slot.unset).toArray = ls at hl ⊢
  have hl : lv_has ls 10 [(0, .ref (ad 48)), (1, .int a1), (2, .int a2)] := hl
  have main : ∀ (H : Heap) (locs : List Loc) (ls : Array Slot), va_P D vwCl (wd ca ad S) H → va_S (Aq ad s.heap.size) s.heap H locs → lv_has ls 10 [(0, .ref (ad 48)), (1, .int a1), (2, .int a2)] → W p l e rm_X6_goes s m args below meth c H locs 0 0 (Zi below D ca ad args s o.1 o.2) (F0 m 0 ls []) := by
    intro H locs ls hP hS hl
    unfold f_X6_goes at hf
    refine lv_aload_n hx hb dX6_goes_0 rfl (lv_at hl 0 rfl) ?_
    refine lv_iload_n hx hb dX6_goes_1 rfl (lv_at hl 1 rfl) ?_
    obtain ⟨S2, h1, hf⟩ := bd_e hf
    refine r_cv hS (va_runV (As := [.int a1]) (rest := []) ⟨hx, hb, hml, hown, hts⟩ (m_X6_lets l D ca ad hj a1 S _ h1 H.size) (cwV 1 hts gX6_goes_X6_lets rfl rfl rfl (by decide +kernel) ⟨Nat.le_of_ble_eq_true rfl, Nat.le_of_ble_eq_true rfl⟩) (r_preV hKK hP (show qk 48 = 6 from rfl) rfl) rfl rfl hl.1 rfl (lv_room (Nat.le_of_ble_eq_true rfl)) dX6_goes_2 ⟨Nat.le_of_ble_eq_true rfl, Nat.le_of_ble_eq_true rfl⟩) (fun H locs hP hS => ?_)
    refine lv_aload_n hx hb dX6_goes_5 rfl (lv_at hl 0 rfl) ?_
    refine lv_iload_n hx hb dX6_goes_6 rfl (lv_at hl 2 rfl) ?_
    obtain ⟨S4, h3, hf⟩ := bd_e hf
    refine r_cv hS (va_runV (As := [.int a2]) (rest := []) ⟨hx, hb, hml, hown, hts⟩ (m_X6_counts l D ca ad hj a2 S2 _ h3 H.size) (cwV 1 hts gX6_goes_X6_counts rfl rfl rfl (by decide +kernel) ⟨Nat.le_of_ble_eq_true rfl, Nat.le_of_ble_eq_true rfl⟩) (r_preV hKK hP (show qk 48 = 6 from rfl) rfl) rfl rfl hl.1 rfl (lv_room (Nat.le_of_ble_eq_true rfl)) dX6_goes_7 ⟨Nat.le_of_ble_eq_true rfl, Nat.le_of_ble_eq_true rfl⟩) (fun H locs hP hS => ?_)
    refine lv_aload_n hx hb dX6_goes_10 rfl (lv_at hl 0 rfl) ?_
    refine lv_lconst (v := 0) hx hb dX6_goes_11 rfl ?_
    obtain ⟨S5, h6, hf⟩ := bd_e hf
    refine p_X6_many hx hb hX6 hown hj hKK hP hS (show qk 48 = 6 from rfl) h6 K117 dX6_goes_12 (fun H locs hP hS => ?_)
    refine lv_bipush (v := (-50)) hx hb dX6_goes_15 (by decide) ?_
    refine lv_istore_n (lv' := [(3, .int (-50)), (0, .ref (ad 48)), (1, .int a1), (2, .int a2)]) hx hb dX6_goes_17 rfl hl (by decide) rfl (fun ls hl => ?_)
    obtain ⟨q9, hq9, hf⟩ := bd_e hf
    have J1 : ∀ (H : Heap) (locs : List Loc) (ls : Array Slot), va_P D vwCl (wd ca ad q9) H → va_S (Aq ad s.heap.size) s.heap H locs → lv_has ls 10 [(0, .ref (ad 48)), (2, .int a2)] → W p l e rm_X6_goes s m args below meth c H locs 0 0 (Zi below D ca ad args s o.1 o.2) (F0 m 334 ls []) := by
      intro H locs ls hP hS hl
      refine lv_iconst (v := 0) hx hb dX6_goes_334 (by decide) ?_
      refine lv_istore_n (lv' := [(3, .int 0), (0, .ref (ad 48)), (2, .int a2)]) hx hb dX6_goes_335 rfl hl (by decide) rfl (fun ls hl => ?_)
      obtain ⟨q72, hq72, hf⟩ := bd_e hf
      have J4 : ∀ (H : Heap) (locs : List Loc) (ls : Array Slot), va_P D vwCl (wd ca ad q72) H → va_S (Aq ad s.heap.size) s.heap H locs → lv_has ls 10 [(0, .ref (ad 48))] → W p l e rm_X6_goes s m args below meth c H locs 0 0 (Zi below D ca ad args s o.1 o.2) (F0 m 429 ls []) := by
        intro H locs ls hP hS hl
        refine lv_aload_n hx hb dX6_goes_429 rfl (lv_at hl 0 rfl) ?_
        refine g_X6_many hx hb hX6 hown hKK hP (show qk 48 = 6 from rfl) K117 dX6_goes_430 ?_
        refine lv_lconst (v := 0) hx hb dX6_goes_433 rfl ?_
        refine W.lcmp hx hb dX6_goes_434 ?_
        refine lv_if_le (tgt := 442) hx hb dX6_goes_435 (by decide) (fun w => ?_) (fun w => ?_)
        · have hf := if_t w hf
          refine lv_iconst (v := 0) hx hb dX6_goes_442 (by decide) ?_
          obtain rfl := Option.some.inj hf
          exact r_zret hx hb hr hP hS (Or.inl rfl) dX6_goes_443 hlocks
        · have hf := if_f w hf
          refine lv_iconst (v := 1) hx hb dX6_goes_438 (by decide) ?_
          refine lv_goto (tgt := 443) hx hb dX6_goes_439 (by decide) ?_
          obtain rfl := Option.some.inj hf
          exact r_zret hx hb hr hP hS (Or.inr rfl) dX6_goes_443 hlocks
      replace hf := hq72
      have L4 : ∀ (fuel : Nat) (v70 : Int32) (S71 : QS), lp_X6_goes_336 a2 fuel v70 S71 = some q72 → ∀ (H : Heap) (locs : List Loc) (ls : Array Slot), va_P D vwCl (wd ca ad S71) H → va_S (Aq ad s.heap.size) s.heap H locs → lv_has ls 10 [(0, .ref (ad 48)), (2, .int a2), (3, .int v70)] → W p l e rm_X6_goes s m args below meth c H locs 0 0 (Zi below D ca ad args s o.1 o.2) (F0 m 336 ls []) := by
        intro fuel
        induction fuel with
        | zero =>
          intro v70 S71 hf
          simp [lp_X6_goes_336] at hf
        | succ fuel ih =>
          intro v70 S71 hf H locs ls hP hS hl
          rw [lp_X6_goes_336] at hf
          refine lv_iload_n hx hb dX6_goes_336 rfl (lv_at hl 2 rfl) ?_
          refine lv_iconst (v := 2) hx hb dX6_goes_337 (by decide) ?_
          refine lv_icmp_ge (tgt := 429) hx hb dX6_goes_338 (by decide) (fun w => ?_) (fun w => ?_)
          · have hf := if_t w hf
            obtain rfl := Option.some.inj hf
            exact J4 _ _ _ hP hS (lv_sub hl [0] rfl)
          · have hf := if_f w hf
            refine lv_bipush (v := (-50)) hx hb dX6_goes_341 (by decide) ?_
            refine lv_istore (lv' := [(4, .int (-50)), (0, .ref (ad 48)), (2, .int a2), (3, .int v70)]) hx hb dX6_goes_343 hl (by decide) rfl (fun ls hl => ?_)
            obtain ⟨q75, hq75, hf⟩ := bd_e hf
            have J5 : ∀ (H : Heap) (locs : List Loc) (ls : Array Slot), va_P D vwCl (wd ca ad q75) H → va_S (Aq ad s.heap.size) s.heap H locs → lv_has ls 10 [(0, .ref (ad 48)), (2, .int a2), (3, .int v70)] → W p l e rm_X6_goes s m args below meth c H locs 0 0 (Zi below D ca ad args s o.1 o.2) (F0 m 423 ls []) := by
              intro H locs ls hP hS hl
              refine lv_iinc (v := (v70 + 1)) (lv' := [(3, .int (v70 + 1)), (0, .ref (ad 48)), (2, .int a2)]) hx hb dX6_goes_423 hl (k := 2) rfl rfl (by decide) rfl (fun ls hl => ?_)
              refine lv_goto (tgt := 336) hx hb dX6_goes_426 (by decide) ?_
              exact ih _ _ hf _ _ _ hP hS (lv_sub hl [1, 2, 0] rfl)
            replace hf := hq75
            have L5 : ∀ (fuel : Nat) (v73 : Int32) (S74 : QS), lp_X6_goes_345 a2 v70 fuel v73 S74 = some q75 → ∀ (H : Heap) (locs : List Loc) (ls : Array Slot), va_P D vwCl (wd ca ad S74) H → va_S (Aq ad s.heap.size) s.heap H locs → lv_has ls 10 [(0, .ref (ad 48)), (2, .int a2), (3, .int v70), (4, .int v73)] → W p l e rm_X6_goes s m args below meth c H locs 0 0 (Zi below D ca ad args s o.1 o.2) (F0 m 345 ls []) := by
              intro fuel
              induction fuel with
              | zero =>
                intro v73 S74 hf
                simp [lp_X6_goes_345] at hf
              | succ fuel ih =>
                intro v73 S74 hf H locs ls hP hS hl
                rw [lp_X6_goes_345] at hf
                refine lv_iload hx hb dX6_goes_345 (lv_at hl 3 rfl) ?_
                refine lv_bipush (v := 50) hx hb dX6_goes_347 (by decide) ?_
                refine lv_icmp_gt (tgt := 423) hx hb dX6_goes_349 (by decide) (fun w => ?_) (fun w => ?_)
                · have hf := if_t w hf
                  obtain rfl := Option.some.inj hf
                  exact J5 _ _ _ hP hS (lv_sub hl [0, 1, 2] rfl)
                · have hf := if_f w hf
                  refine lv_aload_n hx hb dX6_goes_352 rfl (lv_at hl 0 rfl) ?_
                  refine g_X6_isThere hx hb hX6 hown hKK hP (show qk 48 = 6 from rfl) K47 dX6_goes_353 ?_
                  refine lv_iconst (v := 3) hx hb dX6_goes_356 (by decide) ?_
                  refine lv_iload_n hx hb dX6_goes_357 rfl (lv_at hl 2 rfl) ?_
                  refine lv_imul hx hb dX6_goes_358 ?_
                  refine lv_iconst (v := 1) hx hb dX6_goes_359 (by decide) ?_
                  refine lv_iadd hx hb dX6_goes_360 ?_
                  refine lv_iload hx hb dX6_goes_361 (lv_at hl 3 rfl) ?_
                  obtain ⟨v77, h76, hf⟩ := bd_e hf
                  refine r_ci hS (va_runS (As := [.int ((3 * v70) + 1), .int v73]) (rest := [.ref (ad 61)]) ⟨hx, hb, hml, hown, hts⟩ (m_X6_cell l D ca ad hj ((3 * v70) + 1) v73 S74 _ h76 H.size) (cwS 2 hts gX6_goes_X6_cell rfl rfl rfl (by decide +kernel) ⟨Nat.le_of_ble_eq_true rfl, Nat.le_of_ble_eq_true rfl⟩) (r_pre hKK hP) rfl rfl hl.1 rfl (lv_room (Nat.le_of_ble_eq_true rfl)) dX6_goes_363 ⟨Nat.le_of_ble_eq_true rfl, Nat.le_of_ble_eq_true rfl⟩) (fun H locs hP hS => ?_)
                  obtain ⟨v78, h79, hf⟩ := bd_e hf
                  refine r_zald hx hb hKK hP (show qk 61 = 8 from rfl) (show qn 61 = 606 from rfl) h79 dX6_goes_366 ?_
                  refine lv_if_ne (tgt := 373) hx hb dX6_goes_367 (by decide) (fun w => ?_) (fun w => ?_)
                  · have hf := if_f w hf
                    refine lv_bipush (v := (-50)) hx hb dX6_goes_373 (by decide) ?_
                    refine lv_istore (lv' := [(5, .int (-50)), (0, .ref (ad 48)), (2, .int a2), (3, .int v70), (4, .int v73)]) hx hb dX6_goes_375 hl (by decide) rfl (fun ls hl => ?_)
                    obtain ⟨q82, hq82, hf⟩ := bd_e hf
                    have J6 : ∀ (H : Heap) (locs : List Loc) (ls : Array Slot), va_P D vwCl (wd ca ad q82) H → va_S (Aq ad s.heap.size) s.heap H locs → lv_has ls 10 [(0, .ref (ad 48)), (2, .int a2), (3, .int v70), (4, .int v73)] → W p l e rm_X6_goes s m args below meth c H locs 0 0 (Zi below D ca ad args s o.1 o.2) (F0 m 417 ls []) := by
                      intro H locs ls hP hS hl
                      refine lv_iinc (v := (v73 + 1)) (lv' := [(4, .int (v73 + 1)), (0, .ref (ad 48)), (2, .int a2), (3, .int v70)]) hx hb dX6_goes_417 hl (k := 3) rfl rfl (by decide) rfl (fun ls hl => ?_)
                      refine lv_goto (tgt := 345) hx hb dX6_goes_420 (by decide) ?_
                      exact ih _ _ hf _ _ _ hP hS (lv_sub hl [1, 2, 3, 0] rfl)
                    replace hf := hq82
                    have L6 : ∀ (fuel : Nat) (v80 : Int32) (S81 : QS), lp_X6_goes_377 a2 v70 v73 fuel v80 S81 = some q82 → ∀ (H : Heap) (locs : List Loc) (ls : Array Slot), va_P D vwCl (wd ca ad S81) H → va_S (Aq ad s.heap.size) s.heap H locs → lv_has ls 10 [(0, .ref (ad 48)), (2, .int a2), (3, .int v70), (4, .int v73), (5, .int v80)] → W p l e rm_X6_goes s m args below meth c H locs 0 0 (Zi below D ca ad args s o.1 o.2) (F0 m 377 ls []) := by
                      intro fuel
                      induction fuel with
                      | zero =>
                        intro v80 S81 hf
                        simp [lp_X6_goes_377] at hf
                      | succ fuel ih =>
                        intro v80 S81 hf H locs ls hP hS hl
                        rw [lp_X6_goes_377] at hf
                        refine lv_iload hx hb dX6_goes_377 (lv_at hl 4 rfl) ?_
                        refine lv_bipush (v := 50) hx hb dX6_goes_379 (by decide) ?_
                        refine lv_icmp_gt (tgt := 417) hx hb dX6_goes_381 (by decide) (fun w => ?_) (fun w => ?_)
                        · have hf := if_t w hf
                          obtain rfl := Option.some.inj hf
                          exact J6 _ _ _ hP hS (lv_sub hl [0, 1, 2, 3] rfl)
                        · have hf := if_f w hf
                          refine lv_aload_n hx hb dX6_goes_384 rfl (lv_at hl 0 rfl) ?_
                          refine lv_iload_n hx hb dX6_goes_385 rfl (lv_at hl 2 rfl) ?_
                          refine lv_iload hx hb dX6_goes_386 (lv_at hl 4 rfl) ?_
                          refine lv_iload hx hb dX6_goes_388 (lv_at hl 3 rfl) ?_
                          refine lv_iload_n hx hb dX6_goes_390 rfl (lv_at hl 1 rfl) ?_
                          obtain ⟨v84, h83, hf⟩ := bd_e hf
                          refine r_ci hS (va_runV (As := [.int v70, .int v80, .int v73, .int a2]) (rest := []) ⟨hx, hb, hml, hown, hts⟩ (m_X6_isFirst l D ca ad hj v70 v80 v73 a2 S81 _ h83 H.size) (cwV 4 hts gX6_goes_X6_isFirst rfl rfl rfl (by decide +kernel) ⟨Nat.le_of_ble_eq_true rfl, Nat.le_of_ble_eq_true rfl⟩) (r_preV hKK hP (show qk 48 = 6 from rfl) rfl) rfl rfl hl.1 rfl (lv_room (Nat.le_of_ble_eq_true rfl)) dX6_goes_391 ⟨Nat.le_of_ble_eq_true rfl, Nat.le_of_ble_eq_true rfl⟩) (fun H locs hP hS => ?_)
                          refine lv_if_eq (tgt := 411) hx hb dX6_goes_394 (by decide) (fun w => ?_) (fun w => ?_)
                          · have hf := if_t w hf
                            refine lv_iinc (v := (v80 + 1)) (lv' := [(5, .int (v80 + 1)), (0, .ref (ad 48)), (2, .int a2), (3, .int v70), (4, .int v73)]) hx hb dX6_goes_411 hl (k := 4) rfl rfl (by decide) rfl (fun ls hl => ?_)
                            refine lv_goto (tgt := 377) hx hb dX6_goes_414 (by decide) ?_
                            exact ih _ _ hf _ _ _ hP hS (lv_sub hl [1, 2, 3, 4, 0] rfl)
                          · have hf := if_f w hf
                            refine lv_aload_n hx hb dX6_goes_397 rfl (lv_at hl 0 rfl) ?_
                            refine g_X6_isThere hx hb hX6 hown hKK hP (show qk 48 = 6 from rfl) K47 dX6_goes_398 ?_
                            refine lv_iconst (v := 3) hx hb dX6_goes_401 (by decide) ?_
                            refine lv_iload_n hx hb dX6_goes_402 rfl (lv_at hl 2 rfl) ?_
                            refine lv_imul hx hb dX6_goes_403 ?_
                            refine lv_iload hx hb dX6_goes_404 (lv_at hl 4 rfl) ?_
                            obtain ⟨v86, h85, hf⟩ := bd_e hf
                            refine r_ci hS (va_runS (As := [.int (3 * v70), .int v80]) (rest := [.ref (ad 61)]) ⟨hx, hb, hml, hown, hts⟩ (m_X6_cell l D ca ad hj (3 * v70) v80 S81 _ h85 H.size) (cwS 2 hts gX6_goes_X6_cell rfl rfl rfl (by decide +kernel) ⟨Nat.le_of_ble_eq_true rfl, Nat.le_of_ble_eq_true rfl⟩) (r_pre hKK hP) rfl rfl hl.1 rfl (lv_room (Nat.le_of_ble_eq_true rfl)) dX6_goes_406 ⟨Nat.le_of_ble_eq_true rfl, Nat.le_of_ble_eq_true rfl⟩) (fun H locs hP hS => ?_)
                            refine lv_iconst (v := 1) hx hb dX6_goes_409 (by decide) ?_
                            obtain ⟨S87, h88, hf⟩ := bd_e hf
                            refine r_zast hx hb hj hKK hP hS (show qk 61 = 8 from rfl) (show qn 61 = 606 from rfl) h88 dX6_goes_410 (fun H locs hP hS => ?_)
                            refine lv_iinc (v := (v80 + 1)) (lv' := [(5, .int (v80 + 1)), (0, .ref (ad 48)), (2, .int a2), (3, .int v70), (4, .int v73)]) hx hb dX6_goes_411 hl (k := 4) rfl rfl (by decide) rfl (fun ls hl => ?_)
                            refine lv_goto (tgt := 377) hx hb dX6_goes_414 (by decide) ?_
                            exact ih _ _ hf _ _ _ hP hS (lv_sub hl [1, 2, 3, 4, 0] rfl)
                    exact L6 _ _ _ hf _ _ _ hP hS (lv_sub hl [1, 2, 3, 4, 0] rfl)
                  · have hf := if_t w hf
                    refine lv_goto (tgt := 417) hx hb dX6_goes_370 (by decide) ?_
                    refine lv_iinc (v := (v73 + 1)) (lv' := [(4, .int (v73 + 1)), (0, .ref (ad 48)), (2, .int a2), (3, .int v70)]) hx hb dX6_goes_417 hl (k := 3) rfl rfl (by decide) rfl (fun ls hl => ?_)
                    refine lv_goto (tgt := 345) hx hb dX6_goes_420 (by decide) ?_
                    exact ih _ _ hf _ _ _ hP hS (lv_sub hl [1, 2, 3, 0] rfl)
            exact L5 _ _ _ hf _ _ _ hP hS (lv_sub hl [1, 2, 3, 0] rfl)
      exact L4 _ _ _ hf _ _ _ hP hS (lv_sub hl [1, 2, 0] rfl)
    replace hf := hq9
    have L1 : ∀ (fuel : Nat) (v7 : Int32) (S8 : QS), lp_X6_goes_18 fuel v7 S8 = some q9 → ∀ (H : Heap) (locs : List Loc) (ls : Array Slot), va_P D vwCl (wd ca ad S8) H → va_S (Aq ad s.heap.size) s.heap H locs → lv_has ls 10 [(0, .ref (ad 48)), (2, .int a2), (3, .int v7)] → W p l e rm_X6_goes s m args below meth c H locs 0 0 (Zi below D ca ad args s o.1 o.2) (F0 m 18 ls []) := by
      intro fuel
      induction fuel with
      | zero =>
        intro v7 S8 hf
        simp [lp_X6_goes_18] at hf
      | succ fuel ih =>
        intro v7 S8 hf H locs ls hP hS hl
        rw [lp_X6_goes_18] at hf
        refine lv_iload_n hx hb dX6_goes_18 rfl (lv_at hl 2 rfl) ?_
        refine lv_bipush (v := 50) hx hb dX6_goes_19 (by decide) ?_
        refine lv_icmp_gt (tgt := 334) hx hb dX6_goes_21 (by decide) (fun w => ?_) (fun w => ?_)
        · have hf := if_t w hf
          obtain rfl := Option.some.inj hf
          exact J1 _ _ _ hP hS (lv_sub hl [0, 1] rfl)
        · have hf := if_f w hf
          refine lv_bipush (v := (-50)) hx hb dX6_goes_24 (by decide) ?_
          refine lv_istore (lv' := [(4, .int (-50)), (0, .ref (ad 48)), (2, .int a2), (3, .int v7)]) hx hb dX6_goes_26 hl (by decide) rfl (fun ls hl => ?_)
          obtain ⟨q12, hq12, hf⟩ := bd_e hf
          have J2 : ∀ (H : Heap) (locs : List Loc) (ls : Array Slot), va_P D vwCl (wd ca ad q12) H → va_S (Aq ad s.heap.size) s.heap H locs → lv_has ls 10 [(0, .ref (ad 48)), (2, .int a2), (3, .int v7)] → W p l e rm_X6_goes s m args below meth c H locs 0 0 (Zi below D ca ad args s o.1 o.2) (F0 m 328 ls []) := by
            intro H locs ls hP hS hl
            refine lv_iinc (v := (v7 + 1)) (lv' := [(3, .int (v7 + 1)), (0, .ref (ad 48)), (2, .int a2)]) hx hb dX6_goes_328 hl (k := 2) rfl rfl (by decide) rfl (fun ls hl => ?_)
            refine lv_goto (tgt := 18) hx hb dX6_goes_331 (by decide) ?_
            exact ih _ _ hf _ _ _ hP hS (lv_sub hl [1, 2, 0] rfl)
          replace hf := hq12
          have L2 : ∀ (fuel : Nat) (v10 : Int32) (S11 : QS), lp_X6_goes_28 v7 fuel v10 S11 = some q12 → ∀ (H : Heap) (locs : List Loc) (ls : Array Slot), va_P D vwCl (wd ca ad S11) H → va_S (Aq ad s.heap.size) s.heap H locs → lv_has ls 10 [(0, .ref (ad 48)), (2, .int a2), (3, .int v7), (4, .int v10)] → W p l e rm_X6_goes s m args below meth c H locs 0 0 (Zi below D ca ad args s o.1 o.2) (F0 m 28 ls []) := by
            intro fuel
            induction fuel with
            | zero =>
              intro v10 S11 hf
              simp [lp_X6_goes_28] at hf
            | succ fuel ih =>
              intro v10 S11 hf H locs ls hP hS hl
              rw [lp_X6_goes_28] at hf
              refine lv_iload hx hb dX6_goes_28 (lv_at hl 3 rfl) ?_
              refine lv_iload_n hx hb dX6_goes_30 rfl (lv_at hl 2 rfl) ?_
              refine lv_icmp_ge (tgt := 328) hx hb dX6_goes_31 (by decide) (fun w => ?_) (fun w => ?_)
              · have hf := if_t w hf
                obtain rfl := Option.some.inj hf
                exact J2 _ _ _ hP hS (lv_sub hl [0, 1, 2] rfl)
              · have hf := if_f w hf
                refine lv_aload_n hx hb dX6_goes_34 rfl (lv_at hl 0 rfl) ?_
                refine g_X6_firsts hx hb hX6 hown hKK hP (show qk 48 = 6 from rfl) K50 dX6_goes_35 ?_
                refine lv_iload_n hx hb dX6_goes_38 rfl (lv_at hl 2 rfl) ?_
                refine lv_bipush (v := 50) hx hb dX6_goes_39 (by decide) ?_
                refine lv_iadd hx hb dX6_goes_41 ?_
                obtain ⟨v13, h14, hf⟩ := bd_e hf
                refine r_iald hx hb hKK hP (show qk 62 = 7 from rfl) (show qn 62 = 202 from rfl) h14 dX6_goes_42 ?_
                refine lv_i2l (v := v13.toInt64) hx hb dX6_goes_43 rfl ?_
                refine lv_aload_n hx hb dX6_goes_44 rfl (lv_at hl 0 rfl) ?_
                refine g_X6_firsts hx hb hX6 hown hKK hP (show qk 48 = 6 from rfl) K50 dX6_goes_45 ?_
                refine lv_bipush (v := 101) hx hb dX6_goes_48 (by decide) ?_
                refine lv_iload hx hb dX6_goes_50 (lv_at hl 3 rfl) ?_
                refine lv_iadd hx hb dX6_goes_52 ?_
                refine lv_bipush (v := 50) hx hb dX6_goes_53 (by decide) ?_
                refine lv_iadd hx hb dX6_goes_55 ?_
                obtain ⟨v15, h16, hf⟩ := bd_e hf
                refine r_iald hx hb hKK hP (show qk 62 = 7 from rfl) (show qn 62 = 202 from rfl) h16 dX6_goes_56 ?_
                refine lv_i2l (v := v15.toInt64) hx hb dX6_goes_57 rfl ?_
                refine lv_lmul hx hb dX6_goes_58 ?_
                refine lv_lstore (lv' := [(5, .long (v13.toInt64 * v15.toInt64)), (0, .ref (ad 48)), (2, .int a2), (3, .int v7), (4, .int v10)]) hx hb dX6_goes_59 hl (by decide) rfl (fun ls hl => ?_)
                refine lv_lload hx hb dX6_goes_61 (lv_at hl 0 rfl) ?_
                refine lv_lconst (v := 0) hx hb dX6_goes_63 rfl ?_
                refine W.lcmp hx hb dX6_goes_64 ?_
                refine lv_if_ne (tgt := 71) hx hb dX6_goes_65 (by decide) (fun w => ?_) (fun w => ?_)
                · have hf := if_f w hf
                  refine lv_bipush (v := (-50)) hx hb dX6_goes_71 (by decide) ?_
                  refine lv_istore (lv' := [(7, .int (-50)), (5, .long (v13.toInt64 * v15.toInt64)), (0, .ref (ad 48)), (2, .int a2), (3, .int v7), (4, .int v10)]) hx hb dX6_goes_73 hl (by decide) rfl (fun ls hl => ?_)
                  obtain ⟨q19, hq19, hf⟩ := bd_e hf
                  have J3 : ∀ (H : Heap) (locs : List Loc) (ls : Array Slot), va_P D vwCl (wd ca ad q19) H → va_S (Aq ad s.heap.size) s.heap H locs → lv_has ls 10 [(0, .ref (ad 48)), (2, .int a2), (3, .int v7), (4, .int v10)] → W p l e rm_X6_goes s m args below meth c H locs 0 0 (Zi below D ca ad args s o.1 o.2) (F0 m 322 ls []) := by
                    intro H locs ls hP hS hl
                    refine lv_iinc (v := (v10 + 1)) (lv' := [(4, .int (v10 + 1)), (0, .ref (ad 48)), (2, .int a2), (3, .int v7)]) hx hb dX6_goes_322 hl (k := 3) rfl rfl (by decide) rfl (fun ls hl => ?_)
                    refine lv_goto (tgt := 28) hx hb dX6_goes_325 (by decide) ?_
                    exact ih _ _ hf _ _ _ hP hS (lv_sub hl [1, 2, 3, 0] rfl)
                  replace hf := hq19
                  have L3 : ∀ (fuel : Nat) (v17 : Int32) (S18 : QS), lp_X6_goes_75 v7 v10 v13 v15 fuel v17 S18 = some q19 → ∀ (H : Heap) (locs : List Loc) (ls : Array Slot), va_P D vwCl (wd ca ad S18) H → va_S (Aq ad s.heap.size) s.heap H locs → lv_has ls 10 [(0, .ref (ad 48)), (2, .int a2), (3, .int v7), (4, .int v10), (5, .long (v13.toInt64 * v15.toInt64)), (7, .int v17)] → W p l e rm_X6_goes s m args below meth c H locs 0 0 (Zi below D ca ad args s o.1 o.2) (F0 m 75 ls []) := by
                    intro fuel
                    induction fuel with
                    | zero =>
                      intro v17 S18 hf
                      simp [lp_X6_goes_75] at hf
                    | succ fuel ih =>
                      intro v17 S18 hf H locs ls hP hS hl
                      rw [lp_X6_goes_75] at hf
                      refine lv_iload hx hb dX6_goes_75 (lv_at hl 5 rfl) ?_
                      refine lv_bipush (v := 50) hx hb dX6_goes_77 (by decide) ?_
                      refine lv_icmp_gt (tgt := 322) hx hb dX6_goes_79 (by decide) (fun w => ?_) (fun w => ?_)
                      · have hf := if_t w hf
                        obtain rfl := Option.some.inj hf
                        exact J3 _ _ _ hP hS (lv_sub hl [0, 1, 2, 3] rfl)
                      · have hf := if_f w hf
                        refine lv_aload_n hx hb dX6_goes_82 rfl (lv_at hl 0 rfl) ?_
                        refine g_X6_mass hx hb hX6 hown hKK hP (show qk 48 = 6 from rfl) K7 dX6_goes_83 ?_
                        refine lv_iconst (v := 0) hx hb dX6_goes_86 (by decide) ?_
                        obtain ⟨v20, h21, hf⟩ := bd_e hf
                        refine r_iald hx hb hKK hP (show qk 49 = 7 from rfl) (show qn 49 = 2 from rfl) h21 dX6_goes_87 ?_
                        refine lv_iload_n hx hb dX6_goes_88 rfl (lv_at hl 2 rfl) ?_
                        refine lv_iload hx hb dX6_goes_89 (lv_at hl 5 rfl) ?_
                        refine lv_isub hx hb dX6_goes_91 ?_
                        refine lv_imul hx hb dX6_goes_92 ?_
                        refine lv_aload_n hx hb dX6_goes_93 rfl (lv_at hl 0 rfl) ?_
                        refine g_X6_mass hx hb hX6 hown hKK hP (show qk 48 = 6 from rfl) K7 dX6_goes_94 ?_
                        refine lv_iconst (v := 1) hx hb dX6_goes_97 (by decide) ?_
                        obtain ⟨v22, h23, hf⟩ := bd_e hf
                        refine r_iald hx hb hKK hP (show qk 49 = 7 from rfl) (show qn 49 = 2 from rfl) h23 dX6_goes_98 ?_
                        refine lv_iload hx hb dX6_goes_99 (lv_at hl 3 rfl) ?_
                        refine lv_imul hx hb dX6_goes_101 ?_
                        refine lv_iadd hx hb dX6_goes_102 ?_
                        refine lv_istore (lv' := [(8, .int ((v20 * (v7 - v17)) + (v22 * v10))), (0, .ref (ad 48)), (2, .int a2), (3, .int v7), (4, .int v10), (5, .long (v13.toInt64 * v15.toInt64)), (7, .int v17)]) hx hb dX6_goes_103 hl (by decide) rfl (fun ls hl => ?_)
                        refine lv_iload hx hb dX6_goes_105 (lv_at hl 0 rfl) ?_
                        refine lv_aload_n hx hb dX6_goes_107 rfl (lv_at hl 1 rfl) ?_
                        refine g_X6_mass hx hb hX6 hown hKK hP (show qk 48 = 6 from rfl) K7 dX6_goes_108 ?_
                        refine lv_iconst (v := 1) hx hb dX6_goes_111 (by decide) ?_
                        obtain ⟨v24, h25, hf⟩ := bd_e hf
                        refine r_iald hx hb hKK hP (show qk 49 = 7 from rfl) (show qn 49 = 2 from rfl) h25 dX6_goes_112 ?_
                        obtain ⟨v26, h69, hf⟩ := bd_e hf
                        obtain ⟨h69z, h69e⟩ := q_dv h69
                        refine lv_idiv hx hb dX6_goes_113 h69z ?_
                        rw [← h69e]
                        refine lv_istore (lv' := [(9, .int v26), (8, .int ((v20 * (v7 - v17)) + (v22 * v10))), (0, .ref (ad 48)), (2, .int a2), (3, .int v7), (4, .int v10), (5, .long (v13.toInt64 * v15.toInt64)), (7, .int v17)]) hx hb dX6_goes_114 hl (by decide) rfl (fun ls hl => ?_)
                        refine lv_iload hx hb dX6_goes_116 (lv_at hl 0 rfl) ?_
                        refine lv_aload_n hx hb dX6_goes_118 rfl (lv_at hl 2 rfl) ?_
                        refine g_X6_mass hx hb hX6 hown hKK hP (show qk 48 = 6 from rfl) K7 dX6_goes_119 ?_
                        refine lv_iconst (v := 1) hx hb dX6_goes_122 (by decide) ?_
                        obtain ⟨v27, h28, hf⟩ := bd_e hf
                        refine r_iald hx hb hKK hP (show qk 49 = 7 from rfl) (show qn 49 = 2 from rfl) h28 dX6_goes_123 ?_
                        refine lv_imul hx hb dX6_goes_124 ?_
                        refine lv_iload hx hb dX6_goes_125 (lv_at hl 1 rfl) ?_
                        refine lv_icmp_ne (tgt := 316) hx hb dX6_goes_127 (by decide) (fun w => ?_) (fun w => ?_)
                        · have hf := if_f w hf
                          refine lv_iinc (v := (v17 + 1)) (lv' := [(7, .int (v17 + 1)), (9, .int v26), (8, .int ((v20 * (v7 - v17)) + (v22 * v10))), (0, .ref (ad 48)), (2, .int a2), (3, .int v7), (4, .int v10), (5, .long (v13.toInt64 * v15.toInt64))]) hx hb dX6_goes_316 hl (k := 7) rfl rfl (by decide) rfl (fun ls hl => ?_)
                          refine lv_goto (tgt := 75) hx hb dX6_goes_319 (by decide) ?_
                          exact ih _ _ hf _ _ _ hP hS (lv_sub hl [3, 4, 5, 6, 7, 0] rfl)
                        · have hf := if_t w hf
                          refine lv_iload hx hb dX6_goes_130 (lv_at hl 0 rfl) ?_
                          refine lv_iload hx hb dX6_goes_132 (lv_at hl 7 rfl) ?_
                          refine lv_icmp_lt (tgt := 316) hx hb dX6_goes_134 (by decide) (fun w => ?_) (fun w => ?_)
                          · have hf := if_t w hf
                            refine lv_iinc (v := (v17 + 1)) (lv' := [(7, .int (v17 + 1)), (9, .int v26), (8, .int ((v20 * (v7 - v17)) + (v22 * v10))), (0, .ref (ad 48)), (2, .int a2), (3, .int v7), (4, .int v10), (5, .long (v13.toInt64 * v15.toInt64))]) hx hb dX6_goes_316 hl (k := 7) rfl rfl (by decide) rfl (fun ls hl => ?_)
                            refine lv_goto (tgt := 75) hx hb dX6_goes_319 (by decide) ?_
                            exact ih _ _ hf _ _ _ hP hS (lv_sub hl [3, 4, 5, 6, 7, 0] rfl)
                          · have hf := if_f w hf
                            refine lv_iload hx hb dX6_goes_137 (lv_at hl 0 rfl) ?_
                            refine lv_bipush (v := 50) hx hb dX6_goes_139 (by decide) ?_
                            refine lv_icmp_gt (tgt := 316) hx hb dX6_goes_141 (by decide) (fun w => ?_) (fun w => ?_)
                            · have hf := if_t w hf
                              refine lv_iinc (v := (v17 + 1)) (lv' := [(7, .int (v17 + 1)), (9, .int v26), (8, .int ((v20 * (v7 - v17)) + (v22 * v10))), (0, .ref (ad 48)), (2, .int a2), (3, .int v7), (4, .int v10), (5, .long (v13.toInt64 * v15.toInt64))]) hx hb dX6_goes_316 hl (k := 7) rfl rfl (by decide) rfl (fun ls hl => ?_)
                              refine lv_goto (tgt := 75) hx hb dX6_goes_319 (by decide) ?_
                              exact ih _ _ hf _ _ _ hP hS (lv_sub hl [3, 4, 5, 6, 7, 0] rfl)
                            · have hf := if_f w hf
                              refine lv_aload_n hx hb dX6_goes_144 rfl (lv_at hl 2 rfl) ?_
                              refine g_X6_isLet hx hb hX6 hown hKK hP (show qk 48 = 6 from rfl) K44 dX6_goes_145 ?_
                              refine lv_iconst (v := 2) hx hb dX6_goes_148 (by decide) ?_
                              refine lv_iload hx hb dX6_goes_149 (lv_at hl 7 rfl) ?_
                              obtain ⟨v30, h29, hf⟩ := bd_e hf
                              refine r_ci hS (va_runS (As := [.int 2, .int v17]) (rest := [.ref (ad 60)]) ⟨hx, hb, hml, hown, hts⟩ (m_X6_cell l D ca ad hj 2 v17 S18 _ h29 H.size) (cwS 2 hts gX6_goes_X6_cell rfl rfl rfl (by decide +kernel) ⟨Nat.le_of_ble_eq_true rfl, Nat.le_of_ble_eq_true rfl⟩) (r_pre hKK hP) rfl rfl hl.1 rfl (lv_room (Nat.le_of_ble_eq_true rfl)) dX6_goes_151 ⟨Nat.le_of_ble_eq_true rfl, Nat.le_of_ble_eq_true rfl⟩) (fun H locs hP hS => ?_)
                              obtain ⟨v31, h32, hf⟩ := bd_e hf
                              refine r_zald hx hb hKK hP (show qk 60 = 8 from rfl) (show qn 60 = 606 from rfl) h32 dX6_goes_154 ?_
                              refine lv_if_eq (tgt := 316) hx hb dX6_goes_155 (by decide) (fun w => ?_) (fun w => ?_)
                              · have hf := if_t w hf
                                refine lv_iinc (v := (v17 + 1)) (lv' := [(7, .int (v17 + 1)), (9, .int v26), (8, .int ((v20 * (v7 - v17)) + (v22 * v10))), (0, .ref (ad 48)), (2, .int a2), (3, .int v7), (4, .int v10), (5, .long (v13.toInt64 * v15.toInt64))]) hx hb dX6_goes_316 hl (k := 7) rfl rfl (by decide) rfl (fun ls hl => ?_)
                                refine lv_goto (tgt := 75) hx hb dX6_goes_319 (by decide) ?_
                                exact ih _ _ hf _ _ _ hP hS (lv_sub hl [3, 4, 5, 6, 7, 0] rfl)
                              · have hf := if_f w hf
                                refine lv_aload_n hx hb dX6_goes_158 rfl (lv_at hl 2 rfl) ?_
                                refine g_X6_isLet hx hb hX6 hown hKK hP (show qk 48 = 6 from rfl) K44 dX6_goes_159 ?_
                                refine lv_iconst (v := 5) hx hb dX6_goes_162 (by decide) ?_
                                refine lv_iload hx hb dX6_goes_163 (lv_at hl 0 rfl) ?_
                                obtain ⟨v34, h33, hf⟩ := bd_e hf
                                refine r_ci hS (va_runS (As := [.int 5, .int v26]) (rest := [.ref (ad 60)]) ⟨hx, hb, hml, hown, hts⟩ (m_X6_cell l D ca ad hj 5 v26 S18 _ h33 H.size) (cwS 2 hts gX6_goes_X6_cell rfl rfl rfl (by decide +kernel) ⟨Nat.le_of_ble_eq_true rfl, Nat.le_of_ble_eq_true rfl⟩) (r_pre hKK hP) rfl rfl hl.1 rfl (lv_room (Nat.le_of_ble_eq_true rfl)) dX6_goes_165 ⟨Nat.le_of_ble_eq_true rfl, Nat.le_of_ble_eq_true rfl⟩) (fun H locs hP hS => ?_)
                                obtain ⟨v35, h36, hf⟩ := bd_e hf
                                refine r_zald hx hb hKK hP (show qk 60 = 8 from rfl) (show qn 60 = 606 from rfl) h36 dX6_goes_168 ?_
                                refine lv_if_ne (tgt := 175) hx hb dX6_goes_169 (by decide) (fun w => ?_) (fun w => ?_)
                                · have hf := if_f w hf
                                  refine lv_aload_n hx hb dX6_goes_175 rfl (lv_at hl 2 rfl) ?_
                                  refine g_X6_mass hx hb hX6 hown hKK hP (show qk 48 = 6 from rfl) K7 dX6_goes_176 ?_
                                  refine lv_iconst (v := 0) hx hb dX6_goes_179 (by decide) ?_
                                  obtain ⟨v37, h38, hf⟩ := bd_e hf
                                  refine r_iald hx hb hKK hP (show qk 49 = 7 from rfl) (show qn 49 = 2 from rfl) h38 dX6_goes_180 ?_
                                  refine lv_iload_n hx hb dX6_goes_181 rfl (lv_at hl 4 rfl) ?_
                                  refine lv_imul hx hb dX6_goes_182 ?_
                                  refine lv_iload_n hx hb dX6_goes_183 rfl (lv_at hl 4 rfl) ?_
                                  refine lv_imul hx hb dX6_goes_184 ?_
                                  refine lv_aload_n hx hb dX6_goes_185 rfl (lv_at hl 2 rfl) ?_
                                  refine g_X6_mass hx hb hX6 hown hKK hP (show qk 48 = 6 from rfl) K7 dX6_goes_186 ?_
                                  refine lv_iconst (v := 1) hx hb dX6_goes_189 (by decide) ?_
                                  obtain ⟨v39, h40, hf⟩ := bd_e hf
                                  refine r_iald hx hb hKK hP (show qk 49 = 7 from rfl) (show qn 49 = 2 from rfl) h40 dX6_goes_190 ?_
                                  refine lv_iload hx hb dX6_goes_191 (lv_at hl 5 rfl) ?_
                                  refine lv_imul hx hb dX6_goes_193 ?_
                                  refine lv_iload hx hb dX6_goes_194 (lv_at hl 5 rfl) ?_
                                  refine lv_imul hx hb dX6_goes_196 ?_
                                  refine lv_iadd hx hb dX6_goes_197 ?_
                                  refine lv_aload_n hx hb dX6_goes_198 rfl (lv_at hl 2 rfl) ?_
                                  refine g_X6_mass hx hb hX6 hown hKK hP (show qk 48 = 6 from rfl) K7 dX6_goes_199 ?_
                                  refine lv_iconst (v := 0) hx hb dX6_goes_202 (by decide) ?_
                                  obtain ⟨v41, h42, hf⟩ := bd_e hf
                                  refine r_iald hx hb hKK hP (show qk 49 = 7 from rfl) (show qn 49 = 2 from rfl) h42 dX6_goes_203 ?_
                                  refine lv_iload hx hb dX6_goes_204 (lv_at hl 7 rfl) ?_
                                  refine lv_imul hx hb dX6_goes_206 ?_
                                  refine lv_iload hx hb dX6_goes_207 (lv_at hl 7 rfl) ?_
                                  refine lv_imul hx hb dX6_goes_209 ?_
                                  refine lv_aload_n hx hb dX6_goes_210 rfl (lv_at hl 2 rfl) ?_
                                  refine g_X6_mass hx hb hX6 hown hKK hP (show qk 48 = 6 from rfl) K7 dX6_goes_211 ?_
                                  refine lv_iconst (v := 1) hx hb dX6_goes_214 (by decide) ?_
                                  obtain ⟨v43, h44, hf⟩ := bd_e hf
                                  refine r_iald hx hb hKK hP (show qk 49 = 7 from rfl) (show qn 49 = 2 from rfl) h44 dX6_goes_215 ?_
                                  refine lv_iload hx hb dX6_goes_216 (lv_at hl 0 rfl) ?_
                                  refine lv_imul hx hb dX6_goes_218 ?_
                                  refine lv_iload hx hb dX6_goes_219 (lv_at hl 0 rfl) ?_
                                  refine lv_imul hx hb dX6_goes_221 ?_
                                  refine lv_iadd hx hb dX6_goes_222 ?_
                                  refine lv_icmp_ge (tgt := 229) hx hb dX6_goes_223 (by decide) (fun w => ?_) (fun w => ?_)
                                  · have hf := if_t w hf
                                    refine lv_aload_n hx hb dX6_goes_229 rfl (lv_at hl 2 rfl) ?_
                                    refine lv_dup hx hb dX6_goes_230 rfl ?_
                                    refine g_X6_many hx hb hX6 hown hKK hP (show qk 48 = 6 from rfl) K117 dX6_goes_231 ?_
                                    refine lv_lload hx hb dX6_goes_234 (lv_at hl 6 rfl) ?_
                                    refine lv_ladd hx hb dX6_goes_236 ?_
                                    obtain ⟨S45, h46, hf⟩ := bd_e hf
                                    refine p_X6_many hx hb hX6 hown hj hKK hP hS (show qk 48 = 6 from rfl) h46 K117 dX6_goes_237 (fun H locs hP hS => ?_)
                                    refine lv_aload_n hx hb dX6_goes_240 rfl (lv_at hl 2 rfl) ?_
                                    refine g_X6_isThere hx hb hX6 hown hKK hP (show qk 48 = 6 from rfl) K47 dX6_goes_241 ?_
                                    refine lv_iconst (v := 1) hx hb dX6_goes_244 (by decide) ?_
                                    refine lv_iload_n hx hb dX6_goes_245 rfl (lv_at hl 4 rfl) ?_
                                    obtain ⟨v48, h47, hf⟩ := bd_e hf
                                    refine r_ci hS (va_runS (As := [.int 1, .int v7]) (rest := [.ref (ad 61)]) ⟨hx, hb, hml, hown, hts⟩ (m_X6_cell l D ca ad hj 1 v7 S45 _ h47 H.size) (cwS 2 hts gX6_goes_X6_cell rfl rfl rfl (by decide +kernel) ⟨Nat.le_of_ble_eq_true rfl, Nat.le_of_ble_eq_true rfl⟩) (r_pre hKK hP) rfl rfl hl.1 rfl (lv_room (Nat.le_of_ble_eq_true rfl)) dX6_goes_246 ⟨Nat.le_of_ble_eq_true rfl, Nat.le_of_ble_eq_true rfl⟩) (fun H locs hP hS => ?_)
                                    refine lv_iconst (v := 1) hx hb dX6_goes_249 (by decide) ?_
                                    obtain ⟨S49, h50, hf⟩ := bd_e hf
                                    refine r_zast hx hb hj hKK hP hS (show qk 61 = 8 from rfl) (show qn 61 = 606 from rfl) h50 dX6_goes_250 (fun H locs hP hS => ?_)
                                    refine lv_aload_n hx hb dX6_goes_251 rfl (lv_at hl 2 rfl) ?_
                                    refine g_X6_isThere hx hb hX6 hown hKK hP (show qk 48 = 6 from rfl) K47 dX6_goes_252 ?_
                                    refine lv_iconst (v := 4) hx hb dX6_goes_255 (by decide) ?_
                                    refine lv_iload hx hb dX6_goes_256 (lv_at hl 5 rfl) ?_
                                    obtain ⟨v52, h51, hf⟩ := bd_e hf
                                    refine r_ci hS (va_runS (As := [.int 4, .int v10]) (rest := [.ref (ad 61)]) ⟨hx, hb, hml, hown, hts⟩ (m_X6_cell l D ca ad hj 4 v10 S49 _ h51 H.size) (cwS 2 hts gX6_goes_X6_cell rfl rfl rfl (by decide +kernel) ⟨Nat.le_of_ble_eq_true rfl, Nat.le_of_ble_eq_true rfl⟩) (r_pre hKK hP) rfl rfl hl.1 rfl (lv_room (Nat.le_of_ble_eq_true rfl)) dX6_goes_258 ⟨Nat.le_of_ble_eq_true rfl, Nat.le_of_ble_eq_true rfl⟩) (fun H locs hP hS => ?_)
                                    refine lv_iconst (v := 1) hx hb dX6_goes_261 (by decide) ?_
                                    obtain ⟨S53, h54, hf⟩ := bd_e hf
                                    refine r_zast hx hb hj hKK hP hS (show qk 61 = 8 from rfl) (show qn 61 = 606 from rfl) h54 dX6_goes_262 (fun H locs hP hS => ?_)
                                    refine lv_aload_n hx hb dX6_goes_263 rfl (lv_at hl 2 rfl) ?_
                                    refine g_X6_isThere hx hb hX6 hown hKK hP (show qk 48 = 6 from rfl) K47 dX6_goes_264 ?_
                                    refine lv_iconst (v := 2) hx hb dX6_goes_267 (by decide) ?_
                                    refine lv_iload hx hb dX6_goes_268 (lv_at hl 7 rfl) ?_
                                    obtain ⟨v56, h55, hf⟩ := bd_e hf
                                    refine r_ci hS (va_runS (As := [.int 2, .int v17]) (rest := [.ref (ad 61)]) ⟨hx, hb, hml, hown, hts⟩ (m_X6_cell l D ca ad hj 2 v17 S53 _ h55 H.size) (cwS 2 hts gX6_goes_X6_cell rfl rfl rfl (by decide +kernel) ⟨Nat.le_of_ble_eq_true rfl, Nat.le_of_ble_eq_true rfl⟩) (r_pre hKK hP) rfl rfl hl.1 rfl (lv_room (Nat.le_of_ble_eq_true rfl)) dX6_goes_270 ⟨Nat.le_of_ble_eq_true rfl, Nat.le_of_ble_eq_true rfl⟩) (fun H locs hP hS => ?_)
                                    refine lv_iconst (v := 1) hx hb dX6_goes_273 (by decide) ?_
                                    obtain ⟨S57, h58, hf⟩ := bd_e hf
                                    refine r_zast hx hb hj hKK hP hS (show qk 61 = 8 from rfl) (show qn 61 = 606 from rfl) h58 dX6_goes_274 (fun H locs hP hS => ?_)
                                    refine lv_aload_n hx hb dX6_goes_275 rfl (lv_at hl 2 rfl) ?_
                                    refine g_X6_isThere hx hb hX6 hown hKK hP (show qk 48 = 6 from rfl) K47 dX6_goes_276 ?_
                                    refine lv_iconst (v := 5) hx hb dX6_goes_279 (by decide) ?_
                                    refine lv_iload hx hb dX6_goes_280 (lv_at hl 0 rfl) ?_
                                    obtain ⟨v60, h59, hf⟩ := bd_e hf
                                    refine r_ci hS (va_runS (As := [.int 5, .int v26]) (rest := [.ref (ad 61)]) ⟨hx, hb, hml, hown, hts⟩ (m_X6_cell l D ca ad hj 5 v26 S57 _ h59 H.size) (cwS 2 hts gX6_goes_X6_cell rfl rfl rfl (by decide +kernel) ⟨Nat.le_of_ble_eq_true rfl, Nat.le_of_ble_eq_true rfl⟩) (r_pre hKK hP) rfl rfl hl.1 rfl (lv_room (Nat.le_of_ble_eq_true rfl)) dX6_goes_282 ⟨Nat.le_of_ble_eq_true rfl, Nat.le_of_ble_eq_true rfl⟩) (fun H locs hP hS => ?_)
                                    refine lv_iconst (v := 1) hx hb dX6_goes_285 (by decide) ?_
                                    obtain ⟨S61, h62, hf⟩ := bd_e hf
                                    refine r_zast hx hb hj hKK hP hS (show qk 61 = 8 from rfl) (show qn 61 = 606 from rfl) h62 dX6_goes_286 (fun H locs hP hS => ?_)
                                    refine lv_aload_n hx hb dX6_goes_287 rfl (lv_at hl 2 rfl) ?_
                                    refine g_X6_wanted hx hb hX6 hown hKK hP (show qk 48 = 6 from rfl) K121 dX6_goes_288 ?_
                                    refine lv_if_eq (tgt := 316) hx hb dX6_goes_291 (by decide) (fun w => ?_) (fun w => ?_)
                                    · have hf := if_t w hf
                                      refine lv_iinc (v := (v17 + 1)) (lv' := [(7, .int (v17 + 1)), (9, .int v26), (8, .int ((v20 * (v7 - v17)) + (v22 * v10))), (0, .ref (ad 48)), (2, .int a2), (3, .int v7), (4, .int v10), (5, .long (v13.toInt64 * v15.toInt64))]) hx hb dX6_goes_316 hl (k := 7) rfl rfl (by decide) rfl (fun ls hl => ?_)
                                      refine lv_goto (tgt := 75) hx hb dX6_goes_319 (by decide) ?_
                                      exact ih _ _ hf _ _ _ hP hS (lv_sub hl [3, 4, 5, 6, 7, 0] rfl)
                                    · have hf := if_f w hf
                                      refine lv_aload_n hx hb dX6_goes_294 rfl (lv_at hl 2 rfl) ?_
                                      refine lv_iload_n hx hb dX6_goes_295 rfl (lv_at hl 4 rfl) ?_
                                      refine lv_iload hx hb dX6_goes_296 (lv_at hl 5 rfl) ?_
                                      refine lv_aload_n hx hb dX6_goes_298 rfl (lv_at hl 2 rfl) ?_
                                      refine lv_iconst (v := 2) hx hb dX6_goes_299 (by decide) ?_
                                      refine lv_iload hx hb dX6_goes_300 (lv_at hl 7 rfl) ?_
                                      obtain ⟨v64, h63, hf⟩ := bd_e hf
                                      refine r_ci hS (va_runV (As := [.int 2, .int v17]) (rest := [.int v10, .int v7, .ref (ad 48)]) ⟨hx, hb, hml, hown, hts⟩ (m_X6_falses l D ca ad hj 2 v17 S61 _ h63 H.size) (cwV 2 hts gX6_goes_X6_falses rfl rfl rfl (by decide +kernel) ⟨Nat.le_of_ble_eq_true rfl, Nat.le_of_ble_eq_true rfl⟩) (r_preV hKK hP (show qk 48 = 6 from rfl) rfl) rfl rfl hl.1 rfl (lv_room (Nat.le_of_ble_eq_true rfl)) dX6_goes_302 ⟨Nat.le_of_ble_eq_true rfl, Nat.le_of_ble_eq_true rfl⟩) (fun H locs hP hS => ?_)
                                      refine lv_aload_n hx hb dX6_goes_305 rfl (lv_at hl 2 rfl) ?_
                                      refine lv_iconst (v := 5) hx hb dX6_goes_306 (by decide) ?_
                                      refine lv_iload hx hb dX6_goes_307 (lv_at hl 0 rfl) ?_
                                      obtain ⟨v66, h65, hf⟩ := bd_e hf
                                      refine r_ci hS (va_runV (As := [.int 5, .int v26]) (rest := [.int v64, .int v10, .int v7, .ref (ad 48)]) ⟨hx, hb, hml, hown, hts⟩ (m_X6_falses l D ca ad hj 5 v26 S61 _ h65 H.size) (cwV 2 hts gX6_goes_X6_falses rfl rfl rfl (by decide +kernel) ⟨Nat.le_of_ble_eq_true rfl, Nat.le_of_ble_eq_true rfl⟩) (r_preV hKK hP (show qk 48 = 6 from rfl) rfl) rfl rfl hl.1 rfl (lv_room (Nat.le_of_ble_eq_true rfl)) dX6_goes_309 ⟨Nat.le_of_ble_eq_true rfl, Nat.le_of_ble_eq_true rfl⟩) (fun H locs hP hS => ?_)
                                      refine lv_ior hx hb dX6_goes_312 ?_
                                      obtain ⟨S68, h67, hf⟩ := bd_e hf
                                      refine r_cv hS (va_runV (As := [.int v7, .int v10, .int (v64 ||| v66)]) (rest := []) ⟨hx, hb, hml, hown, hts⟩ (m_X6_masks l D ca ad hj v7 v10 (v64 ||| v66) S61 _ h67 H.size) (cwV 3 hts gX6_goes_X6_masks rfl rfl rfl (by decide +kernel) ⟨Nat.le_of_ble_eq_true rfl, Nat.le_of_ble_eq_true rfl⟩) (r_preV hKK hP (show qk 48 = 6 from rfl) rfl) rfl rfl hl.1 rfl (lv_room (Nat.le_of_ble_eq_true rfl)) dX6_goes_313 ⟨Nat.le_of_ble_eq_true rfl, Nat.le_of_ble_eq_true rfl⟩) (fun H locs hP hS => ?_)
                                      refine lv_iinc (v := (v17 + 1)) (lv' := [(7, .int (v17 + 1)), (9, .int v26), (8, .int ((v20 * (v7 - v17)) + (v22 * v10))), (0, .ref (ad 48)), (2, .int a2), (3, .int v7), (4, .int v10), (5, .long (v13.toInt64 * v15.toInt64))]) hx hb dX6_goes_316 hl (k := 7) rfl rfl (by decide) rfl (fun ls hl => ?_)
                                      refine lv_goto (tgt := 75) hx hb dX6_goes_319 (by decide) ?_
                                      exact ih _ _ hf _ _ _ hP hS (lv_sub hl [3, 4, 5, 6, 7, 0] rfl)
                                  · have hf := if_f w hf
                                    refine lv_goto (tgt := 316) hx hb dX6_goes_226 (by decide) ?_
                                    refine lv_iinc (v := (v17 + 1)) (lv' := [(7, .int (v17 + 1)), (9, .int v26), (8, .int ((v20 * (v7 - v17)) + (v22 * v10))), (0, .ref (ad 48)), (2, .int a2), (3, .int v7), (4, .int v10), (5, .long (v13.toInt64 * v15.toInt64))]) hx hb dX6_goes_316 hl (k := 7) rfl rfl (by decide) rfl (fun ls hl => ?_)
                                    refine lv_goto (tgt := 75) hx hb dX6_goes_319 (by decide) ?_
                                    exact ih _ _ hf _ _ _ hP hS (lv_sub hl [3, 4, 5, 6, 7, 0] rfl)
                                · have hf := if_t w hf
                                  refine lv_goto (tgt := 316) hx hb dX6_goes_172 (by decide) ?_
                                  refine lv_iinc (v := (v17 + 1)) (lv' := [(7, .int (v17 + 1)), (9, .int v26), (8, .int ((v20 * (v7 - v17)) + (v22 * v10))), (0, .ref (ad 48)), (2, .int a2), (3, .int v7), (4, .int v10), (5, .long (v13.toInt64 * v15.toInt64))]) hx hb dX6_goes_316 hl (k := 7) rfl rfl (by decide) rfl (fun ls hl => ?_)
                                  refine lv_goto (tgt := 75) hx hb dX6_goes_319 (by decide) ?_
                                  exact ih _ _ hf _ _ _ hP hS (lv_sub hl [3, 4, 5, 6, 7, 0] rfl)
                  exact L3 _ _ _ hf _ _ _ hP hS (lv_sub hl [2, 3, 4, 5, 1, 0] rfl)
                · have hf := if_t w hf
                  refine lv_goto (tgt := 322) hx hb dX6_goes_68 (by decide) ?_
                  refine lv_iinc (v := (v10 + 1)) (lv' := [(4, .int (v10 + 1)), (5, .long (v13.toInt64 * v15.toInt64)), (0, .ref (ad 48)), (2, .int a2), (3, .int v7)]) hx hb dX6_goes_322 hl (k := 4) rfl rfl (by decide) rfl (fun ls hl => ?_)
                  refine lv_goto (tgt := 28) hx hb dX6_goes_325 (by decide) ?_
                  exact ih _ _ hf _ _ _ hP hS (lv_sub hl [2, 3, 4, 0] rfl)
          exact L2 _ _ _ hf _ _ _ hP hS (lv_sub hl [1, 2, 3, 0] rfl)
    exact L1 _ _ _ hf _ _ _ hP hS (lv_sub hl [1, 3, 0] rfl)
  exact main s.heap [] ls hP va_S.rf hl
def rm_X6_makes : Room := { frames := 3, cells := 0, slots := 0, locals := 75 }
set_option maxRecDepth 100000 in
set_option maxHeartbeats 4000000 in
theorem m_X6_makes (l : Launch) (D : va_G) (ca : Nat → ClassId) (ad : Nat → Nat) (hj : Inj ad)  (S : QS) (o : QS) (hf : f_X6_makes S = some o) : Cv l D ca ad yX6_makes wsX6_makes rm_X6_makes [.ref (ad 48)] S o := by
  intro sz
  refine Met.ofW (cc := cX6_makes) (maxL := 6) (ret := none) (by decide) rfl ?_
  intro p e s m args below meth c s₁ B hml hv
  obtain ⟨hav, hsz, hP, hKK⟩ := hv
  have hx := B.exec
  have hb := B.bytes
  have hr := B.returns
  have hts := atoms_spec (ws := wsX6_makes) B.pre
  have hown : s.vm.findClass RX6 = some m.cls := findClass_of_methodNamed B.named
  have hlocks := B.notSynchronized
  subst hsz
  have hX6 : ∀ w ∈ wsX60, w.before _ s = true := fun w h => hts w (List.mem_cons_of_mem _ (List.mem_append_right _ h))
  have K44 := hts (Cond.fieldLink RX6 44 "CrashDeskModel" "isLet" "[Z") (List.mem_cons_of_mem _ (List.mem_append_left _ (List.mem_append_left _ (List.mem_of_getElem? (i := 3) rfl))))
  have K57 := hts (Cond.fieldLink RX6 57 "CrashDeskModel" "isMade" "[Z") (List.mem_cons_of_mem _ (List.mem_append_left _ (List.mem_append_left _ (List.mem_of_getElem? (i := 2) rfl))))
  have K60 := hts (Cond.fieldLink RX6 60 "CrashDeskModel" "made" "[I") (List.mem_cons_of_mem _ (List.mem_append_left _ (List.mem_append_left _ (List.mem_of_getElem? (i := 4) rfl))))
  have K63 := hts (Cond.fieldLink RX6 63 "CrashDeskModel" "mades" "[I") (List.mem_cons_of_mem _ (List.mem_append_left _ (List.mem_append_left _ (List.mem_of_getElem? (i := 0) rfl))))
  have K92 := hts (Cond.fieldLink RX6 92 "CrashDeskModel" "tales" "I") (List.mem_cons_of_mem _ (List.mem_append_left _ (List.mem_append_left _ (List.mem_of_getElem? (i := 1) rfl))))
  have hl := lv_entry [.ref (ad 48)] (n := 6) (Nat.le_of_ble_eq_true rfl)
  rw [show entryFrame m args 6 = entryFrame m ([.ref (ad 48)] : List Value).toArray 6 by rw [hav], lg_entry_eq]
  generalize (lg_sl [.ref (ad 48)] ++ List.replicate (6 - (lg_sl [.ref (ad 48)]).length) Slot.unset).toArray = ls at hl ⊢
  have hl : lv_has ls 6 [(0, .ref (ad 48))] := hl
  have main : ∀ (H : Heap) (locs : List Loc) (ls : Array Slot), va_P D vwCl (wd ca ad S) H → va_S (Aq ad s.heap.size) s.heap H locs → lv_has ls 6 [(0, .ref (ad 48))] → W p l e rm_X6_makes s m args below meth c H locs 0 0 (Zv below D ca ad args s o) (F0 m 0 ls []) := by
    intro H locs ls hP hS hl
    unfold f_X6_makes at hf
    refine lv_aload_n hx hb dX6_makes_0 rfl (lv_at hl 0 rfl) ?_
    refine lv_iconst (v := 0) hx hb dX6_makes_1 (by decide) ?_
    obtain ⟨S2, h1, hf⟩ := bd_e hf
    refine r_cv hS (va_runV (As := [.int 0]) (rest := []) ⟨hx, hb, hml, hown, hts⟩ (m_X6_lets l D ca ad hj 0 S _ h1 H.size) (cwV 1 hts gX6_makes_X6_lets rfl rfl rfl (by decide +kernel) ⟨Nat.le_of_ble_eq_true rfl, Nat.le_of_ble_eq_true rfl⟩) (r_preV hKK hP (show qk 48 = 6 from rfl) rfl) rfl rfl hl.1 rfl (lv_room (Nat.le_of_ble_eq_true rfl)) dX6_makes_2 ⟨Nat.le_of_ble_eq_true rfl, Nat.le_of_ble_eq_true rfl⟩) (fun H locs hP hS => ?_)
    refine lv_iconst (v := 0) hx hb dX6_makes_5 (by decide) ?_
    refine lv_istore_n (lv' := [(1, .int 0), (0, .ref (ad 48))]) hx hb dX6_makes_6 rfl hl (by decide) rfl (fun ls hl => ?_)
    have L1 : ∀ (fuel : Nat) (v3 : Int32) (S4 : QS), lp_X6_makes_7 fuel v3 S4 = some o → ∀ (H : Heap) (locs : List Loc) (ls : Array Slot), va_P D vwCl (wd ca ad S4) H → va_S (Aq ad s.heap.size) s.heap H locs → lv_has ls 6 [(0, .ref (ad 48)), (1, .int v3)] → W p l e rm_X6_makes s m args below meth c H locs 0 0 (Zv below D ca ad args s o) (F0 m 7 ls []) := by
      intro fuel
      induction fuel with
      | zero =>
        intro v3 S4 hf
        simp [lp_X6_makes_7] at hf
      | succ fuel ih =>
        intro v3 S4 hf H locs ls hP hS hl
        rw [lp_X6_makes_7] at hf
        refine lv_iload_n hx hb dX6_makes_7 rfl (lv_at hl 1 rfl) ?_
        refine lv_iconst (v := 2) hx hb dX6_makes_8 (by decide) ?_
        refine lv_icmp_ge (tgt := 213) hx hb dX6_makes_9 (by decide) (fun w => ?_) (fun w => ?_)
        · have hf := if_t w hf
          obtain rfl := Option.some.inj hf
          exact r_vret hx hb hr hP hS dX6_makes_213 hlocks
        · have hf := if_f w hf
          refine lv_bipush (v := (-50)) hx hb dX6_makes_12 (by decide) ?_
          refine lv_istore_n (lv' := [(2, .int (-50)), (0, .ref (ad 48)), (1, .int v3)]) hx hb dX6_makes_14 rfl hl (by decide) rfl (fun ls hl => ?_)
          obtain ⟨q7, hq7, hf⟩ := bd_e hf
          have J2 : ∀ (H : Heap) (locs : List Loc) (ls : Array Slot), va_P D vwCl (wd ca ad q7) H → va_S (Aq ad s.heap.size) s.heap H locs → lv_has ls 6 [(0, .ref (ad 48)), (1, .int v3)] → W p l e rm_X6_makes s m args below meth c H locs 0 0 (Zv below D ca ad args s o) (F0 m 207 ls []) := by
            intro H locs ls hP hS hl
            refine lv_iinc (v := (v3 + 1)) (lv' := [(1, .int (v3 + 1)), (0, .ref (ad 48))]) hx hb dX6_makes_207 hl (k := 1) rfl rfl (by decide) rfl (fun ls hl => ?_)
            refine lv_goto (tgt := 7) hx hb dX6_makes_210 (by decide) ?_
            exact ih _ _ hf _ _ _ hP hS (lv_sub hl [1, 0] rfl)
          replace hf := hq7
          have L2 : ∀ (fuel : Nat) (v5 : Int32) (S6 : QS), lp_X6_makes_15 v3 fuel v5 S6 = some q7 → ∀ (H : Heap) (locs : List Loc) (ls : Array Slot), va_P D vwCl (wd ca ad S6) H → va_S (Aq ad s.heap.size) s.heap H locs → lv_has ls 6 [(0, .ref (ad 48)), (1, .int v3), (2, .int v5)] → W p l e rm_X6_makes s m args below meth c H locs 0 0 (Zv below D ca ad args s o) (F0 m 15 ls []) := by
            intro fuel
            induction fuel with
            | zero =>
              intro v5 S6 hf
              simp [lp_X6_makes_15] at hf
            | succ fuel ih =>
              intro v5 S6 hf H locs ls hP hS hl
              rw [lp_X6_makes_15] at hf
              refine lv_iload_n hx hb dX6_makes_15 rfl (lv_at hl 2 rfl) ?_
              refine lv_bipush (v := 50) hx hb dX6_makes_16 (by decide) ?_
              refine lv_icmp_gt (tgt := 207) hx hb dX6_makes_18 (by decide) (fun w => ?_) (fun w => ?_)
              · have hf := if_t w hf
                obtain rfl := Option.some.inj hf
                exact J2 _ _ _ hP hS (lv_sub hl [0, 1] rfl)
              · have hf := if_f w hf
                refine lv_bipush (v := 101) hx hb dX6_makes_21 (by decide) ?_
                refine lv_iload_n hx hb dX6_makes_23 rfl (lv_at hl 1 rfl) ?_
                refine lv_imul hx hb dX6_makes_24 ?_
                refine lv_iload_n hx hb dX6_makes_25 rfl (lv_at hl 2 rfl) ?_
                refine lv_iadd hx hb dX6_makes_26 ?_
                refine lv_bipush (v := 50) hx hb dX6_makes_27 (by decide) ?_
                refine lv_iadd hx hb dX6_makes_29 ?_
                refine lv_istore_n (lv' := [(3, .int (((101 * v3) + v5) + 50)), (0, .ref (ad 48)), (1, .int v3), (2, .int v5)]) hx hb dX6_makes_30 rfl hl (by decide) rfl (fun ls hl => ?_)
                refine lv_aload_n hx hb dX6_makes_31 rfl (lv_at hl 1 rfl) ?_
                refine g_X6_mades hx hb hX6 hown hKK hP (show qk 48 = 6 from rfl) K63 dX6_makes_32 ?_
                refine lv_iload_n hx hb dX6_makes_35 rfl (lv_at hl 0 rfl) ?_
                refine lv_iconst (v := 0) hx hb dX6_makes_36 (by decide) ?_
                obtain ⟨S8, h9, hf⟩ := bd_e hf
                refine r_iast hx hb hj hKK hP hS (show qk 66 = 7 from rfl) (show qn 66 = 202 from rfl) h9 dX6_makes_37 (fun H locs hP hS => ?_)
                refine lv_iconst (v := 0) hx hb dX6_makes_38 (by decide) ?_
                refine lv_istore (lv' := [(4, .int 0), (3, .int (((101 * v3) + v5) + 50)), (0, .ref (ad 48)), (1, .int v3), (2, .int v5)]) hx hb dX6_makes_39 hl (by decide) rfl (fun ls hl => ?_)
                obtain ⟨q12, hq12, hf⟩ := bd_e hf
                have J3 : ∀ (H : Heap) (locs : List Loc) (ls : Array Slot), va_P D vwCl (wd ca ad q12) H → va_S (Aq ad s.heap.size) s.heap H locs → lv_has ls 6 [(0, .ref (ad 48)), (1, .int v3), (2, .int v5), (3, .int (((101 * v3) + v5) + 50))] → W p l e rm_X6_makes s m args below meth c H locs 0 0 (Zv below D ca ad args s o) (F0 m 71 ls []) := by
                  intro H locs ls hP hS hl
                  refine lv_bipush (v := (-50)) hx hb dX6_makes_71 (by decide) ?_
                  refine lv_istore (lv' := [(4, .int (-50)), (0, .ref (ad 48)), (1, .int v3), (2, .int v5), (3, .int (((101 * v3) + v5) + 50))]) hx hb dX6_makes_73 hl (by decide) rfl (fun ls hl => ?_)
                  obtain ⟨q17, hq17, hf⟩ := bd_e hf
                  have J4 : ∀ (H : Heap) (locs : List Loc) (ls : Array Slot), va_P D vwCl (wd ca ad q17) H → va_S (Aq ad s.heap.size) s.heap H locs → lv_has ls 6 [(0, .ref (ad 48)), (1, .int v3), (2, .int v5)] → W p l e rm_X6_makes s m args below meth c H locs 0 0 (Zv below D ca ad args s o) (F0 m 201 ls []) := by
                    intro H locs ls hP hS hl
                    refine lv_iinc (v := (v5 + 1)) (lv' := [(2, .int (v5 + 1)), (0, .ref (ad 48)), (1, .int v3)]) hx hb dX6_makes_201 hl (k := 2) rfl rfl (by decide) rfl (fun ls hl => ?_)
                    refine lv_goto (tgt := 15) hx hb dX6_makes_204 (by decide) ?_
                    exact ih _ _ hf _ _ _ hP hS (lv_sub hl [1, 2, 0] rfl)
                  replace hf := hq17
                  have L4 : ∀ (fuel : Nat) (v15 : Int32) (S16 : QS), lp_X6_makes_75 v3 v5 fuel v15 S16 = some q17 → ∀ (H : Heap) (locs : List Loc) (ls : Array Slot), va_P D vwCl (wd ca ad S16) H → va_S (Aq ad s.heap.size) s.heap H locs → lv_has ls 6 [(0, .ref (ad 48)), (1, .int v3), (2, .int v5), (3, .int (((101 * v3) + v5) + 50)), (4, .int v15)] → W p l e rm_X6_makes s m args below meth c H locs 0 0 (Zv below D ca ad args s o) (F0 m 75 ls []) := by
                    intro fuel
                    induction fuel with
                    | zero =>
                      intro v15 S16 hf
                      simp [lp_X6_makes_75] at hf
                    | succ fuel ih =>
                      intro v15 S16 hf H locs ls hP hS hl
                      rw [lp_X6_makes_75] at hf
                      refine lv_iload hx hb dX6_makes_75 (lv_at hl 4 rfl) ?_
                      refine lv_bipush (v := 50) hx hb dX6_makes_77 (by decide) ?_
                      refine lv_icmp_gt (tgt := 201) hx hb dX6_makes_79 (by decide) (fun w => ?_) (fun w => ?_)
                      · have hf := if_t w hf
                        obtain rfl := Option.some.inj hf
                        exact J4 _ _ _ hP hS (lv_sub hl [0, 1, 2] rfl)
                      · have hf := if_f w hf
                        refine lv_aload_n hx hb dX6_makes_82 rfl (lv_at hl 0 rfl) ?_
                        refine g_X6_isLet hx hb hX6 hown hKK hP (show qk 48 = 6 from rfl) K44 dX6_makes_83 ?_
                        refine lv_iconst (v := 3) hx hb dX6_makes_86 (by decide) ?_
                        refine lv_iload_n hx hb dX6_makes_87 rfl (lv_at hl 1 rfl) ?_
                        refine lv_imul hx hb dX6_makes_88 ?_
                        refine lv_iconst (v := 1) hx hb dX6_makes_89 (by decide) ?_
                        refine lv_iadd hx hb dX6_makes_90 ?_
                        refine lv_iload_n hx hb dX6_makes_91 rfl (lv_at hl 2 rfl) ?_
                        obtain ⟨v19, h18, hf⟩ := bd_e hf
                        refine r_ci hS (va_runS (As := [.int ((3 * v3) + 1), .int v5]) (rest := [.ref (ad 60)]) ⟨hx, hb, hml, hown, hts⟩ (m_X6_cell l D ca ad hj ((3 * v3) + 1) v5 S16 _ h18 H.size) (cwS 2 hts gX6_makes_X6_cell rfl rfl rfl (by decide +kernel) ⟨Nat.le_of_ble_eq_true rfl, Nat.le_of_ble_eq_true rfl⟩) (r_pre hKK hP) rfl rfl hl.1 rfl (lv_room (Nat.le_of_ble_eq_true rfl)) dX6_makes_92 ⟨Nat.le_of_ble_eq_true rfl, Nat.le_of_ble_eq_true rfl⟩) (fun H locs hP hS => ?_)
                        obtain ⟨v20, h21, hf⟩ := bd_e hf
                        refine r_zald hx hb hKK hP (show qk 60 = 8 from rfl) (show qn 60 = 606 from rfl) h21 dX6_makes_95 ?_
                        refine lv_if_eq (tgt := 195) hx hb dX6_makes_96 (by decide) (fun w => ?_) (fun w => ?_)
                        · have hf := if_t w hf
                          refine lv_iinc (v := (v15 + 1)) (lv' := [(4, .int (v15 + 1)), (0, .ref (ad 48)), (1, .int v3), (2, .int v5), (3, .int (((101 * v3) + v5) + 50))]) hx hb dX6_makes_195 hl (k := 4) rfl rfl (by decide) rfl (fun ls hl => ?_)
                          refine lv_goto (tgt := 75) hx hb dX6_makes_198 (by decide) ?_
                          exact ih _ _ hf _ _ _ hP hS (lv_sub hl [1, 2, 3, 4, 0] rfl)
                        · have hf := if_f w hf
                          refine lv_aload_n hx hb dX6_makes_99 rfl (lv_at hl 0 rfl) ?_
                          refine lv_iload_n hx hb dX6_makes_100 rfl (lv_at hl 1 rfl) ?_
                          refine lv_iload hx hb dX6_makes_101 (lv_at hl 4 rfl) ?_
                          refine lv_iload_n hx hb dX6_makes_103 rfl (lv_at hl 2 rfl) ?_
                          refine lv_iconst (v := (-1)) hx hb dX6_makes_104 (by decide) ?_
                          obtain ⟨v23, h22, hf⟩ := bd_e hf
                          refine r_ci hS (va_runV (As := [.int v3, .int v15, .int v5, .int (-1)]) (rest := []) ⟨hx, hb, hml, hown, hts⟩ (m_X6_isFirst l D ca ad hj v3 v15 v5 (-1) S16 _ h22 H.size) (cwV 4 hts gX6_makes_X6_isFirst rfl rfl rfl (by decide +kernel) ⟨Nat.le_of_ble_eq_true rfl, Nat.le_of_ble_eq_true rfl⟩) (r_preV hKK hP (show qk 48 = 6 from rfl) rfl) rfl rfl hl.1 rfl (lv_room (Nat.le_of_ble_eq_true rfl)) dX6_makes_105 ⟨Nat.le_of_ble_eq_true rfl, Nat.le_of_ble_eq_true rfl⟩) (fun H locs hP hS => ?_)
                          refine lv_if_ne (tgt := 114) hx hb dX6_makes_108 (by decide) (fun w => ?_) (fun w => ?_)
                          · have hf := if_f w hf
                            refine lv_aload_n hx hb dX6_makes_114 rfl (lv_at hl 0 rfl) ?_
                            refine lv_iconst (v := 3) hx hb dX6_makes_115 (by decide) ?_
                            refine lv_iload_n hx hb dX6_makes_116 rfl (lv_at hl 1 rfl) ?_
                            refine lv_imul hx hb dX6_makes_117 ?_
                            refine lv_iload hx hb dX6_makes_118 (lv_at hl 4 rfl) ?_
                            obtain ⟨v25, h24, hf⟩ := bd_e hf
                            refine r_ci hS (va_runV (As := [.int (3 * v3), .int v15]) (rest := []) ⟨hx, hb, hml, hown, hts⟩ (m_X6_falses l D ca ad hj (3 * v3) v15 S16 _ h24 H.size) (cwV 2 hts gX6_makes_X6_falses rfl rfl rfl (by decide +kernel) ⟨Nat.le_of_ble_eq_true rfl, Nat.le_of_ble_eq_true rfl⟩) (r_preV hKK hP (show qk 48 = 6 from rfl) rfl) rfl rfl hl.1 rfl (lv_room (Nat.le_of_ble_eq_true rfl)) dX6_makes_120 ⟨Nat.le_of_ble_eq_true rfl, Nat.le_of_ble_eq_true rfl⟩) (fun H locs hP hS => ?_)
                            refine lv_aload_n hx hb dX6_makes_123 rfl (lv_at hl 0 rfl) ?_
                            refine lv_iconst (v := 3) hx hb dX6_makes_124 (by decide) ?_
                            refine lv_iload_n hx hb dX6_makes_125 rfl (lv_at hl 1 rfl) ?_
                            refine lv_imul hx hb dX6_makes_126 ?_
                            refine lv_iconst (v := 1) hx hb dX6_makes_127 (by decide) ?_
                            refine lv_iadd hx hb dX6_makes_128 ?_
                            refine lv_iload_n hx hb dX6_makes_129 rfl (lv_at hl 2 rfl) ?_
                            obtain ⟨v27, h26, hf⟩ := bd_e hf
                            refine r_ci hS (va_runV (As := [.int ((3 * v3) + 1), .int v5]) (rest := [.int v25]) ⟨hx, hb, hml, hown, hts⟩ (m_X6_falses l D ca ad hj ((3 * v3) + 1) v5 S16 _ h26 H.size) (cwV 2 hts gX6_makes_X6_falses rfl rfl rfl (by decide +kernel) ⟨Nat.le_of_ble_eq_true rfl, Nat.le_of_ble_eq_true rfl⟩) (r_preV hKK hP (show qk 48 = 6 from rfl) rfl) rfl rfl hl.1 rfl (lv_room (Nat.le_of_ble_eq_true rfl)) dX6_makes_130 ⟨Nat.le_of_ble_eq_true rfl, Nat.le_of_ble_eq_true rfl⟩) (fun H locs hP hS => ?_)
                            refine lv_ior hx hb dX6_makes_133 ?_
                            refine lv_istore (lv' := [(5, .int (v25 ||| v27)), (0, .ref (ad 48)), (1, .int v3), (2, .int v5), (3, .int (((101 * v3) + v5) + 50)), (4, .int v15)]) hx hb dX6_makes_134 hl (by decide) rfl (fun ls hl => ?_)
                            refine lv_aload_n hx hb dX6_makes_136 rfl (lv_at hl 1 rfl) ?_
                            refine g_X6_isMade hx hb hX6 hown hKK hP (show qk 48 = 6 from rfl) K57 dX6_makes_137 ?_
                            refine lv_iload_n hx hb dX6_makes_140 rfl (lv_at hl 4 rfl) ?_
                            refine lv_bipush (v := 10) hx hb dX6_makes_141 (by decide) ?_
                            refine lv_ishl hx hb dX6_makes_143 ?_
                            refine lv_iload hx hb dX6_makes_144 (lv_at hl 0 rfl) ?_
                            refine lv_iadd hx hb dX6_makes_146 ?_
                            obtain ⟨v28, h29, hf⟩ := bd_e hf
                            refine r_zald hx hb hKK hP (show qk 64 = 8 from rfl) (show qn 64 = 206848 from rfl) h29 dX6_makes_147 ?_
                            refine lv_if_eq (tgt := 154) hx hb dX6_makes_148 (by decide) (fun w => ?_) (fun w => ?_)
                            · have hf := if_t w hf
                              refine lv_aload_n hx hb dX6_makes_154 rfl (lv_at hl 1 rfl) ?_
                              refine g_X6_isMade hx hb hX6 hown hKK hP (show qk 48 = 6 from rfl) K57 dX6_makes_155 ?_
                              refine lv_iload_n hx hb dX6_makes_158 rfl (lv_at hl 4 rfl) ?_
                              refine lv_bipush (v := 10) hx hb dX6_makes_159 (by decide) ?_
                              refine lv_ishl hx hb dX6_makes_161 ?_
                              refine lv_iload hx hb dX6_makes_162 (lv_at hl 0 rfl) ?_
                              refine lv_iadd hx hb dX6_makes_164 ?_
                              refine lv_iconst (v := 1) hx hb dX6_makes_165 (by decide) ?_
                              obtain ⟨S30, h31, hf⟩ := bd_e hf
                              refine r_zast hx hb hj hKK hP hS (show qk 64 = 8 from rfl) (show qn 64 = 206848 from rfl) h31 dX6_makes_166 (fun H locs hP hS => ?_)
                              refine lv_aload_n hx hb dX6_makes_167 rfl (lv_at hl 1 rfl) ?_
                              refine g_X6_made hx hb hX6 hown hKK hP (show qk 48 = 6 from rfl) K60 dX6_makes_168 ?_
                              refine lv_bipush (v := 101) hx hb dX6_makes_171 (by decide) ?_
                              refine lv_iload_n hx hb dX6_makes_173 rfl (lv_at hl 4 rfl) ?_
                              refine lv_imul hx hb dX6_makes_174 ?_
                              refine lv_aload_n hx hb dX6_makes_175 rfl (lv_at hl 1 rfl) ?_
                              refine g_X6_mades hx hb hX6 hown hKK hP (show qk 48 = 6 from rfl) K63 dX6_makes_176 ?_
                              refine lv_iload_n hx hb dX6_makes_179 rfl (lv_at hl 4 rfl) ?_
                              obtain ⟨v32, h33, hf⟩ := bd_e hf
                              refine r_iald hx hb hKK hP (show qk 66 = 7 from rfl) (show qn 66 = 202 from rfl) h33 dX6_makes_180 ?_
                              refine lv_iadd hx hb dX6_makes_181 ?_
                              refine lv_iload hx hb dX6_makes_182 (lv_at hl 0 rfl) ?_
                              obtain ⟨S34, h35, hf⟩ := bd_e hf
                              refine r_iast hx hb hj hKK hP hS (show qk 65 = 7 from rfl) (show qn 65 = 20402 from rfl) h35 dX6_makes_184 (fun H locs hP hS => ?_)
                              refine lv_aload_n hx hb dX6_makes_185 rfl (lv_at hl 1 rfl) ?_
                              refine g_X6_mades hx hb hX6 hown hKK hP (show qk 48 = 6 from rfl) K63 dX6_makes_186 ?_
                              refine lv_iload_n hx hb dX6_makes_189 rfl (lv_at hl 4 rfl) ?_
                              refine lv_dup2_11 hx hb dX6_makes_190 rfl rfl ?_
                              obtain ⟨v36, h37, hf⟩ := bd_e hf
                              refine r_iald hx hb hKK hP (show qk 66 = 7 from rfl) (show qn 66 = 202 from rfl) h37 dX6_makes_191 ?_
                              refine lv_iconst (v := 1) hx hb dX6_makes_192 (by decide) ?_
                              refine lv_iadd hx hb dX6_makes_193 ?_
                              obtain ⟨S38, h39, hf⟩ := bd_e hf
                              refine r_iast hx hb hj hKK hP hS (show qk 66 = 7 from rfl) (show qn 66 = 202 from rfl) h39 dX6_makes_194 (fun H locs hP hS => ?_)
                              refine lv_iinc (v := (v15 + 1)) (lv' := [(4, .int (v15 + 1)), (5, .int (v25 ||| v27)), (0, .ref (ad 48)), (1, .int v3), (2, .int v5), (3, .int (((101 * v3) + v5) + 50))]) hx hb dX6_makes_195 hl (k := 5) rfl rfl (by decide) rfl (fun ls hl => ?_)
                              refine lv_goto (tgt := 75) hx hb dX6_makes_198 (by decide) ?_
                              exact ih _ _ hf _ _ _ hP hS (lv_sub hl [2, 3, 4, 5, 0] rfl)
                            · have hf := if_f w hf
                              refine lv_goto (tgt := 195) hx hb dX6_makes_151 (by decide) ?_
                              refine lv_iinc (v := (v15 + 1)) (lv' := [(4, .int (v15 + 1)), (5, .int (v25 ||| v27)), (0, .ref (ad 48)), (1, .int v3), (2, .int v5), (3, .int (((101 * v3) + v5) + 50))]) hx hb dX6_makes_195 hl (k := 5) rfl rfl (by decide) rfl (fun ls hl => ?_)
                              refine lv_goto (tgt := 75) hx hb dX6_makes_198 (by decide) ?_
                              exact ih _ _ hf _ _ _ hP hS (lv_sub hl [2, 3, 4, 5, 0] rfl)
                          · have hf := if_t w hf
                            refine lv_goto (tgt := 195) hx hb dX6_makes_111 (by decide) ?_
                            refine lv_iinc (v := (v15 + 1)) (lv' := [(4, .int (v15 + 1)), (0, .ref (ad 48)), (1, .int v3), (2, .int v5), (3, .int (((101 * v3) + v5) + 50))]) hx hb dX6_makes_195 hl (k := 4) rfl rfl (by decide) rfl (fun ls hl => ?_)
                            refine lv_goto (tgt := 75) hx hb dX6_makes_198 (by decide) ?_
                            exact ih _ _ hf _ _ _ hP hS (lv_sub hl [1, 2, 3, 4, 0] rfl)
                  exact L4 _ _ _ hf _ _ _ hP hS (lv_sub hl [1, 2, 3, 4, 0] rfl)
                replace hf := hq12
                have L3 : ∀ (fuel : Nat) (v10 : Int32) (S11 : QS), lp_X6_makes_41 v3 v5 fuel v10 S11 = some q12 → ∀ (H : Heap) (locs : List Loc) (ls : Array Slot), va_P D vwCl (wd ca ad S11) H → va_S (Aq ad s.heap.size) s.heap H locs → lv_has ls 6 [(0, .ref (ad 48)), (1, .int v3), (2, .int v5), (3, .int (((101 * v3) + v5) + 50)), (4, .int v10)] → W p l e rm_X6_makes s m args below meth c H locs 0 0 (Zv below D ca ad args s o) (F0 m 41 ls []) := by
                  intro fuel
                  induction fuel with
                  | zero =>
                    intro v10 S11 hf
                    simp [lp_X6_makes_41] at hf
                  | succ fuel ih =>
                    intro v10 S11 hf H locs ls hP hS hl
                    rw [lp_X6_makes_41] at hf
                    refine lv_iload hx hb dX6_makes_41 (lv_at hl 4 rfl) ?_
                    refine lv_iconst (v := 1) hx hb dX6_makes_43 (by decide) ?_
                    refine lv_aload_n hx hb dX6_makes_44 rfl (lv_at hl 0 rfl) ?_
                    refine g_X6_tales hx hb hX6 hown hKK hP (show qk 48 = 6 from rfl) K92 dX6_makes_45 ?_
                    refine lv_ishl hx hb dX6_makes_48 ?_
                    refine lv_icmp_ge (tgt := 71) hx hb dX6_makes_49 (by decide) (fun w => ?_) (fun w => ?_)
                    · have hf := if_t w hf
                      obtain rfl := Option.some.inj hf
                      exact J3 _ _ _ hP hS (lv_sub hl [0, 1, 2, 3] rfl)
                    · have hf := if_f w hf
                      refine lv_aload_n hx hb dX6_makes_52 rfl (lv_at hl 0 rfl) ?_
                      refine g_X6_isMade hx hb hX6 hown hKK hP (show qk 48 = 6 from rfl) K57 dX6_makes_53 ?_
                      refine lv_iload_n hx hb dX6_makes_56 rfl (lv_at hl 3 rfl) ?_
                      refine lv_bipush (v := 10) hx hb dX6_makes_57 (by decide) ?_
                      refine lv_ishl hx hb dX6_makes_59 ?_
                      refine lv_iload hx hb dX6_makes_60 (lv_at hl 4 rfl) ?_
                      refine lv_iadd hx hb dX6_makes_62 ?_
                      refine lv_iconst (v := 0) hx hb dX6_makes_63 (by decide) ?_
                      obtain ⟨S13, h14, hf⟩ := bd_e hf
                      refine r_zast hx hb hj hKK hP hS (show qk 64 = 8 from rfl) (show qn 64 = 206848 from rfl) h14 dX6_makes_64 (fun H locs hP hS => ?_)
                      refine lv_iinc (v := (v10 + 1)) (lv' := [(4, .int (v10 + 1)), (0, .ref (ad 48)), (1, .int v3), (2, .int v5), (3, .int (((101 * v3) + v5) + 50))]) hx hb dX6_makes_65 hl (k := 4) rfl rfl (by decide) rfl (fun ls hl => ?_)
                      refine lv_goto (tgt := 41) hx hb dX6_makes_68 (by decide) ?_
                      exact ih _ _ hf _ _ _ hP hS (lv_sub hl [1, 2, 3, 4, 0] rfl)
                exact L3 _ _ _ hf _ _ _ hP hS (lv_sub hl [2, 3, 4, 1, 0] rfl)
          exact L2 _ _ _ hf _ _ _ hP hS (lv_sub hl [1, 2, 0] rfl)
    exact L1 _ _ _ hf _ _ _ hP hS (lv_sub hl [1, 0] rfl)
  exact main s.heap [] ls hP va_S.rf hl
def rm_X6_fewest : Room := { frames := 5, cells := 0, slots := 0, locals := 129 }
set_option maxRecDepth 100000 in
set_option maxHeartbeats 4000000 in
theorem m_X6_fewest (l : Launch) (D : va_G) (ca : Nat → ClassId) (ad : Nat → Nat) (hj : Inj ad)  (S : QS) (o : Int32 × QS) (hf : f_X6_fewest S = some o) : Ci l D ca ad yX6_fewest wsX6_fewest rm_X6_fewest [.ref (ad 48)] S o.1 o.2 := by
  intro sz
  refine Met.ofW (cc := cX6_fewest) (maxL := 4) (ret := (some .int)) (by decide) rfl ?_
  intro p e s m args below meth c s₁ B hml hv
  obtain ⟨hav, hsz, hP, hKK⟩ := hv
  have hx := B.exec
  have hb := B.bytes
  have hr := B.returns
  have hts := atoms_spec (ws := wsX6_fewest) B.pre
  have hown : s.vm.findClass RX6 = some m.cls := findClass_of_methodNamed B.named
  have hlocks := B.notSynchronized
  subst hsz
  have hX6 : ∀ w ∈ wsX60, w.before _ s = true := fun w h => hts w (List.mem_cons_of_mem _ (List.mem_append_right _ h))
  have K53 := hts (Cond.fieldLink RX6 53 "CrashDeskModel" "isMask" "[Z") (List.mem_cons_of_mem _ (List.mem_append_left _ (List.mem_append_left _ (List.mem_of_getElem? (i := 0) rfl))))
  have K92 := hts (Cond.fieldLink RX6 92 "CrashDeskModel" "tales" "I") (List.mem_cons_of_mem _ (List.mem_append_left _ (List.mem_append_left _ (List.mem_of_getElem? (i := 2) rfl))))
  have K121 := hts (Cond.fieldLink RX6 121 "CrashDeskModel" "wanted" "Z") (List.mem_cons_of_mem _ (List.mem_append_left _ (List.mem_append_left _ (List.mem_of_getElem? (i := 1) rfl))))
  have hl := lv_entry [.ref (ad 48)] (n := 4) (Nat.le_of_ble_eq_true rfl)
  rw [show entryFrame m args 4 = entryFrame m ([.ref (ad 48)] : List Value).toArray 4 by rw [hav], lg_entry_eq]
  generalize (lg_sl [.ref (ad 48)] ++ List.replicate (4 - (lg_sl [.ref (ad 48)]).length) Slot.unset).toArray = ls at hl ⊢
  have hl : lv_has ls 4 [(0, .ref (ad 48))] := hl
  have main : ∀ (H : Heap) (locs : List Loc) (ls : Array Slot), va_P D vwCl (wd ca ad S) H → va_S (Aq ad s.heap.size) s.heap H locs → lv_has ls 4 [(0, .ref (ad 48))] → W p l e rm_X6_fewest s m args below meth c H locs 0 0 (Zi below D ca ad args s o.1 o.2) (F0 m 0 ls []) := by
    intro H locs ls hP hS hl
    unfold f_X6_fewest at hf
    refine lv_iconst (v := 0) hx hb dX6_fewest_0 (by decide) ?_
    refine lv_istore_n (lv' := [(1, .int 0), (0, .ref (ad 48))]) hx hb dX6_fewest_1 rfl hl (by decide) rfl (fun ls hl => ?_)
    obtain ⟨q3, hq3, hf⟩ := bd_e hf
    have J1 : ∀ (H : Heap) (locs : List Loc) (ls : Array Slot), va_P D vwCl (wd ca ad q3) H → va_S (Aq ad s.heap.size) s.heap H locs → lv_has ls 4 [(0, .ref (ad 48))] → W p l e rm_X6_fewest s m args below meth c H locs 0 0 (Zi below D ca ad args s o.1 o.2) (F0 m 22 ls []) := by
      intro H locs ls hP hS hl
      refine lv_aload_n hx hb dX6_fewest_22 rfl (lv_at hl 0 rfl) ?_
      obtain ⟨S7, h6, hf⟩ := bd_e hf
      refine r_cv hS (va_runV (As := []) (rest := []) ⟨hx, hb, hml, hown, hts⟩ (m_X6_makes l D ca ad hj q3 _ h6 H.size) (cwV 0 hts gX6_fewest_X6_makes rfl rfl rfl (by decide +kernel) ⟨Nat.le_of_ble_eq_true rfl, Nat.le_of_ble_eq_true rfl⟩) (r_preV hKK hP (show qk 48 = 6 from rfl) rfl) rfl rfl hl.1 rfl (lv_room (Nat.le_of_ble_eq_true rfl)) dX6_fewest_23 ⟨Nat.le_of_ble_eq_true rfl, Nat.le_of_ble_eq_true rfl⟩) (fun H locs hP hS => ?_)
      refine lv_aload_n hx hb dX6_fewest_26 rfl (lv_at hl 0 rfl) ?_
      refine lv_iconst (v := 1) hx hb dX6_fewest_27 (by decide) ?_
      obtain ⟨S8, h9, hf⟩ := bd_e hf
      refine p_X6_wanted hx hb hX6 hown hj hKK hP hS (show qk 48 = 6 from rfl) h9 K121 dX6_fewest_28 (fun H locs hP hS => ?_)
      refine lv_aload_n hx hb dX6_fewest_31 rfl (lv_at hl 0 rfl) ?_
      refine lv_iconst (v := 0) hx hb dX6_fewest_32 (by decide) ?_
      refine lv_iconst (v := (-1)) hx hb dX6_fewest_33 (by decide) ?_
      obtain ⟨q11, h10, hf⟩ := bd_e hf
      refine r_ci hS (va_runV (As := [.int 0, .int (-1)]) (rest := []) ⟨hx, hb, hml, hown, hts⟩ (m_X6_goes l D ca ad hj 0 (-1) S8 _ h10 H.size) (cwV 2 hts gX6_fewest_X6_goes rfl rfl rfl (by decide +kernel) ⟨Nat.le_of_ble_eq_true rfl, Nat.le_of_ble_eq_true rfl⟩) (r_preV hKK hP (show qk 48 = 6 from rfl) rfl) rfl rfl hl.1 rfl (lv_room (Nat.le_of_ble_eq_true rfl)) dX6_fewest_34 ⟨Nat.le_of_ble_eq_true rfl, Nat.le_of_ble_eq_true rfl⟩) (fun H locs hP hS => ?_)
      refine lv_istore_n (lv' := [(1, .int q11.1), (0, .ref (ad 48))]) hx hb dX6_fewest_37 rfl hl (by decide) rfl (fun ls hl => ?_)
      refine lv_aload_n hx hb dX6_fewest_38 rfl (lv_at hl 1 rfl) ?_
      refine lv_iconst (v := 0) hx hb dX6_fewest_39 (by decide) ?_
      obtain ⟨S12, h13, hf⟩ := bd_e hf
      refine p_X6_wanted hx hb hX6 hown hj hKK hP hS (show qk 48 = 6 from rfl) h13 K121 dX6_fewest_40 (fun H locs hP hS => ?_)
      refine lv_iconst (v := (-1)) hx hb dX6_fewest_43 (by decide) ?_
      refine lv_istore_n (lv' := [(2, .int (-1)), (1, .int q11.1), (0, .ref (ad 48))]) hx hb dX6_fewest_44 rfl hl (by decide) rfl (fun ls hl => ?_)
      refine lv_iconst (v := 0) hx hb dX6_fewest_45 (by decide) ?_
      refine lv_istore_n (lv' := [(3, .int 0), (2, .int (-1)), (1, .int q11.1), (0, .ref (ad 48))]) hx hb dX6_fewest_46 rfl hl (by decide) rfl (fun ls hl => ?_)
      have L2 : ∀ (fuel : Nat) (v14 : Int32) (v15 : Int32), lp_X6_fewest_47 q11 S12 fuel v14 v15 = some o → ∀ (H : Heap) (locs : List Loc) (ls : Array Slot), va_P D vwCl (wd ca ad S12) H → va_S (Aq ad s.heap.size) s.heap H locs → lv_has ls 4 [(0, .ref (ad 48)), (1, .int q11.1), (2, .int v14), (3, .int v15)] → W p l e rm_X6_fewest s m args below meth c H locs 0 0 (Zi below D ca ad args s o.1 o.2) (F0 m 47 ls []) := by
        intro fuel
        induction fuel with
        | zero =>
          intro v14 v15 hf
          simp [lp_X6_fewest_47] at hf
        | succ fuel ih =>
          intro v14 v15 hf H locs ls hP hS hl
          rw [lp_X6_fewest_47] at hf
          refine lv_iload_n hx hb dX6_fewest_47 rfl (lv_at hl 3 rfl) ?_
          refine lv_iconst (v := 1) hx hb dX6_fewest_48 (by decide) ?_
          refine lv_aload_n hx hb dX6_fewest_49 rfl (lv_at hl 0 rfl) ?_
          refine g_X6_tales hx hb hX6 hown hKK hP (show qk 48 = 6 from rfl) K92 dX6_fewest_50 ?_
          refine lv_ishl hx hb dX6_fewest_53 ?_
          refine lv_icmp_ge (tgt := 93) hx hb dX6_fewest_54 (by decide) (fun w => ?_) (fun w => ?_)
          · have hf := if_t w hf
            refine lv_iload_n hx hb dX6_fewest_93 rfl (lv_at hl 2 rfl) ?_
            obtain rfl := Option.some.inj hf
            exact r_iret hx hb hr hP hS dX6_fewest_94 hlocks
          · have hf := if_f w hf
            refine lv_iload_n hx hb dX6_fewest_57 rfl (lv_at hl 1 rfl) ?_
            refine lv_if_eq (tgt := 93) hx hb dX6_fewest_58 (by decide) (fun w => ?_) (fun w => ?_)
            · have hf := if_t w hf
              refine lv_iload_n hx hb dX6_fewest_93 rfl (lv_at hl 2 rfl) ?_
              obtain rfl := Option.some.inj hf
              exact r_iret hx hb hr hP hS dX6_fewest_94 hlocks
            · have hf := if_f w hf
              refine lv_aload_n hx hb dX6_fewest_61 rfl (lv_at hl 0 rfl) ?_
              refine g_X6_isMask hx hb hX6 hown hKK hP (show qk 48 = 6 from rfl) K53 dX6_fewest_62 ?_
              refine lv_iload_n hx hb dX6_fewest_65 rfl (lv_at hl 3 rfl) ?_
              obtain ⟨v16, h17, hf⟩ := bd_e hf
              refine r_zald hx hb hKK hP (show qk 63 = 8 from rfl) (show qn 63 = 1024 from rfl) h17 dX6_fewest_66 ?_
              refine lv_if_eq (tgt := 87) hx hb dX6_fewest_67 (by decide) (fun w => ?_) (fun w => ?_)
              · have hf := if_t w hf
                refine lv_iinc (v := (v15 + 1)) (lv' := [(3, .int (v15 + 1)), (0, .ref (ad 48)), (1, .int q11.1), (2, .int v14)]) hx hb dX6_fewest_87 hl (k := 3) rfl rfl (by decide) rfl (fun ls hl => ?_)
                refine lv_goto (tgt := 47) hx hb dX6_fewest_90 (by decide) ?_
                exact ih _ _ hf _ _ _ hP hS (lv_sub hl [1, 2, 3, 0] rfl)
              · have hf := if_f w hf
                refine lv_iload_n hx hb dX6_fewest_70 rfl (lv_at hl 2 rfl) ?_
                refine lv_if_lt (tgt := 85) hx hb dX6_fewest_71 (by decide) (fun w => ?_) (fun w => ?_)
                · have hf := if_t w hf
                  refine lv_iload_n hx hb dX6_fewest_85 rfl (lv_at hl 3 rfl) ?_
                  refine lv_istore_n (lv' := [(2, .int v15), (0, .ref (ad 48)), (1, .int q11.1), (3, .int v15)]) hx hb dX6_fewest_86 rfl hl (by decide) rfl (fun ls hl => ?_)
                  refine lv_iinc (v := (v15 + 1)) (lv' := [(3, .int (v15 + 1)), (2, .int v15), (0, .ref (ad 48)), (1, .int q11.1)]) hx hb dX6_fewest_87 hl (k := 3) rfl rfl (by decide) rfl (fun ls hl => ?_)
                  refine lv_goto (tgt := 47) hx hb dX6_fewest_90 (by decide) ?_
                  exact ih _ _ hf _ _ _ hP hS (lv_sub hl [2, 3, 1, 0] rfl)
                · have hf := if_f w hf
                  refine lv_iload_n hx hb dX6_fewest_74 rfl (lv_at hl 3 rfl) ?_
                  obtain ⟨v19, h18, hf⟩ := bd_e hf
                  refine r_ci hS (va_runS (As := [.int v15]) (rest := []) ⟨hx, hb, hml, hown, hts⟩ (m_J6_bitCount_0f7a4 l D ca ad hj v15 S12 _ h18 H.size) (va_cwS 1 hts gX6_fewest_J6_bitCount_0f7a4 rfl rfl rfl (by decide +kernel) ⟨Nat.le_of_ble_eq_true rfl, Nat.le_of_ble_eq_true rfl⟩) (r_pre hKK hP) rfl rfl hl.1 rfl (lv_room (Nat.le_of_ble_eq_true rfl)) dX6_fewest_75 ⟨Nat.le_of_ble_eq_true rfl, Nat.le_of_ble_eq_true rfl⟩) (fun H locs hP hS => ?_)
                  refine lv_iload_n hx hb dX6_fewest_78 rfl (lv_at hl 2 rfl) ?_
                  obtain ⟨v21, h20, hf⟩ := bd_e hf
                  refine r_ci hS (va_runS (As := [.int v14]) (rest := [.int v19]) ⟨hx, hb, hml, hown, hts⟩ (m_J6_bitCount_0f7a4 l D ca ad hj v14 S12 _ h20 H.size) (va_cwS 1 hts gX6_fewest_J6_bitCount_0f7a4 rfl rfl rfl (by decide +kernel) ⟨Nat.le_of_ble_eq_true rfl, Nat.le_of_ble_eq_true rfl⟩) (r_pre hKK hP) rfl rfl hl.1 rfl (lv_room (Nat.le_of_ble_eq_true rfl)) dX6_fewest_79 ⟨Nat.le_of_ble_eq_true rfl, Nat.le_of_ble_eq_true rfl⟩) (fun H locs hP hS => ?_)
                  refine lv_icmp_ge (tgt := 87) hx hb dX6_fewest_82 (by decide) (fun w => ?_) (fun w => ?_)
                  · have hf := if_t w hf
                    refine lv_iinc (v := (v15 + 1)) (lv' := [(3, .int (v15 + 1)), (0, .ref (ad 48)), (1, .int q11.1), (2, .int v14)]) hx hb dX6_fewest_87 hl (k := 3) rfl rfl (by decide) rfl (fun ls hl => ?_)
                    refine lv_goto (tgt := 47) hx hb dX6_fewest_90 (by decide) ?_
                    exact ih _ _ hf _ _ _ hP hS (lv_sub hl [1, 2, 3, 0] rfl)
                  · have hf := if_f w hf
                    refine lv_iload_n hx hb dX6_fewest_85 rfl (lv_at hl 3 rfl) ?_
                    refine lv_istore_n (lv' := [(2, .int v15), (0, .ref (ad 48)), (1, .int q11.1), (3, .int v15)]) hx hb dX6_fewest_86 rfl hl (by decide) rfl (fun ls hl => ?_)
                    refine lv_iinc (v := (v15 + 1)) (lv' := [(3, .int (v15 + 1)), (2, .int v15), (0, .ref (ad 48)), (1, .int q11.1)]) hx hb dX6_fewest_87 hl (k := 3) rfl rfl (by decide) rfl (fun ls hl => ?_)
                    refine lv_goto (tgt := 47) hx hb dX6_fewest_90 (by decide) ?_
                    exact ih _ _ hf _ _ _ hP hS (lv_sub hl [2, 3, 1, 0] rfl)
      exact L2 _ _ _ hf _ _ _ hP hS (lv_sub hl [3, 2, 1, 0] rfl)
    replace hf := hq3
    have L1 : ∀ (fuel : Nat) (v1 : Int32) (S2 : QS), lp_X6_fewest_2 fuel v1 S2 = some q3 → ∀ (H : Heap) (locs : List Loc) (ls : Array Slot), va_P D vwCl (wd ca ad S2) H → va_S (Aq ad s.heap.size) s.heap H locs → lv_has ls 4 [(0, .ref (ad 48)), (1, .int v1)] → W p l e rm_X6_fewest s m args below meth c H locs 0 0 (Zi below D ca ad args s o.1 o.2) (F0 m 2 ls []) := by
      intro fuel
      induction fuel with
      | zero =>
        intro v1 S2 hf
        simp [lp_X6_fewest_2] at hf
      | succ fuel ih =>
        intro v1 S2 hf H locs ls hP hS hl
        rw [lp_X6_fewest_2] at hf
        refine lv_iload_n hx hb dX6_fewest_2 rfl (lv_at hl 1 rfl) ?_
        refine lv_sipush (v := 1024) hx hb dX6_fewest_3 (by decide) ?_
        refine lv_icmp_ge (tgt := 22) hx hb dX6_fewest_6 (by decide) (fun w => ?_) (fun w => ?_)
        · have hf := if_t w hf
          obtain rfl := Option.some.inj hf
          exact J1 _ _ _ hP hS (lv_sub hl [0] rfl)
        · have hf := if_f w hf
          refine lv_aload_n hx hb dX6_fewest_9 rfl (lv_at hl 0 rfl) ?_
          refine g_X6_isMask hx hb hX6 hown hKK hP (show qk 48 = 6 from rfl) K53 dX6_fewest_10 ?_
          refine lv_iload_n hx hb dX6_fewest_13 rfl (lv_at hl 1 rfl) ?_
          refine lv_iconst (v := 0) hx hb dX6_fewest_14 (by decide) ?_
          obtain ⟨S4, h5, hf⟩ := bd_e hf
          refine r_zast hx hb hj hKK hP hS (show qk 63 = 8 from rfl) (show qn 63 = 1024 from rfl) h5 dX6_fewest_15 (fun H locs hP hS => ?_)
          refine lv_iinc (v := (v1 + 1)) (lv' := [(1, .int (v1 + 1)), (0, .ref (ad 48))]) hx hb dX6_fewest_16 hl (k := 1) rfl rfl (by decide) rfl (fun ls hl => ?_)
          refine lv_goto (tgt := 2) hx hb dX6_fewest_19 (by decide) ?_
          exact ih _ _ hf _ _ _ hP hS (lv_sub hl [1, 0] rfl)
    exact L1 _ _ _ hf _ _ _ hP hS (lv_sub hl [1, 0] rfl)
  exact main s.heap [] ls hP va_S.rf hl
def rm_X6_ways : Room := { frames := 5, cells := 0, slots := 0, locals := 129 }
set_option maxRecDepth 100000 in
set_option maxHeartbeats 4000000 in
theorem m_X6_ways (l : Launch) (D : va_G) (ca : Nat → ClassId) (ad : Nat → Nat) (hj : Inj ad)  (S : QS) (o : Int64 × QS) (hf : f_X6_ways S = some o) : Cl l D ca ad yX6_ways wsX6_ways rm_X6_ways [.ref (ad 48)] S o.1 o.2 := by
  intro sz
  refine Met.ofW (cc := cX6_ways) (maxL := 2) (ret := (some .long)) (by decide) rfl ?_
  intro p e s m args below meth c s₁ B hml hv
  obtain ⟨hav, hsz, hP, hKK⟩ := hv
  have hx := B.exec
  have hb := B.bytes
  have hr := B.returns
  have hts := atoms_spec (ws := wsX6_ways) B.pre
  have hown : s.vm.findClass RX6 = some m.cls := findClass_of_methodNamed B.named
  have hlocks := B.notSynchronized
  subst hsz
  have hX6 : ∀ w ∈ wsX60, w.before _ s = true := fun w h => hts w (List.mem_cons_of_mem _ (List.mem_append_right _ h))
  have K66 := hts (Cond.fieldLink RX6 66 "CrashDeskModel" "thrown" "I") (List.mem_cons_of_mem _ (List.mem_append_left _ (List.mem_append_left _ (List.mem_of_getElem? (i := 0) rfl))))
  have K117 := hts (Cond.fieldLink RX6 117 "CrashDeskModel" "many" "J") (List.mem_cons_of_mem _ (List.mem_append_left _ (List.mem_append_left _ (List.mem_of_getElem? (i := 1) rfl))))
  have hl := lv_entry [.ref (ad 48)] (n := 2) (Nat.le_of_ble_eq_true rfl)
  rw [show entryFrame m args 2 = entryFrame m ([.ref (ad 48)] : List Value).toArray 2 by rw [hav], lg_entry_eq]
  generalize (lg_sl [.ref (ad 48)] ++ List.replicate (2 - (lg_sl [.ref (ad 48)]).length) Slot.unset).toArray = ls at hl ⊢
  have hl : lv_has ls 2 [(0, .ref (ad 48))] := hl
  have main : ∀ (H : Heap) (locs : List Loc) (ls : Array Slot), va_P D vwCl (wd ca ad S) H → va_S (Aq ad s.heap.size) s.heap H locs → lv_has ls 2 [(0, .ref (ad 48))] → W p l e rm_X6_ways s m args below meth c H locs 0 0 (Zl below D ca ad args s o.1 o.2) (F0 m 0 ls []) := by
    intro H locs ls hP hS hl
    unfold f_X6_ways at hf
    refine lv_aload_n hx hb dX6_ways_0 rfl (lv_at hl 0 rfl) ?_
    refine lv_iconst (v := 0) hx hb dX6_ways_1 (by decide) ?_
    obtain ⟨S1, h2, hf⟩ := bd_e hf
    obtain rfl := Option.some.inj h2
    refine p_X6_thrown hx hb hX6 hown hj hKK hP hS (show qk 48 = 6 from rfl) K66 dX6_ways_2 (fun H locs hP hS => ?_)
    refine lv_aload_n hx hb dX6_ways_5 rfl (lv_at hl 0 rfl) ?_
    refine lv_iconst (v := 0) hx hb dX6_ways_6 (by decide) ?_
    refine lv_iconst (v := (-1)) hx hb dX6_ways_7 (by decide) ?_
    obtain ⟨q4, h3, hf⟩ := bd_e hf
    refine r_ci hS (va_runV (As := [.int 0, .int (-1)]) (rest := []) ⟨hx, hb, hml, hown, hts⟩ (m_X6_goes l D ca ad hj 0 (-1) (setF 48 0 0 S) _ h3 H.size) (cwV 2 hts gX6_ways_X6_goes rfl rfl rfl (by decide +kernel) ⟨Nat.le_of_ble_eq_true rfl, Nat.le_of_ble_eq_true rfl⟩) (r_preV hKK hP (show qk 48 = 6 from rfl) rfl) rfl rfl hl.1 rfl (lv_room (Nat.le_of_ble_eq_true rfl)) dX6_ways_8 ⟨Nat.le_of_ble_eq_true rfl, Nat.le_of_ble_eq_true rfl⟩) (fun H locs hP hS => ?_)
    refine lv_istore_n (lv' := [(1, .int q4.1), (0, .ref (ad 48))]) hx hb dX6_ways_11 rfl hl (by decide) rfl (fun ls hl => ?_)
    refine lv_aload_n hx hb dX6_ways_12 rfl (lv_at hl 1 rfl) ?_
    refine g_X6_many hx hb hX6 hown hKK hP (show qk 48 = 6 from rfl) K117 dX6_ways_13 ?_
    obtain rfl := Option.some.inj hf
    exact r_lret hx hb hr hP hS dX6_ways_16 hlocks
  exact main s.heap [] ls hP va_S.rf hl
def rm_X6_span : Room := { frames := 5, cells := 0, slots := 0, locals := 129 }
set_option maxRecDepth 100000 in
set_option maxHeartbeats 4000000 in
theorem m_X6_span (l : Launch) (D : va_G) (ca : Nat → ClassId) (ad : Nat → Nat) (hj : Inj ad) (a1 : Int32) (a2 : Int32) (a3 : Int32) (a4 : Int32) (S : QS) (o : Int32 × QS) (hf : f_X6_span a1 a2 a3 a4 S = some o) : Ci l D ca ad yX6_span wsX6_span rm_X6_span [.ref (ad 48), .int a1, .int a2, .int a3, .int a4] S o.1 o.2 := by
  intro sz
  refine Met.ofW (cc := cX6_span) (maxL := 6) (ret := (some .int)) (by decide) rfl ?_
  intro p e s m args below meth c s₁ B hml hv
  obtain ⟨hav, hsz, hP, hKK⟩ := hv
  have hx := B.exec
  have hb := B.bytes
  have hr := B.returns
  have hts := atoms_spec (ws := wsX6_span) B.pre
  have hown : s.vm.findClass RX6 = some m.cls := findClass_of_methodNamed B.named
  have hlocks := B.notSynchronized
  subst hsz
  have hX6 : ∀ w ∈ wsX60, w.before _ s = true := fun w h => hts w (List.mem_cons_of_mem _ (List.mem_append_right _ h))
  have K47 := hts (Cond.fieldLink RX6 47 "CrashDeskModel" "isThere" "[Z") (List.mem_cons_of_mem _ (List.mem_append_left _ (List.mem_append_left _ (List.mem_of_getElem? (i := 1) rfl))))
  have K66 := hts (Cond.fieldLink RX6 66 "CrashDeskModel" "thrown" "I") (List.mem_cons_of_mem _ (List.mem_append_left _ (List.mem_append_left _ (List.mem_of_getElem? (i := 0) rfl))))
  have hl := lv_entry [.ref (ad 48), .int a1, .int a2, .int a3, .int a4] (n := 6) (Nat.le_of_ble_eq_true rfl)
  rw [show entryFrame m args 6 = entryFrame m ([.ref (ad 48), .int a1, .int a2, .int a3, .int a4] : List Value).toArray 6 by rw [hav], lg_entry_eq]
  generalize (lg_sl [.ref (ad 48), .int a1, .int a2, .int a3, .int a4] ++ List.replicate (6 - (lg_sl [.ref (ad 48), .int a1, .int a2, .int a3, .int a4]).length) Slot.unset).toArray = ls at hl ⊢
  have hl : lv_has ls 6 [(0, .ref (ad 48)), (1, .int a1), (2, .int a2), (3, .int a3), (4, .int a4)] := hl
  have main : ∀ (H : Heap) (locs : List Loc) (ls : Array Slot), va_P D vwCl (wd ca ad S) H → va_S (Aq ad s.heap.size) s.heap H locs → lv_has ls 6 [(0, .ref (ad 48)), (1, .int a1), (2, .int a2), (3, .int a3), (4, .int a4)] → W p l e rm_X6_span s m args below meth c H locs 0 0 (Zi below D ca ad args s o.1 o.2) (F0 m 0 ls []) := by
    intro H locs ls hP hS hl
    unfold f_X6_span at hf
    refine lv_aload_n hx hb dX6_span_0 rfl (lv_at hl 0 rfl) ?_
    refine lv_iconst (v := 0) hx hb dX6_span_1 (by decide) ?_
    obtain ⟨S1, h2, hf⟩ := bd_e hf
    obtain rfl := Option.some.inj h2
    refine p_X6_thrown hx hb hX6 hown hj hKK hP hS (show qk 48 = 6 from rfl) K66 dX6_span_2 (fun H locs hP hS => ?_)
    refine lv_aload_n hx hb dX6_span_5 rfl (lv_at hl 0 rfl) ?_
    refine lv_iload_n hx hb dX6_span_6 rfl (lv_at hl 1 rfl) ?_
    refine lv_iload_n hx hb dX6_span_7 rfl (lv_at hl 2 rfl) ?_
    obtain ⟨v4, h3, hf⟩ := bd_e hf
    refine r_ci hS (va_runS (As := [.int a1, .int a2]) (rest := [.ref (ad 48)]) ⟨hx, hb, hml, hown, hts⟩ (m_X6_noSpeed l D ca ad hj a1 a2 (setF 48 0 0 S) _ h3 H.size) (cwS 2 hts gX6_span_X6_noSpeed rfl rfl rfl (by decide +kernel) ⟨Nat.le_of_ble_eq_true rfl, Nat.le_of_ble_eq_true rfl⟩) (r_pre hKK hP) rfl rfl hl.1 rfl (lv_room (Nat.le_of_ble_eq_true rfl)) dX6_span_8 ⟨Nat.le_of_ble_eq_true rfl, Nat.le_of_ble_eq_true rfl⟩) (fun H locs hP hS => ?_)
    refine lv_iconst (v := 1) hx hb dX6_span_11 (by decide) ?_
    obtain ⟨q6, h5, hf⟩ := bd_e hf
    refine r_ci hS (va_runV (As := [.int v4, .int 1]) (rest := []) ⟨hx, hb, hml, hown, hts⟩ (m_X6_throwsIf l D ca ad hj v4 1 (setF 48 0 0 S) _ h5 H.size) (cwV 2 hts gX6_span_X6_throwsIf rfl rfl rfl (by decide +kernel) ⟨Nat.le_of_ble_eq_true rfl, Nat.le_of_ble_eq_true rfl⟩) (r_preV hKK hP (show qk 48 = 6 from rfl) rfl) rfl rfl hl.1 rfl (lv_room (Nat.le_of_ble_eq_true rfl)) dX6_span_12 ⟨Nat.le_of_ble_eq_true rfl, Nat.le_of_ble_eq_true rfl⟩) (fun H locs hP hS => ?_)
    refine lv_if_ne (tgt := 52) hx hb dX6_span_15 (by decide) (fun w => ?_) (fun w => ?_)
    · have hf := if_f w hf
      refine lv_iconst (v := 0) hx hb dX6_span_52 (by decide) ?_
      obtain rfl := Option.some.inj hf
      exact r_iret hx hb hr hP hS dX6_span_53 hlocks
    · have hf := if_t w hf
      refine lv_aload_n hx hb dX6_span_18 rfl (lv_at hl 0 rfl) ?_
      refine lv_aload_n hx hb dX6_span_19 rfl (lv_at hl 0 rfl) ?_
      refine lv_iload hx hb dX6_span_20 (lv_at hl 4 rfl) ?_
      obtain ⟨q7, hq7, hf⟩ := bd_e hf
      have J1 : ∀ (H : Heap) (locs : List Loc) (ls : Array Slot), va_P D vwCl (wd ca ad q6.2) H → va_S (Aq ad s.heap.size) s.heap H locs → lv_has ls 6 [(0, .ref (ad 48)), (1, .int a1), (2, .int a2), (3, .int a3)] → W p l e rm_X6_span s m args below meth c H locs 0 0 (Zi below D ca ad args s o.1 o.2) (F0 m 33 ls [.int q7, .ref (ad 48), .ref (ad 48)]) := by
        intro H locs ls hP hS hl
        refine lv_iconst (v := (-1)) hx hb dX6_span_33 (by decide) ?_
        obtain ⟨q11, h10, hf⟩ := bd_e hf
        refine r_ci hS (va_runV (As := [.int q7, .int (-1)]) (rest := [.ref (ad 48)]) ⟨hx, hb, hml, hown, hts⟩ (m_X6_goes l D ca ad hj q7 (-1) q6.2 _ h10 H.size) (cwV 2 hts gX6_span_X6_goes rfl rfl rfl (by decide +kernel) ⟨Nat.le_of_ble_eq_true rfl, Nat.le_of_ble_eq_true rfl⟩) (r_preV hKK hP (show qk 48 = 6 from rfl) rfl) rfl rfl hl.1 rfl (lv_room (Nat.le_of_ble_eq_true rfl)) dX6_span_34 ⟨Nat.le_of_ble_eq_true rfl, Nat.le_of_ble_eq_true rfl⟩) (fun H locs hP hS => ?_)
        obtain ⟨q12, hq12, hf⟩ := bd_e hf
        have J2 : ∀ (H : Heap) (locs : List Loc) (ls : Array Slot), va_P D vwCl (wd ca ad q11.2) H → va_S (Aq ad s.heap.size) s.heap H locs → lv_has ls 6 [(0, .ref (ad 48)), (1, .int a1), (2, .int a2), (3, .int a3)] → W p l e rm_X6_span s m args below meth c H locs 0 0 (Zi below D ca ad args s o.1 o.2) (F0 m 45 ls [.int q12, .ref (ad 48)]) := by
          intro H locs ls hP hS hl
          refine lv_iconst (v := 2) hx hb dX6_span_45 (by decide) ?_
          obtain ⟨q14, h13, hf⟩ := bd_e hf
          refine r_ci hS (va_runV (As := [.int q12, .int 2]) (rest := []) ⟨hx, hb, hml, hown, hts⟩ (m_X6_throwsIf l D ca ad hj q12 2 q11.2 _ h13 H.size) (cwV 2 hts gX6_span_X6_throwsIf rfl rfl rfl (by decide +kernel) ⟨Nat.le_of_ble_eq_true rfl, Nat.le_of_ble_eq_true rfl⟩) (r_preV hKK hP (show qk 48 = 6 from rfl) rfl) rfl rfl hl.1 rfl (lv_room (Nat.le_of_ble_eq_true rfl)) dX6_span_46 ⟨Nat.le_of_ble_eq_true rfl, Nat.le_of_ble_eq_true rfl⟩) (fun H locs hP hS => ?_)
          refine lv_if_eq (tgt := 54) hx hb dX6_span_49 (by decide) (fun w => ?_) (fun w => ?_)
          · have hf := if_t w hf
            refine lv_iload_n hx hb dX6_span_54 rfl (lv_at hl 3 rfl) ?_
            obtain ⟨q15, hq15, hf⟩ := bd_e hf
            have J3 : ∀ (H : Heap) (locs : List Loc) (ls : Array Slot), va_P D vwCl (wd ca ad q14.2) H → va_S (Aq ad s.heap.size) s.heap H locs → lv_has ls 6 [(0, .ref (ad 48)), (1, .int a1), (2, .int a2), (3, .int a3)] → W p l e rm_X6_span s m args below meth c H locs 0 0 (Zi below D ca ad args s o.1 o.2) (F0 m 65 ls [.int q15]) := by
              intro H locs ls hP hS hl
              refine lv_istore (lv' := [(5, .int q15), (0, .ref (ad 48)), (1, .int a1), (2, .int a2), (3, .int a3)]) hx hb dX6_span_65 hl (by decide) rfl (fun ls hl => ?_)
              have L4 : ∀ (fuel : Nat) (v16 : Int32), lp_X6_span_67 a1 a2 a3 q14 fuel v16 = some o → ∀ (H : Heap) (locs : List Loc) (ls : Array Slot), va_P D vwCl (wd ca ad q14.2) H → va_S (Aq ad s.heap.size) s.heap H locs → lv_has ls 6 [(0, .ref (ad 48)), (1, .int a1), (2, .int a2), (3, .int a3), (5, .int v16)] → W p l e rm_X6_span s m args below meth c H locs 0 0 (Zi below D ca ad args s o.1 o.2) (F0 m 67 ls []) := by
                intro fuel
                induction fuel with
                | zero =>
                  intro v16 hf
                  simp [lp_X6_span_67] at hf
                | succ fuel ih =>
                  intro v16 hf H locs ls hP hS hl
                  rw [lp_X6_span_67] at hf
                  refine lv_aload_n hx hb dX6_span_67 rfl (lv_at hl 0 rfl) ?_
                  refine g_X6_isThere hx hb hX6 hown hKK hP (show qk 48 = 6 from rfl) K47 dX6_span_68 ?_
                  refine lv_iconst (v := 3) hx hb dX6_span_71 (by decide) ?_
                  refine lv_iload_n hx hb dX6_span_72 rfl (lv_at hl 1 rfl) ?_
                  refine lv_imul hx hb dX6_span_73 ?_
                  refine lv_iload_n hx hb dX6_span_74 rfl (lv_at hl 2 rfl) ?_
                  refine lv_iadd hx hb dX6_span_75 ?_
                  refine lv_iload hx hb dX6_span_76 (lv_at hl 4 rfl) ?_
                  obtain ⟨v18, h17, hf⟩ := bd_e hf
                  refine r_ci hS (va_runS (As := [.int ((3 * a1) + a2), .int v16]) (rest := [.ref (ad 61)]) ⟨hx, hb, hml, hown, hts⟩ (m_X6_cell l D ca ad hj ((3 * a1) + a2) v16 q14.2 _ h17 H.size) (cwS 2 hts gX6_span_X6_cell rfl rfl rfl (by decide +kernel) ⟨Nat.le_of_ble_eq_true rfl, Nat.le_of_ble_eq_true rfl⟩) (r_pre hKK hP) rfl rfl hl.1 rfl (lv_room (Nat.le_of_ble_eq_true rfl)) dX6_span_78 ⟨Nat.le_of_ble_eq_true rfl, Nat.le_of_ble_eq_true rfl⟩) (fun H locs hP hS => ?_)
                  obtain ⟨v19, h20, hf⟩ := bd_e hf
                  refine r_zald hx hb hKK hP (show qk 61 = 8 from rfl) (show qn 61 = 606 from rfl) h20 dX6_span_81 ?_
                  refine lv_if_ne (tgt := 102) hx hb dX6_span_82 (by decide) (fun w => ?_) (fun w => ?_)
                  · have hf := if_f w hf
                    refine lv_iload hx hb dX6_span_102 (lv_at hl 4 rfl) ?_
                    obtain rfl := Option.some.inj hf
                    exact r_iret hx hb hr hP hS dX6_span_104 hlocks
                  · have hf := if_t w hf
                    refine lv_iload hx hb dX6_span_85 (lv_at hl 4 rfl) ?_
                    refine lv_iload_n hx hb dX6_span_87 rfl (lv_at hl 3 rfl) ?_
                    obtain ⟨q21, hq21, hf⟩ := bd_e hf
                    have J5 : ∀ (H : Heap) (locs : List Loc) (ls : Array Slot), va_P D vwCl (wd ca ad q14.2) H → va_S (Aq ad s.heap.size) s.heap H locs → lv_has ls 6 [(0, .ref (ad 48)), (1, .int a1), (2, .int a2), (3, .int a3)] → W p l e rm_X6_span s m args below meth c H locs 0 0 (Zi below D ca ad args s o.1 o.2) (F0 m 96 ls [.int q21, .int v16]) := by
                      intro H locs ls hP hS hl
                      refine lv_iadd hx hb dX6_span_96 ?_
                      refine lv_istore (lv' := [(5, .int (v16 + q21)), (0, .ref (ad 48)), (1, .int a1), (2, .int a2), (3, .int a3)]) hx hb dX6_span_97 hl (by decide) rfl (fun ls hl => ?_)
                      refine lv_goto (tgt := 67) hx hb dX6_span_99 (by decide) ?_
                      exact ih _ hf _ _ _ hP hS (lv_sub hl [1, 2, 3, 4, 0] rfl)
                    replace hf := hq21
                    refine lv_if_eq (tgt := 95) hx hb dX6_span_88 (by decide) (fun w => ?_) (fun w => ?_)
                    · have hf := if_t w hf
                      refine lv_iconst (v := 1) hx hb dX6_span_95 (by decide) ?_
                      obtain rfl := Option.some.inj hf
                      exact J5 _ _ _ hP hS (lv_sub hl [0, 1, 2, 3] rfl)
                    · have hf := if_f w hf
                      refine lv_iconst (v := (-1)) hx hb dX6_span_91 (by decide) ?_
                      refine lv_goto (tgt := 96) hx hb dX6_span_92 (by decide) ?_
                      obtain rfl := Option.some.inj hf
                      exact J5 _ _ _ hP hS (lv_sub hl [0, 1, 2, 3] rfl)
              exact L4 _ _ hf _ _ _ hP hS (lv_sub hl [1, 2, 3, 4, 0] rfl)
            replace hf := hq15
            refine lv_if_eq (tgt := 63) hx hb dX6_span_55 (by decide) (fun w => ?_) (fun w => ?_)
            · have hf := if_t w hf
              refine lv_bipush (v := (-50)) hx hb dX6_span_63 (by decide) ?_
              obtain rfl := Option.some.inj hf
              exact J3 _ _ _ hP hS (lv_sub hl [0, 1, 2, 3] rfl)
            · have hf := if_f w hf
              refine lv_bipush (v := 50) hx hb dX6_span_58 (by decide) ?_
              refine lv_goto (tgt := 65) hx hb dX6_span_60 (by decide) ?_
              obtain rfl := Option.some.inj hf
              exact J3 _ _ _ hP hS (lv_sub hl [0, 1, 2, 3] rfl)
          · have hf := if_f w hf
            refine lv_iconst (v := 0) hx hb dX6_span_52 (by decide) ?_
            obtain rfl := Option.some.inj hf
            exact r_iret hx hb hr hP hS dX6_span_53 hlocks
        replace hf := hq12
        refine lv_if_ne (tgt := 44) hx hb dX6_span_37 (by decide) (fun w => ?_) (fun w => ?_)
        · have hf := if_f w hf
          refine lv_iconst (v := 0) hx hb dX6_span_44 (by decide) ?_
          obtain rfl := Option.some.inj hf
          exact J2 _ _ _ hP hS (lv_sub hl [0, 1, 2, 3] rfl)
        · have hf := if_t w hf
          refine lv_iconst (v := 1) hx hb dX6_span_40 (by decide) ?_
          refine lv_goto (tgt := 45) hx hb dX6_span_41 (by decide) ?_
          obtain rfl := Option.some.inj hf
          exact J2 _ _ _ hP hS (lv_sub hl [0, 1, 2, 3] rfl)
      replace hf := hq7
      refine lv_if_eq (tgt := 32) hx hb dX6_span_22 (by decide) (fun w => ?_) (fun w => ?_)
      · have hf := if_t w hf
        refine lv_iconst (v := 0) hx hb dX6_span_32 (by decide) ?_
        obtain rfl := Option.some.inj hf
        exact J1 _ _ _ hP hS (lv_sub hl [0, 1, 2, 3] rfl)
      · have hf := if_f w hf
        refine lv_aload_n hx hb dX6_span_25 rfl (lv_at hl 0 rfl) ?_
        obtain ⟨v9, h8, hf⟩ := bd_e hf
        refine r_ci hS (va_runV (As := []) (rest := [.ref (ad 48), .ref (ad 48)]) ⟨hx, hb, hml, hown, hts⟩ (m_X6_all l D ca ad hj q6.2 _ h8 H.size) (cwV 0 hts gX6_span_X6_all rfl rfl rfl (by decide +kernel) ⟨Nat.le_of_ble_eq_true rfl, Nat.le_of_ble_eq_true rfl⟩) (r_preV hKK hP (show qk 48 = 6 from rfl) rfl) rfl rfl hl.1 rfl (lv_room (Nat.le_of_ble_eq_true rfl)) dX6_span_26 ⟨Nat.le_of_ble_eq_true rfl, Nat.le_of_ble_eq_true rfl⟩) (fun H locs hP hS => ?_)
        refine lv_goto (tgt := 33) hx hb dX6_span_29 (by decide) ?_
        obtain rfl := Option.some.inj hf
        exact J1 _ _ _ hP hS (lv_sub hl [0, 1, 2, 3] rfl)
  exact main s.heap [] ls hP va_S.rf hl
def rm_X6_fit : Room := { frames := 5, cells := 0, slots := 0, locals := 129 }
set_option maxRecDepth 100000 in
set_option maxHeartbeats 4000000 in
theorem m_X6_fit (l : Launch) (D : va_G) (ca : Nat → ClassId) (ad : Nat → Nat) (hj : Inj ad) (a1 : Int32) (S : QS) (o : Int32 × QS) (hf : f_X6_fit a1 S = some o) : Ci l D ca ad yX6_fit wsX6_fit rm_X6_fit [.ref (ad 48), .int a1] S o.1 o.2 := by
  intro sz
  refine Met.ofW (cc := cX6_fit) (maxL := 2) (ret := (some .boolean)) (by decide) rfl ?_
  intro p e s m args below meth c s₁ B hml hv
  obtain ⟨hav, hsz, hP, hKK⟩ := hv
  have hx := B.exec
  have hb := B.bytes
  have hr := B.returns
  have hts := atoms_spec (ws := wsX6_fit) B.pre
  have hown : s.vm.findClass RX6 = some m.cls := findClass_of_methodNamed B.named
  have hlocks := B.notSynchronized
  subst hsz
  have hX6 : ∀ w ∈ wsX60, w.before _ s = true := fun w h => hts w (List.mem_cons_of_mem _ (List.mem_append_right _ h))
  have K66 := hts (Cond.fieldLink RX6 66 "CrashDeskModel" "thrown" "I") (List.mem_cons_of_mem _ (List.mem_append_left _ (List.mem_append_left _ (List.mem_of_getElem? (i := 0) rfl))))
  have hl := lv_entry [.ref (ad 48), .int a1] (n := 2) (Nat.le_of_ble_eq_true rfl)
  rw [show entryFrame m args 2 = entryFrame m ([.ref (ad 48), .int a1] : List Value).toArray 2 by rw [hav], lg_entry_eq]
  generalize (lg_sl [.ref (ad 48), .int a1] ++ List.replicate (2 - (lg_sl [.ref (ad 48), .int a1]).length) Slot.unset).toArray = ls at hl ⊢
  have hl : lv_has ls 2 [(0, .ref (ad 48)), (1, .int a1)] := hl
  have main : ∀ (H : Heap) (locs : List Loc) (ls : Array Slot), va_P D vwCl (wd ca ad S) H → va_S (Aq ad s.heap.size) s.heap H locs → lv_has ls 2 [(0, .ref (ad 48)), (1, .int a1)] → W p l e rm_X6_fit s m args below meth c H locs 0 0 (Zi below D ca ad args s o.1 o.2) (F0 m 0 ls []) := by
    intro H locs ls hP hS hl
    unfold f_X6_fit at hf
    refine lv_aload_n hx hb dX6_fit_0 rfl (lv_at hl 0 rfl) ?_
    refine lv_iconst (v := 0) hx hb dX6_fit_1 (by decide) ?_
    obtain ⟨S1, h2, hf⟩ := bd_e hf
    obtain rfl := Option.some.inj h2
    refine p_X6_thrown hx hb hX6 hown hj hKK hP hS (show qk 48 = 6 from rfl) K66 dX6_fit_2 (fun H locs hP hS => ?_)
    refine lv_aload_n hx hb dX6_fit_5 rfl (lv_at hl 0 rfl) ?_
    refine lv_iload_n hx hb dX6_fit_6 rfl (lv_at hl 1 rfl) ?_
    refine lv_aload_n hx hb dX6_fit_7 rfl (lv_at hl 0 rfl) ?_
    obtain ⟨v4, h3, hf⟩ := bd_e hf
    refine r_ci hS (va_runV (As := []) (rest := [.int a1, .ref (ad 48)]) ⟨hx, hb, hml, hown, hts⟩ (m_X6_all l D ca ad hj (setF 48 0 0 S) _ h3 H.size) (cwV 0 hts gX6_fit_X6_all rfl rfl rfl (by decide +kernel) ⟨Nat.le_of_ble_eq_true rfl, Nat.le_of_ble_eq_true rfl⟩) (r_preV hKK hP (show qk 48 = 6 from rfl) rfl) rfl rfl hl.1 rfl (lv_room (Nat.le_of_ble_eq_true rfl)) dX6_fit_8 ⟨Nat.le_of_ble_eq_true rfl, Nat.le_of_ble_eq_true rfl⟩) (fun H locs hP hS => ?_)
    refine lv_iand hx hb dX6_fit_11 ?_
    refine lv_iconst (v := (-1)) hx hb dX6_fit_12 (by decide) ?_
    obtain ⟨q6, h5, hf⟩ := bd_e hf
    refine r_ci hS (va_runV (As := [.int (a1 &&& v4), .int (-1)]) (rest := []) ⟨hx, hb, hml, hown, hts⟩ (m_X6_goes l D ca ad hj (a1 &&& v4) (-1) (setF 48 0 0 S) _ h5 H.size) (cwV 2 hts gX6_fit_X6_goes rfl rfl rfl (by decide +kernel) ⟨Nat.le_of_ble_eq_true rfl, Nat.le_of_ble_eq_true rfl⟩) (r_preV hKK hP (show qk 48 = 6 from rfl) rfl) rfl rfl hl.1 rfl (lv_room (Nat.le_of_ble_eq_true rfl)) dX6_fit_13 ⟨Nat.le_of_ble_eq_true rfl, Nat.le_of_ble_eq_true rfl⟩) (fun H locs hP hS => ?_)
    obtain ⟨v7, h8, hf⟩ := bd_e hf
    obtain ⟨h8z, h8e⟩ := q_zb h8
    rw [h8e] at hf
    obtain rfl := Option.some.inj hf
    exact r_zret hx hb hr hP hS h8z dX6_fit_16 hlocks
  exact main s.heap [] ls hP va_S.rf hl
def rm_X6_wrong : Room := { frames := 6, cells := 0, slots := 0, locals := 152 }
set_option maxRecDepth 100000 in
set_option maxHeartbeats 4000000 in
theorem m_X6_wrong (l : Launch) (D : va_G) (ca : Nat → ClassId) (ad : Nat → Nat) (hj : Inj ad)  (S : QS) (o : Int32 × QS) (hf : f_X6_wrong S = some o) : Ci l D ca ad yX6_wrong wsX6_wrong rm_X6_wrong [.ref (ad 48)] S o.1 o.2 := by
  intro sz
  refine Met.ofW (cc := cX6_wrong) (maxL := 2) (ret := (some .int)) (by decide) rfl ?_
  intro p e s m args below meth c s₁ B hml hv
  obtain ⟨hav, hsz, hP, hKK⟩ := hv
  have hx := B.exec
  have hb := B.bytes
  have hr := B.returns
  have hts := atoms_spec (ws := wsX6_wrong) B.pre
  have hown : s.vm.findClass RX6 = some m.cls := findClass_of_methodNamed B.named
  have hlocks := B.notSynchronized
  subst hsz
  have hX6 : ∀ w ∈ wsX60, w.before _ s = true := fun w h => hts w (List.mem_cons_of_mem _ (List.mem_append_right _ h))
  have K66 := hts (Cond.fieldLink RX6 66 "CrashDeskModel" "thrown" "I") (List.mem_cons_of_mem _ (List.mem_append_left _ (List.mem_append_left _ (List.mem_of_getElem? (i := 0) rfl))))
  have hl := lv_entry [.ref (ad 48)] (n := 2) (Nat.le_of_ble_eq_true rfl)
  rw [show entryFrame m args 2 = entryFrame m ([.ref (ad 48)] : List Value).toArray 2 by rw [hav], lg_entry_eq]
  generalize (lg_sl [.ref (ad 48)] ++ List.replicate (2 - (lg_sl [.ref (ad 48)]).length) Slot.unset).toArray = ls at hl ⊢
  have hl : lv_has ls 2 [(0, .ref (ad 48))] := hl
  have main : ∀ (H : Heap) (locs : List Loc) (ls : Array Slot), va_P D vwCl (wd ca ad S) H → va_S (Aq ad s.heap.size) s.heap H locs → lv_has ls 2 [(0, .ref (ad 48))] → W p l e rm_X6_wrong s m args below meth c H locs 0 0 (Zi below D ca ad args s o.1 o.2) (F0 m 0 ls []) := by
    intro H locs ls hP hS hl
    unfold f_X6_wrong at hf
    refine lv_aload_n hx hb dX6_wrong_0 rfl (lv_at hl 0 rfl) ?_
    refine lv_iconst (v := 0) hx hb dX6_wrong_1 (by decide) ?_
    obtain ⟨S1, h2, hf⟩ := bd_e hf
    obtain rfl := Option.some.inj h2
    refine p_X6_thrown hx hb hX6 hown hj hKK hP hS (show qk 48 = 6 from rfl) K66 dX6_wrong_2 (fun H locs hP hS => ?_)
    refine lv_aload_n hx hb dX6_wrong_5 rfl (lv_at hl 0 rfl) ?_
    obtain ⟨q4, h3, hf⟩ := bd_e hf
    refine r_ci hS (va_runV (As := []) (rest := []) ⟨hx, hb, hml, hown, hts⟩ (m_X6_fewest l D ca ad hj (setF 48 0 0 S) _ h3 H.size) (cwV 0 hts gX6_wrong_X6_fewest rfl rfl rfl (by decide +kernel) ⟨Nat.le_of_ble_eq_true rfl, Nat.le_of_ble_eq_true rfl⟩) (r_preV hKK hP (show qk 48 = 6 from rfl) rfl) rfl rfl hl.1 rfl (lv_room (Nat.le_of_ble_eq_true rfl)) dX6_wrong_6 ⟨Nat.le_of_ble_eq_true rfl, Nat.le_of_ble_eq_true rfl⟩) (fun H locs hP hS => ?_)
    refine lv_istore_n (lv' := [(1, .int q4.1), (0, .ref (ad 48))]) hx hb dX6_wrong_9 rfl hl (by decide) rfl (fun ls hl => ?_)
    refine lv_iload_n hx hb dX6_wrong_10 rfl (lv_at hl 0 rfl) ?_
    refine lv_if_ge (tgt := 18) hx hb dX6_wrong_11 (by decide) (fun w => ?_) (fun w => ?_)
    · have hf := if_t w hf
      refine lv_iload_n hx hb dX6_wrong_18 rfl (lv_at hl 0 rfl) ?_
      obtain ⟨v6, h5, hf⟩ := bd_e hf
      refine r_ci hS (va_runS (As := [.int q4.1]) (rest := []) ⟨hx, hb, hml, hown, hts⟩ (m_J6_bitCount_0f7a4 l D ca ad hj q4.1 q4.2 _ h5 H.size) (va_cwS 1 hts gX6_wrong_J6_bitCount_0f7a4 rfl rfl rfl (by decide +kernel) ⟨Nat.le_of_ble_eq_true rfl, Nat.le_of_ble_eq_true rfl⟩) (r_pre hKK hP) rfl rfl hl.1 rfl (lv_room (Nat.le_of_ble_eq_true rfl)) dX6_wrong_19 ⟨Nat.le_of_ble_eq_true rfl, Nat.le_of_ble_eq_true rfl⟩) (fun H locs hP hS => ?_)
      obtain rfl := Option.some.inj hf
      exact r_iret hx hb hr hP hS dX6_wrong_22 hlocks
    · have hf := if_f w hf
      refine lv_iconst (v := (-1)) hx hb dX6_wrong_14 (by decide) ?_
      refine lv_goto (tgt := 22) hx hb dX6_wrong_15 (by decide) ?_
      obtain rfl := Option.some.inj hf
      exact r_iret hx hb hr hP hS dX6_wrong_22 hlocks
  exact main s.heap [] ls hP va_S.rf hl
def rm_X6_which : Room := { frames := 6, cells := 0, slots := 0, locals := 152 }
set_option maxRecDepth 100000 in
set_option maxHeartbeats 4000000 in
theorem m_X6_which (l : Launch) (D : va_G) (ca : Nat → ClassId) (ad : Nat → Nat) (hj : Inj ad)  (S : QS) (o : Int32 × QS) (hf : f_X6_which S = some o) : Ci l D ca ad yX6_which wsX6_which rm_X6_which [.ref (ad 48)] S o.1 o.2 := by
  intro sz
  refine Met.ofW (cc := cX6_which) (maxL := 1) (ret := (some .int)) (by decide) rfl ?_
  intro p e s m args below meth c s₁ B hml hv
  obtain ⟨hav, hsz, hP, hKK⟩ := hv
  have hx := B.exec
  have hb := B.bytes
  have hr := B.returns
  have hts := atoms_spec (ws := wsX6_which) B.pre
  have hown : s.vm.findClass RX6 = some m.cls := findClass_of_methodNamed B.named
  have hlocks := B.notSynchronized
  subst hsz
  have hX6 : ∀ w ∈ wsX60, w.before _ s = true := fun w h => hts w (List.mem_cons_of_mem _ (List.mem_append_right _ h))
  have K66 := hts (Cond.fieldLink RX6 66 "CrashDeskModel" "thrown" "I") (List.mem_cons_of_mem _ (List.mem_append_left _ (List.mem_append_left _ (List.mem_of_getElem? (i := 0) rfl))))
  have hl := lv_entry [.ref (ad 48)] (n := 1) (Nat.le_of_ble_eq_true rfl)
  rw [show entryFrame m args 1 = entryFrame m ([.ref (ad 48)] : List Value).toArray 1 by rw [hav], lg_entry_eq]
  generalize (lg_sl [.ref (ad 48)] ++ List.replicate (1 - (lg_sl [.ref (ad 48)]).length) Slot.unset).toArray = ls at hl ⊢
  have hl : lv_has ls 1 [(0, .ref (ad 48))] := hl
  have main : ∀ (H : Heap) (locs : List Loc) (ls : Array Slot), va_P D vwCl (wd ca ad S) H → va_S (Aq ad s.heap.size) s.heap H locs → lv_has ls 1 [(0, .ref (ad 48))] → W p l e rm_X6_which s m args below meth c H locs 0 0 (Zi below D ca ad args s o.1 o.2) (F0 m 0 ls []) := by
    intro H locs ls hP hS hl
    unfold f_X6_which at hf
    refine lv_aload_n hx hb dX6_which_0 rfl (lv_at hl 0 rfl) ?_
    refine lv_iconst (v := 0) hx hb dX6_which_1 (by decide) ?_
    obtain ⟨S1, h2, hf⟩ := bd_e hf
    obtain rfl := Option.some.inj h2
    refine p_X6_thrown hx hb hX6 hown hj hKK hP hS (show qk 48 = 6 from rfl) K66 dX6_which_2 (fun H locs hP hS => ?_)
    refine lv_aload_n hx hb dX6_which_5 rfl (lv_at hl 0 rfl) ?_
    obtain ⟨q4, h3, hf⟩ := bd_e hf
    refine r_ci hS (va_runV (As := []) (rest := []) ⟨hx, hb, hml, hown, hts⟩ (m_X6_fewest l D ca ad hj (setF 48 0 0 S) _ h3 H.size) (cwV 0 hts gX6_which_X6_fewest rfl rfl rfl (by decide +kernel) ⟨Nat.le_of_ble_eq_true rfl, Nat.le_of_ble_eq_true rfl⟩) (r_preV hKK hP (show qk 48 = 6 from rfl) rfl) rfl rfl hl.1 rfl (lv_room (Nat.le_of_ble_eq_true rfl)) dX6_which_6 ⟨Nat.le_of_ble_eq_true rfl, Nat.le_of_ble_eq_true rfl⟩) (fun H locs hP hS => ?_)
    obtain rfl := Option.some.inj hf
    exact r_iret hx hb hr hP hS dX6_which_9 hlocks
  exact main s.heap [] ls hP va_S.rf hl
def rm_X6_odds : Room := { frames := 5, cells := 0, slots := 0, locals := 129 }
set_option maxRecDepth 100000 in
set_option maxHeartbeats 4000000 in
theorem m_X6_odds (l : Launch) (D : va_G) (ca : Nat → ClassId) (ad : Nat → Nat) (hj : Inj ad)  (S : QS) (o : Int32 × QS) (hf : f_X6_odds S = some o) : Ci l D ca ad yX6_odds wsX6_odds rm_X6_odds [.ref (ad 48)] S o.1 o.2 := by
  intro sz
  refine Met.ofW (cc := cX6_odds) (maxL := 3) (ret := (some .int)) (by decide) rfl ?_
  intro p e s m args below meth c s₁ B hml hv
  obtain ⟨hav, hsz, hP, hKK⟩ := hv
  have hx := B.exec
  have hb := B.bytes
  have hr := B.returns
  have hts := atoms_spec (ws := wsX6_odds) B.pre
  have hown : s.vm.findClass RX6 = some m.cls := findClass_of_methodNamed B.named
  have hlocks := B.notSynchronized
  subst hsz
  have hX6 : ∀ w ∈ wsX60, w.before _ s = true := fun w h => hts w (List.mem_cons_of_mem _ (List.mem_append_right _ h))
  have K26 := hts (Cond.fieldLink RX6 26 "CrashDeskModel" "isDropped" "[Z") (List.mem_cons_of_mem _ (List.mem_append_left _ (List.mem_append_left _ (List.mem_of_getElem? (i := 2) rfl))))
  have K66 := hts (Cond.fieldLink RX6 66 "CrashDeskModel" "thrown" "I") (List.mem_cons_of_mem _ (List.mem_append_left _ (List.mem_append_left _ (List.mem_of_getElem? (i := 0) rfl))))
  have K82 := hts (Cond.fieldLink RX6 82 "CrashDeskModel" "skids" "I") (List.mem_cons_of_mem _ (List.mem_append_left _ (List.mem_append_left _ (List.mem_of_getElem? (i := 1) rfl))))
  have hl := lv_entry [.ref (ad 48)] (n := 3) (Nat.le_of_ble_eq_true rfl)
  rw [show entryFrame m args 3 = entryFrame m ([.ref (ad 48)] : List Value).toArray 3 by rw [hav], lg_entry_eq]
  generalize (lg_sl [.ref (ad 48)] ++ List.replicate (3 - (lg_sl [.ref (ad 48)]).length) Slot.unset).toArray = ls at hl ⊢
  have hl : lv_has ls 3 [(0, .ref (ad 48))] := hl
  have main : ∀ (H : Heap) (locs : List Loc) (ls : Array Slot), va_P D vwCl (wd ca ad S) H → va_S (Aq ad s.heap.size) s.heap H locs → lv_has ls 3 [(0, .ref (ad 48))] → W p l e rm_X6_odds s m args below meth c H locs 0 0 (Zi below D ca ad args s o.1 o.2) (F0 m 0 ls []) := by
    intro H locs ls hP hS hl
    unfold f_X6_odds at hf
    refine lv_aload_n hx hb dX6_odds_0 rfl (lv_at hl 0 rfl) ?_
    refine lv_iconst (v := 0) hx hb dX6_odds_1 (by decide) ?_
    obtain ⟨S1, h2, hf⟩ := bd_e hf
    obtain rfl := Option.some.inj h2
    refine p_X6_thrown hx hb hX6 hown hj hKK hP hS (show qk 48 = 6 from rfl) K66 dX6_odds_2 (fun H locs hP hS => ?_)
    refine lv_aload_n hx hb dX6_odds_5 rfl (lv_at hl 0 rfl) ?_
    refine lv_iconst (v := 0) hx hb dX6_odds_6 (by decide) ?_
    refine lv_iconst (v := (-1)) hx hb dX6_odds_7 (by decide) ?_
    obtain ⟨q4, h3, hf⟩ := bd_e hf
    refine r_ci hS (va_runV (As := [.int 0, .int (-1)]) (rest := []) ⟨hx, hb, hml, hown, hts⟩ (m_X6_goes l D ca ad hj 0 (-1) (setF 48 0 0 S) _ h3 H.size) (cwV 2 hts gX6_odds_X6_goes rfl rfl rfl (by decide +kernel) ⟨Nat.le_of_ble_eq_true rfl, Nat.le_of_ble_eq_true rfl⟩) (r_preV hKK hP (show qk 48 = 6 from rfl) rfl) rfl rfl hl.1 rfl (lv_room (Nat.le_of_ble_eq_true rfl)) dX6_odds_8 ⟨Nat.le_of_ble_eq_true rfl, Nat.le_of_ble_eq_true rfl⟩) (fun H locs hP hS => ?_)
    refine lv_if_eq (tgt := 16) hx hb dX6_odds_11 (by decide) (fun w => ?_) (fun w => ?_)
    · have hf := if_t w hf
      refine lv_iconst (v := 0) hx hb dX6_odds_16 (by decide) ?_
      refine lv_istore_n (lv' := [(1, .int 0), (0, .ref (ad 48))]) hx hb dX6_odds_17 rfl hl (by decide) rfl (fun ls hl => ?_)
      refine lv_iconst (v := 0) hx hb dX6_odds_18 (by decide) ?_
      refine lv_istore_n (lv' := [(2, .int 0), (1, .int 0), (0, .ref (ad 48))]) hx hb dX6_odds_19 rfl hl (by decide) rfl (fun ls hl => ?_)
      have L1 : ∀ (fuel : Nat) (v5 : Int32) (v6 : Int32) (S7 : QS), lp_X6_odds_20 fuel v5 v6 S7 = some o → ∀ (H : Heap) (locs : List Loc) (ls : Array Slot), va_P D vwCl (wd ca ad S7) H → va_S (Aq ad s.heap.size) s.heap H locs → lv_has ls 3 [(0, .ref (ad 48)), (1, .int v5), (2, .int v6)] → W p l e rm_X6_odds s m args below meth c H locs 0 0 (Zi below D ca ad args s o.1 o.2) (F0 m 20 ls []) := by
        intro fuel
        induction fuel with
        | zero =>
          intro v5 v6 S7 hf
          simp [lp_X6_odds_20] at hf
        | succ fuel ih =>
          intro v5 v6 S7 hf H locs ls hP hS hl
          rw [lp_X6_odds_20] at hf
          refine lv_iload_n hx hb dX6_odds_20 rfl (lv_at hl 2 rfl) ?_
          refine lv_aload_n hx hb dX6_odds_21 rfl (lv_at hl 0 rfl) ?_
          refine g_X6_skids hx hb hX6 hown hKK hP (show qk 48 = 6 from rfl) K82 dX6_odds_22 ?_
          refine lv_icmp_ge (tgt := 62) hx hb dX6_odds_25 (by decide) (fun w => ?_) (fun w => ?_)
          · have hf := if_t w hf
            refine lv_iload_n hx hb dX6_odds_62 rfl (lv_at hl 1 rfl) ?_
            obtain rfl := Option.some.inj hf
            exact r_iret hx hb hr hP hS dX6_odds_63 hlocks
          · have hf := if_f w hf
            refine lv_iload_n hx hb dX6_odds_28 rfl (lv_at hl 1 rfl) ?_
            refine lv_aload_n hx hb dX6_odds_29 rfl (lv_at hl 0 rfl) ?_
            refine g_X6_isDropped hx hb hX6 hown hKK hP (show qk 48 = 6 from rfl) K26 dX6_odds_30 ?_
            refine lv_iload_n hx hb dX6_odds_33 rfl (lv_at hl 2 rfl) ?_
            obtain ⟨v8, h9, hf⟩ := bd_e hf
            refine r_zald hx hb hKK hP (show qk 54 = 8 from rfl) (show qn 54 = 12 from rfl) h9 dX6_odds_34 ?_
            obtain ⟨q10, hq10, hf⟩ := bd_e hf
            have J2 : ∀ (H : Heap) (locs : List Loc) (ls : Array Slot), va_P D vwCl (wd ca ad q10.2) H → va_S (Aq ad s.heap.size) s.heap H locs → lv_has ls 3 [(0, .ref (ad 48)), (2, .int v6)] → W p l e rm_X6_odds s m args below meth c H locs 0 0 (Zi below D ca ad args s o.1 o.2) (F0 m 54 ls [.int q10.1, .int v5]) := by
              intro H locs ls hP hS hl
              refine lv_ior hx hb dX6_odds_54 ?_
              refine lv_istore_n (lv' := [(1, .int (v5 ||| q10.1)), (0, .ref (ad 48)), (2, .int v6)]) hx hb dX6_odds_55 rfl hl (by decide) rfl (fun ls hl => ?_)
              refine lv_iinc (v := (v6 + 1)) (lv' := [(2, .int (v6 + 1)), (1, .int (v5 ||| q10.1)), (0, .ref (ad 48))]) hx hb dX6_odds_56 hl (k := 2) rfl rfl (by decide) rfl (fun ls hl => ?_)
              refine lv_goto (tgt := 20) hx hb dX6_odds_59 (by decide) ?_
              exact ih _ _ _ hf _ _ _ hP hS (lv_sub hl [2, 1, 0] rfl)
            replace hf := hq10
            refine lv_if_ne (tgt := 53) hx hb dX6_odds_35 (by decide) (fun w => ?_) (fun w => ?_)
            · have hf := if_f w hf
              refine lv_iconst (v := 0) hx hb dX6_odds_53 (by decide) ?_
              obtain rfl := Option.some.inj hf
              exact J2 _ _ _ hP hS (lv_sub hl [0, 2] rfl)
            · have hf := if_t w hf
              refine lv_aload_n hx hb dX6_odds_38 rfl (lv_at hl 0 rfl) ?_
              refine lv_iconst (v := 0) hx hb dX6_odds_39 (by decide) ?_
              refine lv_iload_n hx hb dX6_odds_40 rfl (lv_at hl 2 rfl) ?_
              obtain ⟨q12, h11, hf⟩ := bd_e hf
              refine r_ci hS (va_runV (As := [.int 0, .int v6]) (rest := [.int v5]) ⟨hx, hb, hml, hown, hts⟩ (m_X6_goes l D ca ad hj 0 v6 S7 _ h11 H.size) (cwV 2 hts gX6_odds_X6_goes rfl rfl rfl (by decide +kernel) ⟨Nat.le_of_ble_eq_true rfl, Nat.le_of_ble_eq_true rfl⟩) (r_preV hKK hP (show qk 48 = 6 from rfl) rfl) rfl rfl hl.1 rfl (lv_room (Nat.le_of_ble_eq_true rfl)) dX6_odds_41 ⟨Nat.le_of_ble_eq_true rfl, Nat.le_of_ble_eq_true rfl⟩) (fun H locs hP hS => ?_)
              refine lv_if_eq (tgt := 53) hx hb dX6_odds_44 (by decide) (fun w => ?_) (fun w => ?_)
              · have hf := if_t w hf
                refine lv_iconst (v := 0) hx hb dX6_odds_53 (by decide) ?_
                obtain rfl := Option.some.inj hf
                exact J2 _ _ _ hP hS (lv_sub hl [0, 2] rfl)
              · have hf := if_f w hf
                refine lv_iconst (v := 1) hx hb dX6_odds_47 (by decide) ?_
                refine lv_iload_n hx hb dX6_odds_48 rfl (lv_at hl 2 rfl) ?_
                refine lv_ishl hx hb dX6_odds_49 ?_
                refine lv_goto (tgt := 54) hx hb dX6_odds_50 (by decide) ?_
                obtain rfl := Option.some.inj hf
                exact J2 _ _ _ hP hS (lv_sub hl [0, 2] rfl)
      exact L1 _ _ _ _ hf _ _ _ hP hS (lv_sub hl [2, 1, 0] rfl)
    · have hf := if_f w hf
      refine lv_iconst (v := 0) hx hb dX6_odds_14 (by decide) ?_
      obtain rfl := Option.some.inj hf
      exact r_iret hx hb hr hP hS dX6_odds_15 hlocks
  exact main s.heap [] ls hP va_S.rf hl
def rm_X6_avoided : Room := { frames := 5, cells := 0, slots := 0, locals := 129 }
set_option maxRecDepth 100000 in
set_option maxHeartbeats 4000000 in
theorem m_X6_avoided (l : Launch) (D : va_G) (ca : Nat → ClassId) (ad : Nat → Nat) (hj : Inj ad) (a1 : Int32) (a2 : Int32) (a3 : Int32) (S : QS) (o : Int32 × QS) (hf : f_X6_avoided a1 a2 a3 S = some o) : Ci l D ca ad yX6_avoided wsX6_avoided rm_X6_avoided [.ref (ad 48), .int a1, .int a2, .int a3] S o.1 o.2 := by
  intro sz
  refine Met.ofW (cc := cX6_avoided) (maxL := 8) (ret := (some .int)) (by decide) rfl ?_
  intro p e s m args below meth c s₁ B hml hv
  obtain ⟨hav, hsz, hP, hKK⟩ := hv
  have hx := B.exec
  have hb := B.bytes
  have hr := B.returns
  have hts := atoms_spec (ws := wsX6_avoided) B.pre
  have hown : s.vm.findClass RX6 = some m.cls := findClass_of_methodNamed B.named
  have hlocks := B.notSynchronized
  subst hsz
  have hX6 : ∀ w ∈ wsX60, w.before _ s = true := fun w h => hts w (List.mem_cons_of_mem _ (List.mem_append_right _ h))
  have K47 := hts (Cond.fieldLink RX6 47 "CrashDeskModel" "isThere" "[Z") (List.mem_cons_of_mem _ (List.mem_append_left _ (List.mem_append_left _ (List.mem_of_getElem? (i := 1) rfl))))
  have K66 := hts (Cond.fieldLink RX6 66 "CrashDeskModel" "thrown" "I") (List.mem_cons_of_mem _ (List.mem_append_left _ (List.mem_append_left _ (List.mem_of_getElem? (i := 0) rfl))))
  have hl := lv_entry [.ref (ad 48), .int a1, .int a2, .int a3] (n := 8) (Nat.le_of_ble_eq_true rfl)
  rw [show entryFrame m args 8 = entryFrame m ([.ref (ad 48), .int a1, .int a2, .int a3] : List Value).toArray 8 by rw [hav], lg_entry_eq]
  generalize (lg_sl [.ref (ad 48), .int a1, .int a2, .int a3] ++ List.replicate (8 - (lg_sl [.ref (ad 48), .int a1, .int a2, .int a3]).length) Slot.unset).toArray = ls at hl ⊢
  have hl : lv_has ls 8 [(0, .ref (ad 48)), (1, .int a1), (2, .int a2), (3, .int a3)] := hl
  have main : ∀ (H : Heap) (locs : List Loc) (ls : Array Slot), va_P D vwCl (wd ca ad S) H → va_S (Aq ad s.heap.size) s.heap H locs → lv_has ls 8 [(0, .ref (ad 48)), (1, .int a1), (2, .int a2), (3, .int a3)] → W p l e rm_X6_avoided s m args below meth c H locs 0 0 (Zi below D ca ad args s o.1 o.2) (F0 m 0 ls []) := by
    intro H locs ls hP hS hl
    unfold f_X6_avoided at hf
    refine lv_aload_n hx hb dX6_avoided_0 rfl (lv_at hl 0 rfl) ?_
    refine lv_iconst (v := 0) hx hb dX6_avoided_1 (by decide) ?_
    obtain ⟨S1, h2, hf⟩ := bd_e hf
    obtain rfl := Option.some.inj h2
    refine p_X6_thrown hx hb hX6 hown hj hKK hP hS (show qk 48 = 6 from rfl) K66 dX6_avoided_2 (fun H locs hP hS => ?_)
    refine lv_aload_n hx hb dX6_avoided_5 rfl (lv_at hl 0 rfl) ?_
    refine lv_iload_n hx hb dX6_avoided_6 rfl (lv_at hl 1 rfl) ?_
    obtain ⟨v4, h3, hf⟩ := bd_e hf
    refine r_ci hS (va_runS (As := [.int a1]) (rest := [.ref (ad 48)]) ⟨hx, hb, hml, hown, hts⟩ (m_X6_noCar l D ca ad hj a1 (setF 48 0 0 S) _ h3 H.size) (cwS 1 hts gX6_avoided_X6_noCar rfl rfl rfl (by decide +kernel) ⟨Nat.le_of_ble_eq_true rfl, Nat.le_of_ble_eq_true rfl⟩) (r_pre hKK hP) rfl rfl hl.1 rfl (lv_room (Nat.le_of_ble_eq_true rfl)) dX6_avoided_7 ⟨Nat.le_of_ble_eq_true rfl, Nat.le_of_ble_eq_true rfl⟩) (fun H locs hP hS => ?_)
    refine lv_iconst (v := 1) hx hb dX6_avoided_10 (by decide) ?_
    obtain ⟨q6, h5, hf⟩ := bd_e hf
    refine r_ci hS (va_runV (As := [.int v4, .int 1]) (rest := []) ⟨hx, hb, hml, hown, hts⟩ (m_X6_throwsIf l D ca ad hj v4 1 (setF 48 0 0 S) _ h5 H.size) (cwV 2 hts gX6_avoided_X6_throwsIf rfl rfl rfl (by decide +kernel) ⟨Nat.le_of_ble_eq_true rfl, Nat.le_of_ble_eq_true rfl⟩) (r_preV hKK hP (show qk 48 = 6 from rfl) rfl) rfl rfl hl.1 rfl (lv_room (Nat.le_of_ble_eq_true rfl)) dX6_avoided_11 ⟨Nat.le_of_ble_eq_true rfl, Nat.le_of_ble_eq_true rfl⟩) (fun H locs hP hS => ?_)
    refine lv_if_ne (tgt := 74) hx hb dX6_avoided_14 (by decide) (fun w => ?_) (fun w => ?_)
    · have hf := if_f w hf
      refine lv_iconst (v := 0) hx hb dX6_avoided_74 (by decide) ?_
      obtain rfl := Option.some.inj hf
      exact r_iret hx hb hr hP hS dX6_avoided_75 hlocks
    · have hf := if_t w hf
      refine lv_aload_n hx hb dX6_avoided_17 rfl (lv_at hl 0 rfl) ?_
      refine lv_iload_n hx hb dX6_avoided_18 rfl (lv_at hl 2 rfl) ?_
      refine lv_iconst (v := 0) hx hb dX6_avoided_19 (by decide) ?_
      refine lv_sipush (v := 2000) hx hb dX6_avoided_20 (by decide) ?_
      obtain ⟨v8, h7, hf⟩ := bd_e hf
      refine r_ci hS (va_runS (As := [.int a2, .int 0, .int 2000]) (rest := [.ref (ad 48)]) ⟨hx, hb, hml, hown, hts⟩ (m_X6_in l D ca ad hj a2 0 2000 q6.2 _ h7 H.size) (cwS 3 hts gX6_avoided_X6_in rfl rfl rfl (by decide +kernel) ⟨Nat.le_of_ble_eq_true rfl, Nat.le_of_ble_eq_true rfl⟩) (r_pre hKK hP) rfl rfl hl.1 rfl (lv_room (Nat.le_of_ble_eq_true rfl)) dX6_avoided_23 ⟨Nat.le_of_ble_eq_true rfl, Nat.le_of_ble_eq_true rfl⟩) (fun H locs hP hS => ?_)
      obtain ⟨q9, hq9, hf⟩ := bd_e hf
      have J1 : ∀ (H : Heap) (locs : List Loc) (ls : Array Slot), va_P D vwCl (wd ca ad q6.2) H → va_S (Aq ad s.heap.size) s.heap H locs → lv_has ls 8 [(0, .ref (ad 48)), (1, .int a1), (2, .int a2), (3, .int a3)] → W p l e rm_X6_avoided s m args below meth c H locs 0 0 (Zi below D ca ad args s o.1 o.2) (F0 m 45 ls [.int q9, .ref (ad 48)]) := by
        intro H locs ls hP hS hl
        refine lv_iconst (v := 2) hx hb dX6_avoided_45 (by decide) ?_
        obtain ⟨q13, h12, hf⟩ := bd_e hf
        refine r_ci hS (va_runV (As := [.int q9, .int 2]) (rest := []) ⟨hx, hb, hml, hown, hts⟩ (m_X6_throwsIf l D ca ad hj q9 2 q6.2 _ h12 H.size) (cwV 2 hts gX6_avoided_X6_throwsIf rfl rfl rfl (by decide +kernel) ⟨Nat.le_of_ble_eq_true rfl, Nat.le_of_ble_eq_true rfl⟩) (r_preV hKK hP (show qk 48 = 6 from rfl) rfl) rfl rfl hl.1 rfl (lv_room (Nat.le_of_ble_eq_true rfl)) dX6_avoided_46 ⟨Nat.le_of_ble_eq_true rfl, Nat.le_of_ble_eq_true rfl⟩) (fun H locs hP hS => ?_)
        refine lv_if_ne (tgt := 74) hx hb dX6_avoided_49 (by decide) (fun w => ?_) (fun w => ?_)
        · have hf := if_f w hf
          refine lv_iconst (v := 0) hx hb dX6_avoided_74 (by decide) ?_
          obtain rfl := Option.some.inj hf
          exact r_iret hx hb hr hP hS dX6_avoided_75 hlocks
        · have hf := if_t w hf
          refine lv_aload_n hx hb dX6_avoided_52 rfl (lv_at hl 0 rfl) ?_
          refine lv_aload_n hx hb dX6_avoided_53 rfl (lv_at hl 0 rfl) ?_
          refine lv_iconst (v := 0) hx hb dX6_avoided_54 (by decide) ?_
          refine lv_iconst (v := (-1)) hx hb dX6_avoided_55 (by decide) ?_
          obtain ⟨q15, h14, hf⟩ := bd_e hf
          refine r_ci hS (va_runV (As := [.int 0, .int (-1)]) (rest := [.ref (ad 48)]) ⟨hx, hb, hml, hown, hts⟩ (m_X6_goes l D ca ad hj 0 (-1) q13.2 _ h14 H.size) (cwV 2 hts gX6_avoided_X6_goes rfl rfl rfl (by decide +kernel) ⟨Nat.le_of_ble_eq_true rfl, Nat.le_of_ble_eq_true rfl⟩) (r_preV hKK hP (show qk 48 = 6 from rfl) rfl) rfl rfl hl.1 rfl (lv_room (Nat.le_of_ble_eq_true rfl)) dX6_avoided_56 ⟨Nat.le_of_ble_eq_true rfl, Nat.le_of_ble_eq_true rfl⟩) (fun H locs hP hS => ?_)
          obtain ⟨q16, hq16, hf⟩ := bd_e hf
          have J2 : ∀ (H : Heap) (locs : List Loc) (ls : Array Slot), va_P D vwCl (wd ca ad q15.2) H → va_S (Aq ad s.heap.size) s.heap H locs → lv_has ls 8 [(0, .ref (ad 48)), (1, .int a1), (2, .int a2), (3, .int a3)] → W p l e rm_X6_avoided s m args below meth c H locs 0 0 (Zi below D ca ad args s o.1 o.2) (F0 m 67 ls [.int q16, .ref (ad 48)]) := by
            intro H locs ls hP hS hl
            refine lv_iconst (v := 3) hx hb dX6_avoided_67 (by decide) ?_
            obtain ⟨q18, h17, hf⟩ := bd_e hf
            refine r_ci hS (va_runV (As := [.int q16, .int 3]) (rest := []) ⟨hx, hb, hml, hown, hts⟩ (m_X6_throwsIf l D ca ad hj q16 3 q15.2 _ h17 H.size) (cwV 2 hts gX6_avoided_X6_throwsIf rfl rfl rfl (by decide +kernel) ⟨Nat.le_of_ble_eq_true rfl, Nat.le_of_ble_eq_true rfl⟩) (r_preV hKK hP (show qk 48 = 6 from rfl) rfl) rfl rfl hl.1 rfl (lv_room (Nat.le_of_ble_eq_true rfl)) dX6_avoided_68 ⟨Nat.le_of_ble_eq_true rfl, Nat.le_of_ble_eq_true rfl⟩) (fun H locs hP hS => ?_)
            refine lv_if_eq (tgt := 76) hx hb dX6_avoided_71 (by decide) (fun w => ?_) (fun w => ?_)
            · have hf := if_t w hf
              refine lv_iconst (v := 0) hx hb dX6_avoided_76 (by decide) ?_
              refine lv_istore (lv' := [(4, .int 0), (0, .ref (ad 48)), (1, .int a1), (2, .int a2), (3, .int a3)]) hx hb dX6_avoided_77 hl (by decide) rfl (fun ls hl => ?_)
              refine lv_iconst (v := 1) hx hb dX6_avoided_79 (by decide) ?_
              refine lv_istore (lv' := [(5, .int 1), (4, .int 0), (0, .ref (ad 48)), (1, .int a1), (2, .int a2), (3, .int a3)]) hx hb dX6_avoided_80 hl (by decide) rfl (fun ls hl => ?_)
              refine lv_bipush (v := (-50)) hx hb dX6_avoided_82 (by decide) ?_
              refine lv_istore (lv' := [(6, .int (-50)), (5, .int 1), (4, .int 0), (0, .ref (ad 48)), (1, .int a1), (2, .int a2), (3, .int a3)]) hx hb dX6_avoided_84 hl (by decide) rfl (fun ls hl => ?_)
              obtain ⟨q22, hq22, hf⟩ := bd_e hf
              have J3 : ∀ (H : Heap) (locs : List Loc) (ls : Array Slot), va_P D vwCl (wd ca ad q18.2) H → va_S (Aq ad s.heap.size) s.heap H locs → lv_has ls 8 [(4, .int q22.1), (5, .int q22.2)] → W p l e rm_X6_avoided s m args below meth c H locs 0 0 (Zi below D ca ad args s o.1 o.2) (F0 m 173 ls []) := by
                intro H locs ls hP hS hl
                refine lv_iload hx hb dX6_avoided_173 (lv_at hl 1 rfl) ?_
                refine lv_if_eq (tgt := 182) hx hb dX6_avoided_175 (by decide) (fun w => ?_) (fun w => ?_)
                · have hf := if_t w hf
                  refine lv_iload hx hb dX6_avoided_182 (lv_at hl 0 rfl) ?_
                  refine lv_if_eq (tgt := 191) hx hb dX6_avoided_184 (by decide) (fun w => ?_) (fun w => ?_)
                  · have hf := if_t w hf
                    refine lv_iconst (v := 0) hx hb dX6_avoided_191 (by decide) ?_
                    obtain rfl := Option.some.inj hf
                    exact r_iret hx hb hr hP hS dX6_avoided_192 hlocks
                  · have hf := if_f w hf
                    refine lv_iconst (v := 1) hx hb dX6_avoided_187 (by decide) ?_
                    refine lv_goto (tgt := 192) hx hb dX6_avoided_188 (by decide) ?_
                    obtain rfl := Option.some.inj hf
                    exact r_iret hx hb hr hP hS dX6_avoided_192 hlocks
                · have hf := if_f w hf
                  refine lv_iconst (v := 2) hx hb dX6_avoided_178 (by decide) ?_
                  refine lv_goto (tgt := 192) hx hb dX6_avoided_179 (by decide) ?_
                  obtain rfl := Option.some.inj hf
                  exact r_iret hx hb hr hP hS dX6_avoided_192 hlocks
              replace hf := hq22
              have L3 : ∀ (fuel : Nat) (v19 : Int32) (v20 : Int32) (v21 : Int32), lp_X6_avoided_86 a1 a2 a3 q18 fuel v19 v20 v21 = some q22 → ∀ (H : Heap) (locs : List Loc) (ls : Array Slot), va_P D vwCl (wd ca ad q18.2) H → va_S (Aq ad s.heap.size) s.heap H locs → lv_has ls 8 [(0, .ref (ad 48)), (1, .int a1), (2, .int a2), (3, .int a3), (4, .int v19), (5, .int v20), (6, .int v21)] → W p l e rm_X6_avoided s m args below meth c H locs 0 0 (Zi below D ca ad args s o.1 o.2) (F0 m 86 ls []) := by
                intro fuel
                induction fuel with
                | zero =>
                  intro v19 v20 v21 hf
                  simp [lp_X6_avoided_86] at hf
                | succ fuel ih =>
                  intro v19 v20 v21 hf H locs ls hP hS hl
                  rw [lp_X6_avoided_86] at hf
                  refine lv_iload hx hb dX6_avoided_86 (lv_at hl 6 rfl) ?_
                  refine lv_bipush (v := 50) hx hb dX6_avoided_88 (by decide) ?_
                  refine lv_icmp_gt (tgt := 173) hx hb dX6_avoided_90 (by decide) (fun w => ?_) (fun w => ?_)
                  · have hf := if_t w hf
                    obtain rfl := Option.some.inj hf
                    exact J3 _ _ _ hP hS (lv_sub hl [4, 5] rfl)
                  · have hf := if_f w hf
                    refine lv_aload_n hx hb dX6_avoided_93 rfl (lv_at hl 0 rfl) ?_
                    refine g_X6_isThere hx hb hX6 hown hKK hP (show qk 48 = 6 from rfl) K47 dX6_avoided_94 ?_
                    refine lv_iconst (v := 3) hx hb dX6_avoided_97 (by decide) ?_
                    refine lv_iload_n hx hb dX6_avoided_98 rfl (lv_at hl 1 rfl) ?_
                    refine lv_imul hx hb dX6_avoided_99 ?_
                    refine lv_iload hx hb dX6_avoided_100 (lv_at hl 6 rfl) ?_
                    obtain ⟨v24, h23, hf⟩ := bd_e hf
                    refine r_ci hS (va_runS (As := [.int (3 * a1), .int v21]) (rest := [.ref (ad 61)]) ⟨hx, hb, hml, hown, hts⟩ (m_X6_cell l D ca ad hj (3 * a1) v21 q18.2 _ h23 H.size) (cwS 2 hts gX6_avoided_X6_cell rfl rfl rfl (by decide +kernel) ⟨Nat.le_of_ble_eq_true rfl, Nat.le_of_ble_eq_true rfl⟩) (r_pre hKK hP) rfl rfl hl.1 rfl (lv_room (Nat.le_of_ble_eq_true rfl)) dX6_avoided_102 ⟨Nat.le_of_ble_eq_true rfl, Nat.le_of_ble_eq_true rfl⟩) (fun H locs hP hS => ?_)
                    obtain ⟨v25, h26, hf⟩ := bd_e hf
                    refine r_zald hx hb hKK hP (show qk 61 = 8 from rfl) (show qn 61 = 606 from rfl) h26 dX6_avoided_105 ?_
                    refine lv_if_ne (tgt := 112) hx hb dX6_avoided_106 (by decide) (fun w => ?_) (fun w => ?_)
                    · have hf := if_f w hf
                      refine lv_bipush (v := 51) hx hb dX6_avoided_112 (by decide) ?_
                      refine lv_iload hx hb dX6_avoided_114 (lv_at hl 6 rfl) ?_
                      refine lv_imul hx hb dX6_avoided_116 ?_
                      refine lv_iload hx hb dX6_avoided_117 (lv_at hl 6 rfl) ?_
                      refine lv_imul hx hb dX6_avoided_119 ?_
                      refine lv_iload_n hx hb dX6_avoided_120 rfl (lv_at hl 2 rfl) ?_
                      refine lv_iload_n hx hb dX6_avoided_121 rfl (lv_at hl 3 rfl) ?_
                      refine lv_imul hx hb dX6_avoided_122 ?_
                      obtain ⟨q27, hq27, hf⟩ := bd_e hf
                      have J4 : ∀ (H : Heap) (locs : List Loc) (ls : Array Slot), va_P D vwCl (wd ca ad q18.2) H → va_S (Aq ad s.heap.size) s.heap H locs → lv_has ls 8 [(0, .ref (ad 48)), (1, .int a1), (2, .int a2), (3, .int a3), (4, .int v19), (5, .int v20), (6, .int v21)] → W p l e rm_X6_avoided s m args below meth c H locs 0 0 (Zi below D ca ad args s o.1 o.2) (F0 m 131 ls [.int q27]) := by
                        intro H locs ls hP hS hl
                        refine lv_istore (lv' := [(7, .int q27), (0, .ref (ad 48)), (1, .int a1), (2, .int a2), (3, .int a3), (4, .int v19), (5, .int v20), (6, .int v21)]) hx hb dX6_avoided_131 hl (by decide) rfl (fun ls hl => ?_)
                        refine lv_iload hx hb dX6_avoided_133 (lv_at hl 5 rfl) ?_
                        obtain ⟨q28, hq28, hf⟩ := bd_e hf
                        have J5 : ∀ (H : Heap) (locs : List Loc) (ls : Array Slot), va_P D vwCl (wd ca ad q18.2) H → va_S (Aq ad s.heap.size) s.heap H locs → lv_has ls 8 [(0, .ref (ad 48)), (1, .int a1), (2, .int a2), (3, .int a3), (5, .int v20), (6, .int v21), (7, .int q27)] → W p l e rm_X6_avoided s m args below meth c H locs 0 0 (Zi below D ca ad args s o.1 o.2) (F0 m 148 ls [.int q28]) := by
                          intro H locs ls hP hS hl
                          refine lv_istore (lv' := [(4, .int q28), (0, .ref (ad 48)), (1, .int a1), (2, .int a2), (3, .int a3), (5, .int v20), (6, .int v21), (7, .int q27)]) hx hb dX6_avoided_148 hl (by decide) rfl (fun ls hl => ?_)
                          refine lv_iload hx hb dX6_avoided_150 (lv_at hl 5 rfl) ?_
                          obtain ⟨q29, hq29, hf⟩ := bd_e hf
                          have J6 : ∀ (H : Heap) (locs : List Loc) (ls : Array Slot), va_P D vwCl (wd ca ad q18.2) H → va_S (Aq ad s.heap.size) s.heap H locs → lv_has ls 8 [(0, .ref (ad 48)), (1, .int a1), (2, .int a2), (3, .int a3), (4, .int q28), (6, .int v21)] → W p l e rm_X6_avoided s m args below meth c H locs 0 0 (Zi below D ca ad args s o.1 o.2) (F0 m 165 ls [.int q29]) := by
                            intro H locs ls hP hS hl
                            refine lv_istore (lv' := [(5, .int q29), (0, .ref (ad 48)), (1, .int a1), (2, .int a2), (3, .int a3), (4, .int q28), (6, .int v21)]) hx hb dX6_avoided_165 hl (by decide) rfl (fun ls hl => ?_)
                            refine lv_iinc (v := (v21 + 1)) (lv' := [(6, .int (v21 + 1)), (5, .int q29), (0, .ref (ad 48)), (1, .int a1), (2, .int a2), (3, .int a3), (4, .int q28)]) hx hb dX6_avoided_167 hl (k := 6) rfl rfl (by decide) rfl (fun ls hl => ?_)
                            refine lv_goto (tgt := 86) hx hb dX6_avoided_170 (by decide) ?_
                            exact ih _ _ _ hf _ _ _ hP hS (lv_sub hl [2, 3, 4, 5, 6, 1, 0] rfl)
                          replace hf := hq29
                          refine lv_if_eq (tgt := 164) hx hb dX6_avoided_152 (by decide) (fun w => ?_) (fun w => ?_)
                          · have hf := if_t w hf
                            refine lv_iconst (v := 0) hx hb dX6_avoided_164 (by decide) ?_
                            obtain rfl := Option.some.inj hf
                            exact J6 _ _ _ hP hS (lv_sub hl [1, 2, 3, 4, 0, 6] rfl)
                          · have hf := if_f w hf
                            refine lv_iload hx hb dX6_avoided_155 (lv_at hl 7 rfl) ?_
                            refine lv_if_eq (tgt := 164) hx hb dX6_avoided_157 (by decide) (fun w => ?_) (fun w => ?_)
                            · have hf := if_t w hf
                              refine lv_iconst (v := 0) hx hb dX6_avoided_164 (by decide) ?_
                              obtain rfl := Option.some.inj hf
                              exact J6 _ _ _ hP hS (lv_sub hl [1, 2, 3, 4, 0, 6] rfl)
                            · have hf := if_f w hf
                              refine lv_iconst (v := 1) hx hb dX6_avoided_160 (by decide) ?_
                              refine lv_goto (tgt := 165) hx hb dX6_avoided_161 (by decide) ?_
                              obtain rfl := Option.some.inj hf
                              exact J6 _ _ _ hP hS (lv_sub hl [1, 2, 3, 4, 0, 6] rfl)
                        replace hf := hq28
                        refine lv_if_ne (tgt := 143) hx hb dX6_avoided_135 (by decide) (fun w => ?_) (fun w => ?_)
                        · have hf := if_f w hf
                          refine lv_iconst (v := 1) hx hb dX6_avoided_143 (by decide) ?_
                          refine lv_goto (tgt := 148) hx hb dX6_avoided_144 (by decide) ?_
                          obtain rfl := Option.some.inj hf
                          exact J5 _ _ _ hP hS (lv_sub hl [1, 2, 3, 4, 6, 7, 0] rfl)
                        · have hf := if_t w hf
                          refine lv_iload hx hb dX6_avoided_138 (lv_at hl 0 rfl) ?_
                          refine lv_if_eq (tgt := 147) hx hb dX6_avoided_140 (by decide) (fun w => ?_) (fun w => ?_)
                          · have hf := if_t w hf
                            refine lv_iconst (v := 0) hx hb dX6_avoided_147 (by decide) ?_
                            obtain rfl := Option.some.inj hf
                            exact J5 _ _ _ hP hS (lv_sub hl [1, 2, 3, 4, 6, 7, 0] rfl)
                          · have hf := if_f w hf
                            refine lv_iconst (v := 1) hx hb dX6_avoided_143 (by decide) ?_
                            refine lv_goto (tgt := 148) hx hb dX6_avoided_144 (by decide) ?_
                            obtain rfl := Option.some.inj hf
                            exact J5 _ _ _ hP hS (lv_sub hl [1, 2, 3, 4, 6, 7, 0] rfl)
                      replace hf := hq27
                      refine lv_icmp_gt (tgt := 130) hx hb dX6_avoided_123 (by decide) (fun w => ?_) (fun w => ?_)
                      · have hf := if_t w hf
                        refine lv_iconst (v := 0) hx hb dX6_avoided_130 (by decide) ?_
                        obtain rfl := Option.some.inj hf
                        exact J4 _ _ _ hP hS (lv_sub hl [0, 1, 2, 3, 4, 5, 6] rfl)
                      · have hf := if_f w hf
                        refine lv_iconst (v := 1) hx hb dX6_avoided_126 (by decide) ?_
                        refine lv_goto (tgt := 131) hx hb dX6_avoided_127 (by decide) ?_
                        obtain rfl := Option.some.inj hf
                        exact J4 _ _ _ hP hS (lv_sub hl [0, 1, 2, 3, 4, 5, 6] rfl)
                    · have hf := if_t w hf
                      refine lv_goto (tgt := 167) hx hb dX6_avoided_109 (by decide) ?_
                      refine lv_iinc (v := (v21 + 1)) (lv' := [(6, .int (v21 + 1)), (0, .ref (ad 48)), (1, .int a1), (2, .int a2), (3, .int a3), (4, .int v19), (5, .int v20)]) hx hb dX6_avoided_167 hl (k := 6) rfl rfl (by decide) rfl (fun ls hl => ?_)
                      refine lv_goto (tgt := 86) hx hb dX6_avoided_170 (by decide) ?_
                      exact ih _ _ _ hf _ _ _ hP hS (lv_sub hl [1, 2, 3, 4, 5, 6, 0] rfl)
              exact L3 _ _ _ _ hf _ _ _ hP hS (lv_sub hl [3, 4, 5, 6, 2, 1, 0] rfl)
            · have hf := if_f w hf
              refine lv_iconst (v := 0) hx hb dX6_avoided_74 (by decide) ?_
              obtain rfl := Option.some.inj hf
              exact r_iret hx hb hr hP hS dX6_avoided_75 hlocks
          replace hf := hq16
          refine lv_if_ne (tgt := 66) hx hb dX6_avoided_59 (by decide) (fun w => ?_) (fun w => ?_)
          · have hf := if_f w hf
            refine lv_iconst (v := 0) hx hb dX6_avoided_66 (by decide) ?_
            obtain rfl := Option.some.inj hf
            exact J2 _ _ _ hP hS (lv_sub hl [0, 1, 2, 3] rfl)
          · have hf := if_t w hf
            refine lv_iconst (v := 1) hx hb dX6_avoided_62 (by decide) ?_
            refine lv_goto (tgt := 67) hx hb dX6_avoided_63 (by decide) ?_
            obtain rfl := Option.some.inj hf
            exact J2 _ _ _ hP hS (lv_sub hl [0, 1, 2, 3] rfl)
      replace hf := hq9
      refine lv_if_eq (tgt := 40) hx hb dX6_avoided_26 (by decide) (fun w => ?_) (fun w => ?_)
      · have hf := if_t w hf
        refine lv_iconst (v := 1) hx hb dX6_avoided_40 (by decide) ?_
        refine lv_goto (tgt := 45) hx hb dX6_avoided_41 (by decide) ?_
        obtain rfl := Option.some.inj hf
        exact J1 _ _ _ hP hS (lv_sub hl [0, 1, 2, 3] rfl)
      · have hf := if_f w hf
        refine lv_iload_n hx hb dX6_avoided_29 rfl (lv_at hl 3 rfl) ?_
        refine lv_iconst (v := 0) hx hb dX6_avoided_30 (by decide) ?_
        refine lv_sipush (v := 150) hx hb dX6_avoided_31 (by decide) ?_
        obtain ⟨v11, h10, hf⟩ := bd_e hf
        refine r_ci hS (va_runS (As := [.int a3, .int 0, .int 150]) (rest := [.ref (ad 48)]) ⟨hx, hb, hml, hown, hts⟩ (m_X6_in l D ca ad hj a3 0 150 q6.2 _ h10 H.size) (cwS 3 hts gX6_avoided_X6_in rfl rfl rfl (by decide +kernel) ⟨Nat.le_of_ble_eq_true rfl, Nat.le_of_ble_eq_true rfl⟩) (r_pre hKK hP) rfl rfl hl.1 rfl (lv_room (Nat.le_of_ble_eq_true rfl)) dX6_avoided_34 ⟨Nat.le_of_ble_eq_true rfl, Nat.le_of_ble_eq_true rfl⟩) (fun H locs hP hS => ?_)
        refine lv_if_ne (tgt := 44) hx hb dX6_avoided_37 (by decide) (fun w => ?_) (fun w => ?_)
        · have hf := if_f w hf
          refine lv_iconst (v := 0) hx hb dX6_avoided_44 (by decide) ?_
          obtain rfl := Option.some.inj hf
          exact J1 _ _ _ hP hS (lv_sub hl [0, 1, 2, 3] rfl)
        · have hf := if_t w hf
          refine lv_iconst (v := 1) hx hb dX6_avoided_40 (by decide) ?_
          refine lv_goto (tgt := 45) hx hb dX6_avoided_41 (by decide) ?_
          obtain rfl := Option.some.inj hf
          exact J1 _ _ _ hP hS (lv_sub hl [0, 1, 2, 3] rfl)
  exact main s.heap [] ls hP va_S.rf hl
def rm_X6_can : Room := { frames := 5, cells := 0, slots := 0, locals := 129 }
set_option maxRecDepth 100000 in
set_option maxHeartbeats 4000000 in
theorem m_X6_can (l : Launch) (D : va_G) (ca : Nat → ClassId) (ad : Nat → Nat) (hj : Inj ad) (a1 : Int32) (a2 : Int32) (a3 : Int32) (S : QS) (o : Int32 × QS) (hf : f_X6_can a1 a2 a3 S = some o) : Ci l D ca ad yX6_can wsX6_can rm_X6_can [.ref (ad 48), .int a1, .int a2, .int a3] S o.1 o.2 := by
  intro sz
  refine Met.ofW (cc := cX6_can) (maxL := 4) (ret := (some .boolean)) (by decide) rfl ?_
  intro p e s m args below meth c s₁ B hml hv
  obtain ⟨hav, hsz, hP, hKK⟩ := hv
  have hx := B.exec
  have hb := B.bytes
  have hr := B.returns
  have hts := atoms_spec (ws := wsX6_can) B.pre
  have hown : s.vm.findClass RX6 = some m.cls := findClass_of_methodNamed B.named
  have hlocks := B.notSynchronized
  subst hsz
  have hX6 : ∀ w ∈ wsX60, w.before _ s = true := fun w h => hts w (List.mem_cons_of_mem _ (List.mem_append_right _ h))
  have K47 := hts (Cond.fieldLink RX6 47 "CrashDeskModel" "isThere" "[Z") (List.mem_cons_of_mem _ (List.mem_append_left _ (List.mem_append_left _ (List.mem_of_getElem? (i := 1) rfl))))
  have K66 := hts (Cond.fieldLink RX6 66 "CrashDeskModel" "thrown" "I") (List.mem_cons_of_mem _ (List.mem_append_left _ (List.mem_append_left _ (List.mem_of_getElem? (i := 0) rfl))))
  have hl := lv_entry [.ref (ad 48), .int a1, .int a2, .int a3] (n := 4) (Nat.le_of_ble_eq_true rfl)
  rw [show entryFrame m args 4 = entryFrame m ([.ref (ad 48), .int a1, .int a2, .int a3] : List Value).toArray 4 by rw [hav], lg_entry_eq]
  generalize (lg_sl [.ref (ad 48), .int a1, .int a2, .int a3] ++ List.replicate (4 - (lg_sl [.ref (ad 48), .int a1, .int a2, .int a3]).length) Slot.unset).toArray = ls at hl ⊢
  have hl : lv_has ls 4 [(0, .ref (ad 48)), (1, .int a1), (2, .int a2), (3, .int a3)] := hl
  have main : ∀ (H : Heap) (locs : List Loc) (ls : Array Slot), va_P D vwCl (wd ca ad S) H → va_S (Aq ad s.heap.size) s.heap H locs → lv_has ls 4 [(0, .ref (ad 48)), (1, .int a1), (2, .int a2), (3, .int a3)] → W p l e rm_X6_can s m args below meth c H locs 0 0 (Zi below D ca ad args s o.1 o.2) (F0 m 0 ls []) := by
    intro H locs ls hP hS hl
    unfold f_X6_can at hf
    refine lv_aload_n hx hb dX6_can_0 rfl (lv_at hl 0 rfl) ?_
    refine lv_iconst (v := 0) hx hb dX6_can_1 (by decide) ?_
    obtain ⟨S1, h2, hf⟩ := bd_e hf
    obtain rfl := Option.some.inj h2
    refine p_X6_thrown hx hb hX6 hown hj hKK hP hS (show qk 48 = 6 from rfl) K66 dX6_can_2 (fun H locs hP hS => ?_)
    refine lv_aload_n hx hb dX6_can_5 rfl (lv_at hl 0 rfl) ?_
    refine lv_iload_n hx hb dX6_can_6 rfl (lv_at hl 1 rfl) ?_
    refine lv_iload_n hx hb dX6_can_7 rfl (lv_at hl 2 rfl) ?_
    obtain ⟨v4, h3, hf⟩ := bd_e hf
    refine r_ci hS (va_runS (As := [.int a1, .int a2]) (rest := [.ref (ad 48)]) ⟨hx, hb, hml, hown, hts⟩ (m_X6_noSpeed l D ca ad hj a1 a2 (setF 48 0 0 S) _ h3 H.size) (cwS 2 hts gX6_can_X6_noSpeed rfl rfl rfl (by decide +kernel) ⟨Nat.le_of_ble_eq_true rfl, Nat.le_of_ble_eq_true rfl⟩) (r_pre hKK hP) rfl rfl hl.1 rfl (lv_room (Nat.le_of_ble_eq_true rfl)) dX6_can_8 ⟨Nat.le_of_ble_eq_true rfl, Nat.le_of_ble_eq_true rfl⟩) (fun H locs hP hS => ?_)
    refine lv_iconst (v := 1) hx hb dX6_can_11 (by decide) ?_
    obtain ⟨q6, h5, hf⟩ := bd_e hf
    refine r_ci hS (va_runV (As := [.int v4, .int 1]) (rest := []) ⟨hx, hb, hml, hown, hts⟩ (m_X6_throwsIf l D ca ad hj v4 1 (setF 48 0 0 S) _ h5 H.size) (cwV 2 hts gX6_can_X6_throwsIf rfl rfl rfl (by decide +kernel) ⟨Nat.le_of_ble_eq_true rfl, Nat.le_of_ble_eq_true rfl⟩) (r_preV hKK hP (show qk 48 = 6 from rfl) rfl) rfl rfl hl.1 rfl (lv_room (Nat.le_of_ble_eq_true rfl)) dX6_can_12 ⟨Nat.le_of_ble_eq_true rfl, Nat.le_of_ble_eq_true rfl⟩) (fun H locs hP hS => ?_)
    refine lv_if_ne (tgt := 59) hx hb dX6_can_15 (by decide) (fun w => ?_) (fun w => ?_)
    · have hf := if_f w hf
      refine lv_iconst (v := 0) hx hb dX6_can_59 (by decide) ?_
      obtain rfl := Option.some.inj hf
      exact r_zret hx hb hr hP hS (Or.inl rfl) dX6_can_60 hlocks
    · have hf := if_t w hf
      refine lv_iload_n hx hb dX6_can_18 rfl (lv_at hl 3 rfl) ?_
      refine lv_bipush (v := (-50)) hx hb dX6_can_19 (by decide) ?_
      refine lv_bipush (v := 50) hx hb dX6_can_21 (by decide) ?_
      obtain ⟨v8, h7, hf⟩ := bd_e hf
      refine r_ci hS (va_runS (As := [.int a3, .int (-50), .int 50]) (rest := []) ⟨hx, hb, hml, hown, hts⟩ (m_X6_in l D ca ad hj a3 (-50) 50 q6.2 _ h7 H.size) (cwS 3 hts gX6_can_X6_in rfl rfl rfl (by decide +kernel) ⟨Nat.le_of_ble_eq_true rfl, Nat.le_of_ble_eq_true rfl⟩) (r_pre hKK hP) rfl rfl hl.1 rfl (lv_room (Nat.le_of_ble_eq_true rfl)) dX6_can_23 ⟨Nat.le_of_ble_eq_true rfl, Nat.le_of_ble_eq_true rfl⟩) (fun H locs hP hS => ?_)
      refine lv_if_eq (tgt := 59) hx hb dX6_can_26 (by decide) (fun w => ?_) (fun w => ?_)
      · have hf := if_t w hf
        refine lv_iconst (v := 0) hx hb dX6_can_59 (by decide) ?_
        obtain rfl := Option.some.inj hf
        exact r_zret hx hb hr hP hS (Or.inl rfl) dX6_can_60 hlocks
      · have hf := if_f w hf
        refine lv_aload_n hx hb dX6_can_29 rfl (lv_at hl 0 rfl) ?_
        refine lv_iconst (v := 0) hx hb dX6_can_30 (by decide) ?_
        refine lv_iconst (v := (-1)) hx hb dX6_can_31 (by decide) ?_
        obtain ⟨q10, h9, hf⟩ := bd_e hf
        refine r_ci hS (va_runV (As := [.int 0, .int (-1)]) (rest := []) ⟨hx, hb, hml, hown, hts⟩ (m_X6_goes l D ca ad hj 0 (-1) q6.2 _ h9 H.size) (cwV 2 hts gX6_can_X6_goes rfl rfl rfl (by decide +kernel) ⟨Nat.le_of_ble_eq_true rfl, Nat.le_of_ble_eq_true rfl⟩) (r_preV hKK hP (show qk 48 = 6 from rfl) rfl) rfl rfl hl.1 rfl (lv_room (Nat.le_of_ble_eq_true rfl)) dX6_can_32 ⟨Nat.le_of_ble_eq_true rfl, Nat.le_of_ble_eq_true rfl⟩) (fun H locs hP hS => ?_)
        refine lv_if_eq (tgt := 59) hx hb dX6_can_35 (by decide) (fun w => ?_) (fun w => ?_)
        · have hf := if_t w hf
          refine lv_iconst (v := 0) hx hb dX6_can_59 (by decide) ?_
          obtain rfl := Option.some.inj hf
          exact r_zret hx hb hr hP hS (Or.inl rfl) dX6_can_60 hlocks
        · have hf := if_f w hf
          refine lv_aload_n hx hb dX6_can_38 rfl (lv_at hl 0 rfl) ?_
          refine g_X6_isThere hx hb hX6 hown hKK hP (show qk 48 = 6 from rfl) K47 dX6_can_39 ?_
          refine lv_iconst (v := 3) hx hb dX6_can_42 (by decide) ?_
          refine lv_iload_n hx hb dX6_can_43 rfl (lv_at hl 1 rfl) ?_
          refine lv_imul hx hb dX6_can_44 ?_
          refine lv_iload_n hx hb dX6_can_45 rfl (lv_at hl 2 rfl) ?_
          refine lv_iadd hx hb dX6_can_46 ?_
          refine lv_iload_n hx hb dX6_can_47 rfl (lv_at hl 3 rfl) ?_
          obtain ⟨v12, h11, hf⟩ := bd_e hf
          refine r_ci hS (va_runS (As := [.int ((3 * a1) + a2), .int a3]) (rest := [.ref (ad 61)]) ⟨hx, hb, hml, hown, hts⟩ (m_X6_cell l D ca ad hj ((3 * a1) + a2) a3 q10.2 _ h11 H.size) (cwS 2 hts gX6_can_X6_cell rfl rfl rfl (by decide +kernel) ⟨Nat.le_of_ble_eq_true rfl, Nat.le_of_ble_eq_true rfl⟩) (r_pre hKK hP) rfl rfl hl.1 rfl (lv_room (Nat.le_of_ble_eq_true rfl)) dX6_can_48 ⟨Nat.le_of_ble_eq_true rfl, Nat.le_of_ble_eq_true rfl⟩) (fun H locs hP hS => ?_)
          obtain ⟨v13, h14, hf⟩ := bd_e hf
          refine r_zald hx hb hKK hP (show qk 61 = 8 from rfl) (show qn 61 = 606 from rfl) h14 dX6_can_51 ?_
          refine lv_if_eq (tgt := 59) hx hb dX6_can_52 (by decide) (fun w => ?_) (fun w => ?_)
          · have hf := if_t w hf
            refine lv_iconst (v := 0) hx hb dX6_can_59 (by decide) ?_
            obtain rfl := Option.some.inj hf
            exact r_zret hx hb hr hP hS (Or.inl rfl) dX6_can_60 hlocks
          · have hf := if_f w hf
            refine lv_iconst (v := 1) hx hb dX6_can_55 (by decide) ?_
            refine lv_goto (tgt := 60) hx hb dX6_can_56 (by decide) ?_
            obtain rfl := Option.some.inj hf
            exact r_zret hx hb hr hP hS (Or.inr rfl) dX6_can_60 hlocks
  exact main s.heap [] ls hP va_S.rf hl
