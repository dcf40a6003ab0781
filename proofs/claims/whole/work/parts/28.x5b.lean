def rm_X5_reckon : Room := { frames := 5, cells := 0, slots := 0, locals := 105 }
set_option maxRecDepth 100000 in
set_option maxHeartbeats 4000000 in
theorem m_X5_reckon (l : Launch) (D : va_G) (ca : Nat → ClassId) (ad : Nat → Nat) (hj : Inj ad) (a1 : Int32) (a2 : Int32) (S : QS) (o : QS) (hf : f_X5_reckon a1 a2 S = some o) : Cv l D ca ad yX5_reckon wsX5_reckon rm_X5_reckon [.ref (ad 0), .int a1, .int a2] S o := by
  intro sz
  refine Met.ofW (cc := cX5_reckon) (maxL := 7) (ret := none) (by decide) rfl ?_
  intro p e s m args below meth c s₁ B hml hv
  obtain ⟨hav, hsz, hP, hKK⟩ := hv
  have hx := B.exec
  have hb := B.bytes
  have hr := B.returns
  have hts := atoms_spec (ws := wsX5_reckon) B.pre
  have hown : s.vm.findClass RX5 = some m.cls := findClass_of_methodNamed B.named
  have hlocks := B.notSynchronized
  subst hsz
  have hX1 : ∀ w ∈ wsX10, w.before _ s = true := fun w h => hts w (List.mem_cons_of_mem _ (List.mem_append_left _ (List.mem_append_left _ (List.mem_append_left _ (List.mem_append_left _ (List.mem_append_right _ h))))))
  have hX2 : ∀ w ∈ wsX20, w.before _ s = true := fun w h => hts w (List.mem_cons_of_mem _ (List.mem_append_left _ (List.mem_append_left _ (List.mem_append_right _ h))))
  have hX4 : ∀ w ∈ wsX40, w.before _ s = true := fun w h => hts w (List.mem_cons_of_mem _ (List.mem_append_left _ (List.mem_append_left _ (List.mem_append_left _ (List.mem_append_right _ h)))))
  have hX5 : ∀ w ∈ wsX50, w.before _ s = true := fun w h => hts w (List.mem_cons_of_mem _ (List.mem_append_left _ (List.mem_append_left _ (List.mem_append_left _ (List.mem_append_left _ (List.mem_append_left _ (List.mem_append_right _ h)))))))
  have K11 := hts (Cond.fieldLink RX5 11 "CrashDesk" "skids" "[LCrashDesk$Skid;") (List.mem_cons_of_mem _ (List.mem_append_left _ (List.mem_append_left _ (List.mem_append_left _ (List.mem_append_left _ (List.mem_append_left _ (List.mem_append_left _ (List.mem_append_left _ (List.mem_of_getElem? (i := 11) rfl)))))))))
  have K17 := hts (Cond.fieldLink RX5 17 "CrashDesk" "tales" "[LCrashDesk$Tale;") (List.mem_cons_of_mem _ (List.mem_append_left _ (List.mem_append_left _ (List.mem_append_left _ (List.mem_append_left _ (List.mem_append_left _ (List.mem_append_left _ (List.mem_append_left _ (List.mem_of_getElem? (i := 7) rfl)))))))))
  have K21 := hts (Cond.fieldLink RX5 21 "CrashDesk" "skidCount" "I") (List.mem_cons_of_mem _ (List.mem_append_left _ (List.mem_append_left _ (List.mem_append_left _ (List.mem_append_left _ (List.mem_append_left _ (List.mem_append_left _ (List.mem_append_left _ (List.mem_of_getElem? (i := 10) rfl)))))))))
  have K25 := hts (Cond.fieldLink RX5 25 "CrashDesk" "taleCount" "I") (List.mem_cons_of_mem _ (List.mem_append_left _ (List.mem_append_left _ (List.mem_append_left _ (List.mem_append_left _ (List.mem_append_left _ (List.mem_append_left _ (List.mem_append_left _ (List.mem_of_getElem? (i := 6) rfl)))))))))
  have K31 := hts (Cond.fieldLink RX5 31 "CrashDesk" "meeting" "LCrashDesk$Meeting;") (List.mem_cons_of_mem _ (List.mem_append_left _ (List.mem_append_left _ (List.mem_append_left _ (List.mem_append_left _ (List.mem_append_left _ (List.mem_append_left _ (List.mem_append_left _ (List.mem_of_getElem? (i := 3) rfl)))))))))
  have K35 := hts (Cond.fieldLink RX5 35 "CrashDesk" "reckoned" "Z") (List.mem_cons_of_mem _ (List.mem_append_left _ (List.mem_append_left _ (List.mem_append_left _ (List.mem_append_left _ (List.mem_append_left _ (List.mem_append_left _ (List.mem_append_left _ (List.mem_of_getElem? (i := 0) rfl)))))))))
  have K39 := hts (Cond.fieldLink RX5 39 "CrashDesk" "reckonedTales" "I") (List.mem_cons_of_mem _ (List.mem_append_left _ (List.mem_append_left _ (List.mem_append_left _ (List.mem_append_left _ (List.mem_append_left _ (List.mem_append_left _ (List.mem_append_left _ (List.mem_of_getElem? (i := 1) rfl)))))))))
  have K42 := hts (Cond.fieldLink RX5 42 "CrashDesk" "reckonedWithout" "I") (List.mem_cons_of_mem _ (List.mem_append_left _ (List.mem_append_left _ (List.mem_append_left _ (List.mem_append_left _ (List.mem_append_left _ (List.mem_append_left _ (List.mem_append_left _ (List.mem_of_getElem? (i := 2) rfl)))))))))
  have K75 := hts (Cond.fieldLink RX5 75 "CrashDesk$Skid" "car" "I") (List.mem_cons_of_mem _ (List.mem_append_left _ (List.mem_append_left _ (List.mem_append_left _ (List.mem_append_left _ (List.mem_append_left _ (List.mem_append_left _ (List.mem_append_left _ (List.mem_of_getElem? (i := 13) rfl)))))))))
  have K87 := hts (Cond.fieldLink RX5 87 "CrashDesk$Skid" "counts" "Z") (List.mem_cons_of_mem _ (List.mem_append_left _ (List.mem_append_left _ (List.mem_append_left _ (List.mem_append_left _ (List.mem_append_left _ (List.mem_append_left _ (List.mem_append_left _ (List.mem_of_getElem? (i := 12) rfl)))))))))
  have K112 := hts (Cond.fieldLink RX5 112 "CrashDesk$Tale" "car" "I") (List.mem_cons_of_mem _ (List.mem_append_left _ (List.mem_append_left _ (List.mem_append_left _ (List.mem_append_left _ (List.mem_append_left _ (List.mem_append_left _ (List.mem_append_left _ (List.mem_of_getElem? (i := 8) rfl)))))))))
  have K113 := hts (Cond.fieldLink RX5 113 "CrashDesk$Tale" "speed" "I") (List.mem_cons_of_mem _ (List.mem_append_left _ (List.mem_append_left _ (List.mem_append_left _ (List.mem_append_left _ (List.mem_append_left _ (List.mem_append_left _ (List.mem_append_left _ (List.mem_of_getElem? (i := 9) rfl)))))))))
  have K157 := hts (Cond.fieldLink RX5 157 "CrashDesk$Meeting" "zero" "LCrashDesk$Car;") (List.mem_cons_of_mem _ (List.mem_append_left _ (List.mem_append_left _ (List.mem_append_left _ (List.mem_append_left _ (List.mem_append_left _ (List.mem_append_left _ (List.mem_append_left _ (List.mem_of_getElem? (i := 4) rfl)))))))))
  have K161 := hts (Cond.fieldLink RX5 161 "CrashDesk$Meeting" "one" "LCrashDesk$Car;") (List.mem_cons_of_mem _ (List.mem_append_left _ (List.mem_append_left _ (List.mem_append_left _ (List.mem_append_left _ (List.mem_append_left _ (List.mem_append_left _ (List.mem_append_left _ (List.mem_of_getElem? (i := 5) rfl)))))))))
  have hl := lv_entry [.ref (ad 0), .int a1, .int a2] (n := 7) (Nat.le_of_ble_eq_true rfl)
  rw [show entryFrame m args 7 = entryFrame m ([.ref (ad 0), .int a1, .int a2] : List Value).toArray 7 by rw [hav], lg_entry_eq]
  generalize (lg_sl [.ref (ad 0), .int a1, .int a2] ++ List.replicate (7 - (lg_sl [.ref (ad 0), .int a1, .int a2]).length) Slot.unset).toArray = ls at hl ⊢
  have hl : lv_has ls 7 [(0, .ref (ad 0)), (1, .int a1), (2, .int a2)] := hl
  have main : ∀ (H : Heap) (locs : List Loc) (ls : Array Slot), va_P D vwCl (wd ca ad S) H → va_S (Aq ad s.heap.size) s.heap H locs → lv_has ls 7 [(0, .ref (ad 0)), (1, .int a1), (2, .int a2)] → W p l e rm_X5_reckon s m args below meth c H locs 0 0 (Zv below D ca ad args s o) (F0 m 0 ls []) := by
    intro H locs ls hP hS hl
    unfold f_X5_reckon at hf
    refine lv_aload_n hx hb dX5_reckon_0 rfl (lv_at hl 0 rfl) ?_
    refine g_X5_reckoned hx hb hX5 hown hKK hP (show qk 0 = 5 from rfl) K35 dX5_reckon_1 ?_
    have J1 : ct_X5_reckon_24 a1 a2 S = some o → ∀ (H : Heap) (locs : List Loc) (ls : Array Slot), va_P D vwCl (wd ca ad S) H → va_S (Aq ad s.heap.size) s.heap H locs → lv_has ls 7 [(0, .ref (ad 0)), (1, .int a1), (2, .int a2)] → W p l e rm_X5_reckon s m args below meth c H locs 0 0 (Zv below D ca ad args s o) (F0 m 24 ls []) := by
      intro hf H locs ls hP hS hl
      unfold ct_X5_reckon_24 at hf
      refine lv_aload_n hx hb dX5_reckon_24 rfl (lv_at hl 0 rfl) ?_
      refine g_X5_meeting hx hb hX5 hown hKK hP (show qk 0 = 5 from rfl) K31 dX5_reckon_25 ?_
      refine g_X1_zero hx hb hX1 hown hKK hP (show qk 25 = 1 from rfl) K157 dX5_reckon_28 ?_
      obtain ⟨S2, h1, hf⟩ := bd_e hf
      refine r_cv hS (va_runV (As := []) (rest := []) ⟨hx, hb, hml, hown, hts⟩ (m_X0_clear l D ca ad hj 26 (show qk 26 = 0 from rfl) S _ h1 H.size) (cwV 0 hts gX5_reckon_X0_clear rfl rfl rfl (by decide +kernel) ⟨Nat.le_of_ble_eq_true rfl, Nat.le_of_ble_eq_true rfl⟩) (r_preV hKK hP (show qk 26 = 0 from rfl) rfl) rfl rfl hl.1 rfl (lv_room (Nat.le_of_ble_eq_true rfl)) dX5_reckon_31 ⟨Nat.le_of_ble_eq_true rfl, Nat.le_of_ble_eq_true rfl⟩) (fun H locs hP hS => ?_)
      refine lv_aload_n hx hb dX5_reckon_34 rfl (lv_at hl 0 rfl) ?_
      refine g_X5_meeting hx hb hX5 hown hKK hP (show qk 0 = 5 from rfl) K31 dX5_reckon_35 ?_
      refine g_X1_one hx hb hX1 hown hKK hP (show qk 25 = 1 from rfl) K161 dX5_reckon_38 ?_
      obtain ⟨S4, h3, hf⟩ := bd_e hf
      refine r_cv hS (va_runV (As := []) (rest := []) ⟨hx, hb, hml, hown, hts⟩ (m_X0_clear l D ca ad hj 37 (show qk 37 = 0 from rfl) S2 _ h3 H.size) (cwV 0 hts gX5_reckon_X0_clear rfl rfl rfl (by decide +kernel) ⟨Nat.le_of_ble_eq_true rfl, Nat.le_of_ble_eq_true rfl⟩) (r_preV hKK hP (show qk 37 = 0 from rfl) rfl) rfl rfl hl.1 rfl (lv_room (Nat.le_of_ble_eq_true rfl)) dX5_reckon_41 ⟨Nat.le_of_ble_eq_true rfl, Nat.le_of_ble_eq_true rfl⟩) (fun H locs hP hS => ?_)
      refine lv_iconst (v := 0) hx hb dX5_reckon_44 (by decide) ?_
      refine lv_istore_n (lv' := [(3, .int 0), (0, .ref (ad 0)), (1, .int a1), (2, .int a2)]) hx hb dX5_reckon_45 rfl hl (by decide) rfl (fun ls hl => ?_)
      obtain ⟨q7, hq7, hf⟩ := bd_e hf
      have J2 : ∀ (H : Heap) (locs : List Loc) (ls : Array Slot), va_P D vwCl (wd ca ad q7) H → va_S (Aq ad s.heap.size) s.heap H locs → lv_has ls 7 [(0, .ref (ad 0)), (1, .int a1), (2, .int a2)] → W p l e rm_X5_reckon s m args below meth c H locs 0 0 (Zv below D ca ad args s o) (F0 m 119 ls []) := by
        intro H locs ls hP hS hl
        refine lv_iconst (v := 0) hx hb dX5_reckon_119 (by decide) ?_
        refine lv_istore_n (lv' := [(3, .int 0), (0, .ref (ad 0)), (1, .int a1), (2, .int a2)]) hx hb dX5_reckon_120 rfl hl (by decide) rfl (fun ls hl => ?_)
        obtain ⟨q19, hq19, hf⟩ := bd_e hf
        have J4 : ∀ (H : Heap) (locs : List Loc) (ls : Array Slot), va_P D vwCl (wd ca ad q19) H → va_S (Aq ad s.heap.size) s.heap H locs → lv_has ls 7 [(0, .ref (ad 0)), (1, .int a1), (2, .int a2)] → W p l e rm_X5_reckon s m args below meth c H locs 0 0 (Zv below D ca ad args s o) (F0 m 177 ls []) := by
          intro H locs ls hP hS hl
          refine lv_aload_n hx hb dX5_reckon_177 rfl (lv_at hl 0 rfl) ?_
          refine g_X5_meeting hx hb hX5 hown hKK hP (show qk 0 = 5 from rfl) K31 dX5_reckon_178 ?_
          obtain ⟨S31, h30, hf⟩ := bd_e hf
          refine r_cv hS (va_runV (As := []) (rest := []) ⟨hx, hb, hml, hown, hts⟩ (m_X1_reckon l D ca ad hj q19 _ h30 H.size) (cwV 0 hts gX5_reckon_X1_reckon rfl rfl rfl (by decide +kernel) ⟨Nat.le_of_ble_eq_true rfl, Nat.le_of_ble_eq_true rfl⟩) (r_preV hKK hP (show qk 25 = 1 from rfl) rfl) rfl rfl hl.1 rfl (lv_room (Nat.le_of_ble_eq_true rfl)) dX5_reckon_181 ⟨Nat.le_of_ble_eq_true rfl, Nat.le_of_ble_eq_true rfl⟩) (fun H locs hP hS => ?_)
          refine lv_aload_n hx hb dX5_reckon_184 rfl (lv_at hl 0 rfl) ?_
          refine lv_iconst (v := 1) hx hb dX5_reckon_185 (by decide) ?_
          obtain ⟨S32, h33, hf⟩ := bd_e hf
          refine p_X5_reckoned hx hb hX5 hown hj hKK hP hS (show qk 0 = 5 from rfl) h33 K35 dX5_reckon_186 (fun H locs hP hS => ?_)
          refine lv_aload_n hx hb dX5_reckon_189 rfl (lv_at hl 0 rfl) ?_
          refine lv_iload_n hx hb dX5_reckon_190 rfl (lv_at hl 1 rfl) ?_
          obtain ⟨S34, h35, hf⟩ := bd_e hf
          obtain rfl := Option.some.inj h35
          refine p_X5_reckonedTales hx hb hX5 hown hj hKK hP hS (show qk 0 = 5 from rfl) K39 dX5_reckon_191 (fun H locs hP hS => ?_)
          refine lv_aload_n hx hb dX5_reckon_194 rfl (lv_at hl 0 rfl) ?_
          refine lv_iload_n hx hb dX5_reckon_195 rfl (lv_at hl 2 rfl) ?_
          obtain ⟨S36, h37, hf⟩ := bd_e hf
          obtain rfl := Option.some.inj h37
          refine p_X5_reckonedWithout hx hb hX5 hown hj hKK hP hS (show qk 0 = 5 from rfl) K42 dX5_reckon_196 (fun H locs hP hS => ?_)
          obtain rfl := Option.some.inj hf
          exact r_vret hx hb hr hP hS dX5_reckon_199 hlocks
        replace hf := hq19
        have L4 : ∀ (fuel : Nat) (v17 : Int32) (S18 : QS), lp_X5_reckon_121 a2 fuel v17 S18 = some q19 → ∀ (H : Heap) (locs : List Loc) (ls : Array Slot), va_P D vwCl (wd ca ad S18) H → va_S (Aq ad s.heap.size) s.heap H locs → lv_has ls 7 [(0, .ref (ad 0)), (1, .int a1), (2, .int a2), (3, .int v17)] → W p l e rm_X5_reckon s m args below meth c H locs 0 0 (Zv below D ca ad args s o) (F0 m 121 ls []) := by
          intro fuel
          induction fuel with
          | zero =>
            intro v17 S18 hf
            simp [lp_X5_reckon_121] at hf
          | succ fuel ih =>
            intro v17 S18 hf H locs ls hP hS hl
            rw [lp_X5_reckon_121] at hf
            refine lv_iload_n hx hb dX5_reckon_121 rfl (lv_at hl 3 rfl) ?_
            refine lv_aload_n hx hb dX5_reckon_122 rfl (lv_at hl 0 rfl) ?_
            refine g_X5_skidCount hx hb hX5 hown hKK hP (show qk 0 = 5 from rfl) K21 dX5_reckon_123 ?_
            refine lv_icmp_ge (tgt := 177) hx hb dX5_reckon_126 (by decide) (fun w => ?_) (fun w => ?_)
            · have hf := if_t w hf
              obtain rfl := Option.some.inj hf
              exact J4 _ _ _ hP hS (lv_sub hl [0, 1, 2] rfl)
            · have hf := if_f w hf
              refine lv_aload_n hx hb dX5_reckon_129 rfl (lv_at hl 0 rfl) ?_
              refine g_X5_skids hx hb hX5 hown hKK hP (show qk 0 = 5 from rfl) K11 dX5_reckon_130 ?_
              refine lv_iload_n hx hb dX5_reckon_133 rfl (lv_at hl 3 rfl) ?_
              obtain ⟨c20, h21, hf⟩ := bd_e hf
              refine r_sald hx hb hKK hP h21 dX5_reckon_134 (fun kc20 => ?_)
              refine g_X2_counts hx hb hX2 hown hKK hP kc20 K87 dX5_reckon_135 ?_
              refine lv_if_eq (tgt := 171) hx hb dX5_reckon_138 (by decide) (fun w => ?_) (fun w => ?_)
              · have hf := if_t w hf
                refine lv_iinc (v := (v17 + 1)) (lv' := [(3, .int (v17 + 1)), (0, .ref (ad 0)), (1, .int a1), (2, .int a2)]) hx hb dX5_reckon_171 hl (k := 3) rfl rfl (by decide) rfl (fun ls hl => ?_)
                refine lv_goto (tgt := 121) hx hb dX5_reckon_174 (by decide) ?_
                exact ih _ _ hf _ _ _ hP hS (lv_sub hl [1, 2, 3, 0] rfl)
              · have hf := if_f w hf
                refine lv_iload_n hx hb dX5_reckon_141 rfl (lv_at hl 3 rfl) ?_
                refine lv_iload_n hx hb dX5_reckon_142 rfl (lv_at hl 2 rfl) ?_
                refine lv_icmp_eq (tgt := 171) hx hb dX5_reckon_143 (by decide) (fun w => ?_) (fun w => ?_)
                · have hf := if_t w hf
                  refine lv_iinc (v := (v17 + 1)) (lv' := [(3, .int (v17 + 1)), (0, .ref (ad 0)), (1, .int a1), (2, .int a2)]) hx hb dX5_reckon_171 hl (k := 3) rfl rfl (by decide) rfl (fun ls hl => ?_)
                  refine lv_goto (tgt := 121) hx hb dX5_reckon_174 (by decide) ?_
                  exact ih _ _ hf _ _ _ hP hS (lv_sub hl [1, 2, 3, 0] rfl)
                · have hf := if_f w hf
                  refine lv_aload_n hx hb dX5_reckon_146 rfl (lv_at hl 0 rfl) ?_
                  refine g_X5_meeting hx hb hX5 hown hKK hP (show qk 0 = 5 from rfl) K31 dX5_reckon_147 ?_
                  refine lv_aload_n hx hb dX5_reckon_150 rfl (lv_at hl 0 rfl) ?_
                  refine g_X5_skids hx hb hX5 hown hKK hP (show qk 0 = 5 from rfl) K11 dX5_reckon_151 ?_
                  refine lv_iload_n hx hb dX5_reckon_154 rfl (lv_at hl 3 rfl) ?_
                  obtain ⟨c22, h23, hf⟩ := bd_e hf
                  refine r_sald hx hb hKK hP h23 dX5_reckon_155 (fun kc22 => ?_)
                  refine g_X2_car hx hb hX2 hown hKK hP kc22 K75 dX5_reckon_156 ?_
                  obtain ⟨c25, h24, hf⟩ := bd_e hf
                  have kc25 := k_X1_pick h24
                  refine r_cr hS (va_runV (As := [.int (S18.1 c22 0)]) (rest := []) ⟨hx, hb, hml, hown, hts⟩ (m_X1_pick l D ca ad hj (S18.1 c22 0) S18 _ h24 H.size) (cwV 1 hts gX5_reckon_X1_pick rfl rfl rfl (by decide +kernel) ⟨Nat.le_of_ble_eq_true rfl, Nat.le_of_ble_eq_true rfl⟩) (r_preV hKK hP (show qk 25 = 1 from rfl) rfl) rfl rfl hl.1 rfl (lv_room (Nat.le_of_ble_eq_true rfl)) dX5_reckon_159 ⟨Nat.le_of_ble_eq_true rfl, Nat.le_of_ble_eq_true rfl⟩) (fun H locs hP hS => ?_)
                  refine lv_aload_n hx hb dX5_reckon_162 rfl (lv_at hl 0 rfl) ?_
                  refine g_X5_skids hx hb hX5 hown hKK hP (show qk 0 = 5 from rfl) K11 dX5_reckon_163 ?_
                  refine lv_iload_n hx hb dX5_reckon_166 rfl (lv_at hl 3 rfl) ?_
                  obtain ⟨c26, h27, hf⟩ := bd_e hf
                  refine r_sald hx hb hKK hP h27 dX5_reckon_167 (fun kc26 => ?_)
                  obtain ⟨S29, h28, hf⟩ := bd_e hf
                  refine r_cv hS (va_runV (As := [.ref (ad c26)]) (rest := []) ⟨hx, hb, hml, hown, hts⟩ (m_X0_add l D ca ad hj c25 kc25 c26 kc26 S18 _ h28 H.size) (cwV 1 hts gX5_reckon_X0_add rfl rfl rfl (by decide +kernel) ⟨Nat.le_of_ble_eq_true rfl, Nat.le_of_ble_eq_true rfl⟩) (r_preV hKK hP kc25 rfl) rfl rfl hl.1 rfl (lv_room (Nat.le_of_ble_eq_true rfl)) dX5_reckon_168 ⟨Nat.le_of_ble_eq_true rfl, Nat.le_of_ble_eq_true rfl⟩) (fun H locs hP hS => ?_)
                  refine lv_iinc (v := (v17 + 1)) (lv' := [(3, .int (v17 + 1)), (0, .ref (ad 0)), (1, .int a1), (2, .int a2)]) hx hb dX5_reckon_171 hl (k := 3) rfl rfl (by decide) rfl (fun ls hl => ?_)
                  refine lv_goto (tgt := 121) hx hb dX5_reckon_174 (by decide) ?_
                  exact ih _ _ hf _ _ _ hP hS (lv_sub hl [1, 2, 3, 0] rfl)
        exact L4 _ _ _ hf _ _ _ hP hS (lv_sub hl [1, 2, 3, 0] rfl)
      replace hf := hq7
      have L2 : ∀ (fuel : Nat) (v5 : Int32) (S6 : QS), lp_X5_reckon_46 a1 fuel v5 S6 = some q7 → ∀ (H : Heap) (locs : List Loc) (ls : Array Slot), va_P D vwCl (wd ca ad S6) H → va_S (Aq ad s.heap.size) s.heap H locs → lv_has ls 7 [(0, .ref (ad 0)), (1, .int a1), (2, .int a2), (3, .int v5)] → W p l e rm_X5_reckon s m args below meth c H locs 0 0 (Zv below D ca ad args s o) (F0 m 46 ls []) := by
        intro fuel
        induction fuel with
        | zero =>
          intro v5 S6 hf
          simp [lp_X5_reckon_46] at hf
        | succ fuel ih =>
          intro v5 S6 hf H locs ls hP hS hl
          rw [lp_X5_reckon_46] at hf
          refine lv_iload_n hx hb dX5_reckon_46 rfl (lv_at hl 3 rfl) ?_
          refine lv_aload_n hx hb dX5_reckon_47 rfl (lv_at hl 0 rfl) ?_
          refine g_X5_taleCount hx hb hX5 hown hKK hP (show qk 0 = 5 from rfl) K25 dX5_reckon_48 ?_
          refine lv_icmp_ge (tgt := 119) hx hb dX5_reckon_51 (by decide) (fun w => ?_) (fun w => ?_)
          · have hf := if_t w hf
            obtain rfl := Option.some.inj hf
            exact J2 _ _ _ hP hS (lv_sub hl [0, 1, 2] rfl)
          · have hf := if_f w hf
            refine lv_aload_n hx hb dX5_reckon_54 rfl (lv_at hl 0 rfl) ?_
            refine g_X5_tales hx hb hX5 hown hKK hP (show qk 0 = 5 from rfl) K17 dX5_reckon_55 ?_
            refine lv_iload_n hx hb dX5_reckon_58 rfl (lv_at hl 3 rfl) ?_
            obtain ⟨c8, h9, hf⟩ := bd_e hf
            refine r_tald hx hb hKK hP h9 dX5_reckon_59 (fun kc8 => ?_)
            refine lv_astore (lv' := [(4, .ref (ad c8)), (0, .ref (ad 0)), (1, .int a1), (2, .int a2), (3, .int v5)]) hx hb dX5_reckon_60 hl (by decide) rfl (fun ls hl => ?_)
            refine lv_iconst (v := 1) hx hb dX5_reckon_62 (by decide) ?_
            refine lv_iload_n hx hb dX5_reckon_63 rfl (lv_at hl 4 rfl) ?_
            refine lv_ishl hx hb dX5_reckon_64 ?_
            refine lv_istore (lv' := [(5, .int (1 <<< (v5 &&& 31))), (4, .ref (ad c8)), (0, .ref (ad 0)), (1, .int a1), (2, .int a2), (3, .int v5)]) hx hb dX5_reckon_65 hl (by decide) rfl (fun ls hl => ?_)
            refine lv_aload_n hx hb dX5_reckon_67 rfl (lv_at hl 2 rfl) ?_
            refine g_X5_meeting hx hb hX5 hown hKK hP (show qk 0 = 5 from rfl) K31 dX5_reckon_68 ?_
            refine lv_aload hx hb dX5_reckon_71 (lv_at hl 1 rfl) ?_
            refine g_X4_car hx hb hX4 hown hKK hP kc8 K112 dX5_reckon_73 ?_
            obtain ⟨c11, h10, hf⟩ := bd_e hf
            have kc11 := k_X1_pick h10
            refine r_cr hS (va_runV (As := [.int (S6.1 c8 0)]) (rest := []) ⟨hx, hb, hml, hown, hts⟩ (m_X1_pick l D ca ad hj (S6.1 c8 0) S6 _ h10 H.size) (cwV 1 hts gX5_reckon_X1_pick rfl rfl rfl (by decide +kernel) ⟨Nat.le_of_ble_eq_true rfl, Nat.le_of_ble_eq_true rfl⟩) (r_preV hKK hP (show qk 25 = 1 from rfl) rfl) rfl rfl hl.1 rfl (lv_room (Nat.le_of_ble_eq_true rfl)) dX5_reckon_76 ⟨Nat.le_of_ble_eq_true rfl, Nat.le_of_ble_eq_true rfl⟩) (fun H locs hP hS => ?_)
            refine lv_aload hx hb dX5_reckon_79 (lv_at hl 1 rfl) ?_
            refine g_X4_speed hx hb hX4 hown hKK hP kc8 K113 dX5_reckon_81 ?_
            obtain ⟨c13, h12, hf⟩ := bd_e hf
            have kc13 := k_X0_pick kc11 h12
            refine r_cr hS (va_runV (As := [.int (S6.1 c8 1)]) (rest := []) ⟨hx, hb, hml, hown, hts⟩ (m_X0_pick l D ca ad hj c11 kc11 (S6.1 c8 1) S6 _ h12 H.size) (cwV 1 hts gX5_reckon_X0_pick rfl rfl rfl (by decide +kernel) ⟨Nat.le_of_ble_eq_true rfl, Nat.le_of_ble_eq_true rfl⟩) (r_preV hKK hP kc11 rfl) rfl rfl hl.1 rfl (lv_room (Nat.le_of_ble_eq_true rfl)) dX5_reckon_84 ⟨Nat.le_of_ble_eq_true rfl, Nat.le_of_ble_eq_true rfl⟩) (fun H locs hP hS => ?_)
            refine lv_astore (lv' := [(6, .ref (ad c13)), (5, .int (1 <<< (v5 &&& 31))), (4, .ref (ad c8)), (0, .ref (ad 0)), (1, .int a1), (2, .int a2), (3, .int v5)]) hx hb dX5_reckon_87 hl (by decide) rfl (fun ls hl => ?_)
            refine lv_aload hx hb dX5_reckon_89 (lv_at hl 0 rfl) ?_
            refine lv_aload hx hb dX5_reckon_91 (lv_at hl 2 rfl) ?_
            refine lv_iload_n hx hb dX5_reckon_93 rfl (lv_at hl 4 rfl) ?_
            refine lv_iload hx hb dX5_reckon_94 (lv_at hl 1 rfl) ?_
            refine lv_iand hx hb dX5_reckon_96 ?_
            obtain ⟨q14, hq14, hf⟩ := bd_e hf
            have J3 : ∀ (H : Heap) (locs : List Loc) (ls : Array Slot), va_P D vwCl (wd ca ad S6) H → va_S (Aq ad s.heap.size) s.heap H locs → lv_has ls 7 [(0, .ref (ad 0)), (1, .int a1), (2, .int a2), (3, .int v5)] → W p l e rm_X5_reckon s m args below meth c H locs 0 0 (Zv below D ca ad args s o) (F0 m 110 ls [.int q14, .ref (ad c8), .ref (ad c13)]) := by
              intro H locs ls hP hS hl
              obtain ⟨S16, h15, hf⟩ := bd_e hf
              refine r_cv hS (va_runV (As := [.ref (ad c8), .int q14]) (rest := []) ⟨hx, hb, hml, hown, hts⟩ (m_X3_hear l D ca ad hj c13 kc13 c8 kc8 q14 S6 _ h15 H.size) (cwV 2 hts gX5_reckon_X3_hear rfl rfl rfl (by decide +kernel) ⟨Nat.le_of_ble_eq_true rfl, Nat.le_of_ble_eq_true rfl⟩) (r_preV hKK hP kc13 rfl) rfl rfl hl.1 rfl (lv_room (Nat.le_of_ble_eq_true rfl)) dX5_reckon_110 ⟨Nat.le_of_ble_eq_true rfl, Nat.le_of_ble_eq_true rfl⟩) (fun H locs hP hS => ?_)
              refine lv_iinc (v := (v5 + 1)) (lv' := [(3, .int (v5 + 1)), (0, .ref (ad 0)), (1, .int a1), (2, .int a2)]) hx hb dX5_reckon_113 hl (k := 3) rfl rfl (by decide) rfl (fun ls hl => ?_)
              refine lv_goto (tgt := 46) hx hb dX5_reckon_116 (by decide) ?_
              exact ih _ _ hf _ _ _ hP hS (lv_sub hl [1, 2, 3, 0] rfl)
            replace hf := hq14
            refine lv_if_eq (tgt := 104) hx hb dX5_reckon_97 (by decide) (fun w => ?_) (fun w => ?_)
            · have hf := if_t w hf
              refine lv_sipush (v := 1024) hx hb dX5_reckon_104 (by decide) ?_
              refine lv_iload hx hb dX5_reckon_107 (lv_at hl 1 rfl) ?_
              refine lv_iadd hx hb dX5_reckon_109 ?_
              obtain rfl := Option.some.inj hf
              exact J3 _ _ _ hP hS (lv_sub hl [3, 4, 5, 6] rfl)
            · have hf := if_f w hf
              refine lv_iconst (v := (-1)) hx hb dX5_reckon_100 (by decide) ?_
              refine lv_goto (tgt := 110) hx hb dX5_reckon_101 (by decide) ?_
              obtain rfl := Option.some.inj hf
              exact J3 _ _ _ hP hS (lv_sub hl [3, 4, 5, 6] rfl)
      exact L2 _ _ _ hf _ _ _ hP hS (lv_sub hl [1, 2, 3, 0] rfl)
    refine lv_if_eq (tgt := 24) hx hb dX5_reckon_4 (by decide) (fun w => ?_) (fun w => ?_)
    · have hf := if_t w hf
      exact J1 hf _ _ _ hP hS (lv_sub hl [0, 1, 2] rfl)
    · have hf := if_f w hf
      refine lv_iload_n hx hb dX5_reckon_7 rfl (lv_at hl 1 rfl) ?_
      refine lv_aload_n hx hb dX5_reckon_8 rfl (lv_at hl 0 rfl) ?_
      refine g_X5_reckonedTales hx hb hX5 hown hKK hP (show qk 0 = 5 from rfl) K39 dX5_reckon_9 ?_
      refine lv_icmp_ne (tgt := 24) hx hb dX5_reckon_12 (by decide) (fun w => ?_) (fun w => ?_)
      · have hf := if_f w hf
        exact J1 hf _ _ _ hP hS (lv_sub hl [0, 1, 2] rfl)
      · have hf := if_t w hf
        refine lv_iload_n hx hb dX5_reckon_15 rfl (lv_at hl 2 rfl) ?_
        refine lv_aload_n hx hb dX5_reckon_16 rfl (lv_at hl 0 rfl) ?_
        refine g_X5_reckonedWithout hx hb hX5 hown hKK hP (show qk 0 = 5 from rfl) K42 dX5_reckon_17 ?_
        refine lv_icmp_ne (tgt := 24) hx hb dX5_reckon_20 (by decide) (fun w => ?_) (fun w => ?_)
        · have hf := if_f w hf
          exact J1 hf _ _ _ hP hS (lv_sub hl [0, 1, 2] rfl)
        · have hf := if_t w hf
          obtain rfl := Option.some.inj hf
          exact r_vret hx hb hr hP hS dX5_reckon_23 hlocks
  exact main s.heap [] ls hP va_S.rf hl
def rm_X5_ways : Room := { frames := 6, cells := 0, slots := 0, locals := 131 }
set_option maxRecDepth 100000 in
set_option maxHeartbeats 4000000 in
theorem m_X5_ways (l : Launch) (D : va_G) (ca : Nat → ClassId) (ad : Nat → Nat) (hj : Inj ad)  (S : QS) (o : Int64 × QS) (hf : f_X5_ways S = some o) : Cl l D ca ad yX5_ways wsX5_ways rm_X5_ways [.ref (ad 0)] S o.1 o.2 := by
  intro sz
  refine Met.ofW (cc := cX5_ways) (maxL := 1) (ret := (some .long)) (by decide) rfl ?_
  intro p e s m args below meth c s₁ B hml hv
  obtain ⟨hav, hsz, hP, hKK⟩ := hv
  have hx := B.exec
  have hb := B.bytes
  have hr := B.returns
  have hts := atoms_spec (ws := wsX5_ways) B.pre
  have hown : s.vm.findClass RX5 = some m.cls := findClass_of_methodNamed B.named
  have hlocks := B.notSynchronized
  subst hsz
  have hX1 : ∀ w ∈ wsX10, w.before _ s = true := fun w h => hts w (List.mem_cons_of_mem _ (List.mem_append_left _ (List.mem_append_left _ (List.mem_append_left _ (List.mem_append_left _ (List.mem_append_right _ h))))))
  have hX5 : ∀ w ∈ wsX50, w.before _ s = true := fun w h => hts w (List.mem_cons_of_mem _ (List.mem_append_left _ (List.mem_append_left _ (List.mem_append_left _ (List.mem_append_left _ (List.mem_append_left _ (List.mem_append_right _ h)))))))
  have K31 := hts (Cond.fieldLink RX5 31 "CrashDesk" "meeting" "LCrashDesk$Meeting;") (List.mem_cons_of_mem _ (List.mem_append_left _ (List.mem_append_left _ (List.mem_append_left _ (List.mem_append_left _ (List.mem_append_left _ (List.mem_append_left _ (List.mem_append_left _ (List.mem_of_getElem? (i := 0) rfl)))))))))
  have K121 := hts (Cond.fieldLink RX5 121 "CrashDesk$Meeting" "wayCount" "J") (List.mem_cons_of_mem _ (List.mem_append_left _ (List.mem_append_left _ (List.mem_append_left _ (List.mem_append_left _ (List.mem_append_left _ (List.mem_append_left _ (List.mem_append_left _ (List.mem_of_getElem? (i := 1) rfl)))))))))
  have hl := lv_entry [.ref (ad 0)] (n := 1) (Nat.le_of_ble_eq_true rfl)
  rw [show entryFrame m args 1 = entryFrame m ([.ref (ad 0)] : List Value).toArray 1 by rw [hav], lg_entry_eq]
  generalize (lg_sl [.ref (ad 0)] ++ List.replicate (1 - (lg_sl [.ref (ad 0)]).length) Slot.unset).toArray = ls at hl ⊢
  have hl : lv_has ls 1 [(0, .ref (ad 0))] := hl
  have main : ∀ (H : Heap) (locs : List Loc) (ls : Array Slot), va_P D vwCl (wd ca ad S) H → va_S (Aq ad s.heap.size) s.heap H locs → lv_has ls 1 [(0, .ref (ad 0))] → W p l e rm_X5_ways s m args below meth c H locs 0 0 (Zl below D ca ad args s o.1 o.2) (F0 m 0 ls []) := by
    intro H locs ls hP hS hl
    unfold f_X5_ways at hf
    refine lv_aload_n hx hb dX5_ways_0 rfl (lv_at hl 0 rfl) ?_
    refine lv_iconst (v := 0) hx hb dX5_ways_1 (by decide) ?_
    refine lv_iconst (v := (-1)) hx hb dX5_ways_2 (by decide) ?_
    obtain ⟨S2, h1, hf⟩ := bd_e hf
    refine r_cv hS (va_runV (As := [.int 0, .int (-1)]) (rest := []) ⟨hx, hb, hml, hown, hts⟩ (m_X5_reckon l D ca ad hj 0 (-1) S _ h1 H.size) (cwV 2 hts gX5_ways_X5_reckon rfl rfl rfl (by decide +kernel) ⟨Nat.le_of_ble_eq_true rfl, Nat.le_of_ble_eq_true rfl⟩) (r_preV hKK hP (show qk 0 = 5 from rfl) rfl) rfl rfl hl.1 rfl (lv_room (Nat.le_of_ble_eq_true rfl)) dX5_ways_3 ⟨Nat.le_of_ble_eq_true rfl, Nat.le_of_ble_eq_true rfl⟩) (fun H locs hP hS => ?_)
    refine lv_aload_n hx hb dX5_ways_6 rfl (lv_at hl 0 rfl) ?_
    refine g_X5_meeting hx hb hX5 hown hKK hP (show qk 0 = 5 from rfl) K31 dX5_ways_7 ?_
    refine g_X1_wayCount hx hb hX1 hown hKK hP (show qk 25 = 1 from rfl) K121 dX5_ways_10 ?_
    obtain rfl := Option.some.inj hf
    exact r_lret hx hb hr hP hS dX5_ways_13 hlocks
  exact main s.heap [] ls hP va_S.rf hl
def rm_X5_span : Room := { frames := 9, cells := 4, slots := 24, locals := 153 }
set_option maxRecDepth 100000 in
set_option maxHeartbeats 4000000 in
theorem m_X5_span (l : Launch) (hst : l.stackTraces = false) (D : va_G) (ca : Nat → ClassId) (ad : Nat → Nat) (hj : Inj ad) (a1 : Int32) (a2 : Int32) (a3 : Int32) (a4 : Int32) (S : QS) (o : (String × QS) ⊕ (Int32 × QS)) (hf : f_X5_span a1 a2 a3 a4 S = some o) : Xi l D ca ad yX5_span wzX5_span rm_X5_span [.ref (ad 0), .int a1, .int a2, .int a3, .int a4] S o 4 24 := by
  intro sz
  refine vx_ofW (cc := cX5_span) (maxL := 6) (ret := (some .int)) (by decide) rfl ?_
  intro p e s m args below meth c s₁ B hml hT hv
  obtain ⟨hav, ⟨hsz, hP, hKK⟩, hE⟩ := hv
  have hx := B.exec
  have hb := B.bytes
  have hr := B.returns
  have hts := atoms_spec (ws := wzX5_span) B.pre
  have hown : s.vm.findClass RX5 = some m.cls := findClass_of_methodNamed B.named
  have hlocks := B.notSynchronized
  subst hsz
  have hl := lv_entry [.ref (ad 0), .int a1, .int a2, .int a3, .int a4] (n := 6) (Nat.le_of_ble_eq_true rfl)
  rw [show entryFrame m args 6 = entryFrame m ([.ref (ad 0), .int a1, .int a2, .int a3, .int a4] : List Value).toArray 6 by rw [hav], lg_entry_eq]
  generalize (lg_sl [.ref (ad 0), .int a1, .int a2, .int a3, .int a4] ++ List.replicate (6 - (lg_sl [.ref (ad 0), .int a1, .int a2, .int a3, .int a4]).length) Slot.unset).toArray = ls at hl ⊢
  have hl : lv_has ls 6 [(0, .ref (ad 0)), (1, .int a1), (2, .int a2), (3, .int a3), (4, .int a4)] := hl
  have main : ∀ (H : Heap) (locs : List Loc) (ls : Array Slot), va_P D vwCl (wd ca ad S) H → va_S (Aq ad s.heap.size) s.heap H locs → lv_has ls 6 [(0, .ref (ad 0)), (1, .int a1), (2, .int a2), (3, .int a3), (4, .int a4)] → W p l e rm_X5_span s m args below meth c H locs 0 0 (Yi below D ca ad args s 4 24 o) (F0 m 0 ls []) := by
    intro H locs ls hP hS hl
    unfold f_X5_span at hf
    refine lv_aload_n hx hb dX5_span_0 rfl (lv_at hl 0 rfl) ?_
    refine lv_iload_n hx hb dX5_span_1 rfl (lv_at hl 1 rfl) ?_
    refine lv_iload_n hx hb dX5_span_2 rfl (lv_at hl 2 rfl) ?_
    obtain ⟨o3, ho3⟩ := bx_e hf
    refine y_r hS (vx_runV (As := [.int a1, .int a2]) (rest := []) ⟨hx, hb, hml, hown, hts⟩ (m_X5_speedOf l hst D ca ad hj a1 a2 S o3 ho3 H.size) (cwV 2 hts gX5_span_X5_speedOf rfl rfl rfl (by decide +kernel) ⟨Nat.le_of_ble_eq_true rfl, Nat.le_of_ble_eq_true rfl⟩) (x_preV hE hS hKK hP (show qk 0 = 5 from rfl) rfl) rfl rfl hl.1 rfl (lv_room (Nat.le_of_ble_eq_true rfl)) dX5_span_3 ⟨Nat.le_of_ble_eq_true rfl, Nat.le_of_ble_eq_true rfl⟩) (fun E ce q9 u H locs hu hP hS h1 h2 h3 => x_out hT hlocks hP hS h1 h2 h3 (bx_l hf ho3 hu).symm (Nat.le_of_ble_eq_true rfl) (Nat.le_of_ble_eq_true rfl)) (fun c2 H locs hu hP hS => ?_)
    have hf := bx_r hf ho3 hu
    have kc2 := k_X5_speedOf (ho3.trans (congrArg some hu))
    refine lv_astore (lv' := [(5, .ref (ad c2)), (0, .ref (ad 0)), (1, .int a1), (2, .int a2), (3, .int a3), (4, .int a4)]) hx hb dX5_span_6 hl (by decide) rfl (fun ls hl => ?_)
    refine lv_aload_n hx hb dX5_span_8 rfl (lv_at hl 1 rfl) ?_
    refine lv_iload hx hb dX5_span_9 (lv_at hl 5 rfl) ?_
    obtain ⟨q4, hq4, hf⟩ := bd_e hf
    have J1 : ∀ (H : Heap) (locs : List Loc) (ls : Array Slot), va_P D vwCl (wd ca ad S) H → va_S (Aq ad s.heap.size) s.heap H locs → lv_has ls 6 [(0, .ref (ad 0)), (3, .int a3), (5, .ref (ad c2))] → W p l e rm_X5_span s m args below meth c H locs 3 18 (Yi below D ca ad args s 4 24 o) (F0 m 22 ls [.int q4, .ref (ad 0)]) := by
      intro H locs ls hP hS hl
      refine lv_iconst (v := (-1)) hx hb dX5_span_22 (by decide) ?_
      obtain ⟨S8, h7, hf⟩ := bd_e hf
      refine r_cv hS (va_runV (As := [.int q4, .int (-1)]) (rest := []) ⟨hx, hb, hml, hown, hts⟩ (m_X5_reckon l D ca ad hj q4 (-1) S _ h7 H.size) (cwV 2 hts gX5_span_X5_reckon rfl rfl rfl (by decide +kernel) ⟨Nat.le_of_ble_eq_true rfl, Nat.le_of_ble_eq_true rfl⟩) (r_preV hKK hP (show qk 0 = 5 from rfl) rfl) rfl rfl hl.1 rfl (lv_room (Nat.le_of_ble_eq_true rfl)) dX5_span_23 ⟨Nat.le_of_ble_eq_true rfl, Nat.le_of_ble_eq_true rfl⟩) (fun H locs hP hS => ?_)
      refine lv_aload_n hx hb dX5_span_26 rfl (lv_at hl 0 rfl) ?_
      obtain ⟨o10, ho10⟩ := bx_e hf
      refine y_u hS (vx_runV (As := []) (rest := []) ⟨hx, hb, hml, hown, hts⟩ (m_X5_testWay l hst D ca ad hj S8 o10 ho10 H.size) (cwV 0 hts gX5_span_X5_testWay rfl rfl rfl (by decide +kernel) ⟨Nat.le_of_ble_eq_true rfl, Nat.le_of_ble_eq_true rfl⟩) (x_preV hE hS hKK hP (show qk 0 = 5 from rfl) rfl) rfl rfl hl.1 rfl (lv_room (Nat.le_of_ble_eq_true rfl)) dX5_span_27 ⟨Nat.le_of_ble_eq_true rfl, Nat.le_of_ble_eq_true rfl⟩) (fun E ce q9 u H locs hu hP hS h1 h2 h3 => x_out hT hlocks hP hS h1 h2 h3 (bx_l hf ho10 hu).symm (Nat.le_of_ble_eq_true rfl) (Nat.le_of_ble_eq_true rfl)) (fun H locs hu hP hS => ?_)
      have hf := bx_r hf ho10 hu
      refine lv_iload_n hx hb dX5_span_30 rfl (lv_at hl 1 rfl) ?_
      refine lv_if_eq (tgt := 42) hx hb dX5_span_31 (by decide) (fun w => ?_) (fun w => ?_)
      · have hf := if_t w hf
        refine lv_aload hx hb dX5_span_42 (lv_at hl 2 rfl) ?_
        obtain ⟨v12, h11, hf⟩ := bd_e hf
        refine r_ci hS (va_runV (As := []) (rest := []) ⟨hx, hb, hml, hown, hts⟩ (m_X3_leastSeen l D ca ad hj c2 kc2 S8 _ h11 H.size) (cwV 0 hts gX5_span_X3_leastSeen rfl rfl rfl (by decide +kernel) ⟨Nat.le_of_ble_eq_true rfl, Nat.le_of_ble_eq_true rfl⟩) (r_preV hKK hP kc2 rfl) rfl rfl hl.1 rfl (lv_room (Nat.le_of_ble_eq_true rfl)) dX5_span_44 ⟨Nat.le_of_ble_eq_true rfl, Nat.le_of_ble_eq_true rfl⟩) (fun H locs hP hS => ?_)
        exact x_iret hx hb hr hP hS dX5_span_47 hlocks (Nat.le_of_ble_eq_true rfl) (Nat.le_of_ble_eq_true rfl) (Option.some.inj hf).symm
      · have hf := if_f w hf
        refine lv_aload hx hb dX5_span_34 (lv_at hl 2 rfl) ?_
        obtain ⟨v14, h13, hf⟩ := bd_e hf
        refine r_ci hS (va_runV (As := []) (rest := []) ⟨hx, hb, hml, hown, hts⟩ (m_X3_greatestSeen l D ca ad hj c2 kc2 S8 _ h13 H.size) (cwV 0 hts gX5_span_X3_greatestSeen rfl rfl rfl (by decide +kernel) ⟨Nat.le_of_ble_eq_true rfl, Nat.le_of_ble_eq_true rfl⟩) (r_preV hKK hP kc2 rfl) rfl rfl hl.1 rfl (lv_room (Nat.le_of_ble_eq_true rfl)) dX5_span_36 ⟨Nat.le_of_ble_eq_true rfl, Nat.le_of_ble_eq_true rfl⟩) (fun H locs hP hS => ?_)
        refine lv_goto (tgt := 47) hx hb dX5_span_39 (by decide) ?_
        exact x_iret hx hb hr hP hS dX5_span_47 hlocks (Nat.le_of_ble_eq_true rfl) (Nat.le_of_ble_eq_true rfl) (Option.some.inj hf).symm
    replace hf := hq4
    refine lv_if_eq (tgt := 21) hx hb dX5_span_11 (by decide) (fun w => ?_) (fun w => ?_)
    · have hf := if_t w hf
      refine lv_iconst (v := 0) hx hb dX5_span_21 (by decide) ?_
      obtain rfl := Option.some.inj hf
      exact J1 _ _ _ hP hS (lv_sub hl [1, 4, 0] rfl)
    · have hf := if_f w hf
      refine lv_aload_n hx hb dX5_span_14 rfl (lv_at hl 1 rfl) ?_
      obtain ⟨v6, h5, hf⟩ := bd_e hf
      refine r_ci hS (va_runV (As := []) (rest := [.ref (ad 0)]) ⟨hx, hb, hml, hown, hts⟩ (m_X5_allTales l D ca ad hj S _ h5 H.size) (cwV 0 hts gX5_span_X5_allTales rfl rfl rfl (by decide +kernel) ⟨Nat.le_of_ble_eq_true rfl, Nat.le_of_ble_eq_true rfl⟩) (r_preV hKK hP (show qk 0 = 5 from rfl) rfl) rfl rfl hl.1 rfl (lv_room (Nat.le_of_ble_eq_true rfl)) dX5_span_15 ⟨Nat.le_of_ble_eq_true rfl, Nat.le_of_ble_eq_true rfl⟩) (fun H locs hP hS => ?_)
      refine lv_goto (tgt := 22) hx hb dX5_span_18 (by decide) ?_
      obtain rfl := Option.some.inj hf
      exact J1 _ _ _ hP hS (lv_sub hl [1, 4, 0] rfl)
  exact main s.heap [] ls hP va_S.rf hl
def rm_X5_fit : Room := { frames := 6, cells := 0, slots := 0, locals := 131 }
set_option maxRecDepth 100000 in
set_option maxHeartbeats 4000000 in
theorem m_X5_fit (l : Launch) (D : va_G) (ca : Nat → ClassId) (ad : Nat → Nat) (hj : Inj ad) (a1 : Int32) (S : QS) (o : Int32 × QS) (hf : f_X5_fit a1 S = some o) : Ci l D ca ad yX5_fit wsX5_fit rm_X5_fit [.ref (ad 0), .int a1] S o.1 o.2 := by
  intro sz
  refine Met.ofW (cc := cX5_fit) (maxL := 2) (ret := (some .boolean)) (by decide) rfl ?_
  intro p e s m args below meth c s₁ B hml hv
  obtain ⟨hav, hsz, hP, hKK⟩ := hv
  have hx := B.exec
  have hb := B.bytes
  have hr := B.returns
  have hts := atoms_spec (ws := wsX5_fit) B.pre
  have hown : s.vm.findClass RX5 = some m.cls := findClass_of_methodNamed B.named
  have hlocks := B.notSynchronized
  subst hsz
  have hX1 : ∀ w ∈ wsX10, w.before _ s = true := fun w h => hts w (List.mem_cons_of_mem _ (List.mem_append_left _ (List.mem_append_left _ (List.mem_append_left _ (List.mem_append_left _ (List.mem_append_right _ h))))))
  have hX5 : ∀ w ∈ wsX50, w.before _ s = true := fun w h => hts w (List.mem_cons_of_mem _ (List.mem_append_left _ (List.mem_append_left _ (List.mem_append_left _ (List.mem_append_left _ (List.mem_append_left _ (List.mem_append_right _ h)))))))
  have K31 := hts (Cond.fieldLink RX5 31 "CrashDesk" "meeting" "LCrashDesk$Meeting;") (List.mem_cons_of_mem _ (List.mem_append_left _ (List.mem_append_left _ (List.mem_append_left _ (List.mem_append_left _ (List.mem_append_left _ (List.mem_append_left _ (List.mem_append_left _ (List.mem_of_getElem? (i := 0) rfl)))))))))
  have K121 := hts (Cond.fieldLink RX5 121 "CrashDesk$Meeting" "wayCount" "J") (List.mem_cons_of_mem _ (List.mem_append_left _ (List.mem_append_left _ (List.mem_append_left _ (List.mem_append_left _ (List.mem_append_left _ (List.mem_append_left _ (List.mem_append_left _ (List.mem_of_getElem? (i := 1) rfl)))))))))
  have hl := lv_entry [.ref (ad 0), .int a1] (n := 2) (Nat.le_of_ble_eq_true rfl)
  rw [show entryFrame m args 2 = entryFrame m ([.ref (ad 0), .int a1] : List Value).toArray 2 by rw [hav], lg_entry_eq]
  generalize (lg_sl [.ref (ad 0), .int a1] ++ List.replicate (2 - (lg_sl [.ref (ad 0), .int a1]).length) Slot.unset).toArray = ls at hl ⊢
  have hl : lv_has ls 2 [(0, .ref (ad 0)), (1, .int a1)] := hl
  have main : ∀ (H : Heap) (locs : List Loc) (ls : Array Slot), va_P D vwCl (wd ca ad S) H → va_S (Aq ad s.heap.size) s.heap H locs → lv_has ls 2 [(0, .ref (ad 0)), (1, .int a1)] → W p l e rm_X5_fit s m args below meth c H locs 0 0 (Zi below D ca ad args s o.1 o.2) (F0 m 0 ls []) := by
    intro H locs ls hP hS hl
    unfold f_X5_fit at hf
    refine lv_aload_n hx hb dX5_fit_0 rfl (lv_at hl 0 rfl) ?_
    refine lv_iload_n hx hb dX5_fit_1 rfl (lv_at hl 1 rfl) ?_
    refine lv_aload_n hx hb dX5_fit_2 rfl (lv_at hl 0 rfl) ?_
    obtain ⟨v2, h1, hf⟩ := bd_e hf
    refine r_ci hS (va_runV (As := []) (rest := [.int a1, .ref (ad 0)]) ⟨hx, hb, hml, hown, hts⟩ (m_X5_allTales l D ca ad hj S _ h1 H.size) (cwV 0 hts gX5_fit_X5_allTales rfl rfl rfl (by decide +kernel) ⟨Nat.le_of_ble_eq_true rfl, Nat.le_of_ble_eq_true rfl⟩) (r_preV hKK hP (show qk 0 = 5 from rfl) rfl) rfl rfl hl.1 rfl (lv_room (Nat.le_of_ble_eq_true rfl)) dX5_fit_3 ⟨Nat.le_of_ble_eq_true rfl, Nat.le_of_ble_eq_true rfl⟩) (fun H locs hP hS => ?_)
    refine lv_iand hx hb dX5_fit_6 ?_
    refine lv_iconst (v := (-1)) hx hb dX5_fit_7 (by decide) ?_
    obtain ⟨S4, h3, hf⟩ := bd_e hf
    refine r_cv hS (va_runV (As := [.int (a1 &&& v2), .int (-1)]) (rest := []) ⟨hx, hb, hml, hown, hts⟩ (m_X5_reckon l D ca ad hj (a1 &&& v2) (-1) S _ h3 H.size) (cwV 2 hts gX5_fit_X5_reckon rfl rfl rfl (by decide +kernel) ⟨Nat.le_of_ble_eq_true rfl, Nat.le_of_ble_eq_true rfl⟩) (r_preV hKK hP (show qk 0 = 5 from rfl) rfl) rfl rfl hl.1 rfl (lv_room (Nat.le_of_ble_eq_true rfl)) dX5_fit_8 ⟨Nat.le_of_ble_eq_true rfl, Nat.le_of_ble_eq_true rfl⟩) (fun H locs hP hS => ?_)
    refine lv_aload_n hx hb dX5_fit_11 rfl (lv_at hl 0 rfl) ?_
    refine g_X5_meeting hx hb hX5 hown hKK hP (show qk 0 = 5 from rfl) K31 dX5_fit_12 ?_
    refine g_X1_wayCount hx hb hX1 hown hKK hP (show qk 25 = 1 from rfl) K121 dX5_fit_15 ?_
    refine lv_lconst (v := 0) hx hb dX5_fit_18 rfl ?_
    refine W.lcmp hx hb dX5_fit_19 ?_
    refine lv_if_le (tgt := 27) hx hb dX5_fit_20 (by decide) (fun w => ?_) (fun w => ?_)
    · have hf := if_t w hf
      refine lv_iconst (v := 0) hx hb dX5_fit_27 (by decide) ?_
      obtain rfl := Option.some.inj hf
      exact r_zret hx hb hr hP hS (Or.inl rfl) dX5_fit_28 hlocks
    · have hf := if_f w hf
      refine lv_iconst (v := 1) hx hb dX5_fit_23 (by decide) ?_
      refine lv_goto (tgt := 28) hx hb dX5_fit_24 (by decide) ?_
      obtain rfl := Option.some.inj hf
      exact r_zret hx hb hr hP hS (Or.inr rfl) dX5_fit_28 hlocks
  exact main s.heap [] ls hP va_S.rf hl
def rm_X5_wrong : Room := { frames := 6, cells := 0, slots := 0, locals := 131 }
set_option maxRecDepth 100000 in
set_option maxHeartbeats 4000000 in
theorem m_X5_wrong (l : Launch) (D : va_G) (ca : Nat → ClassId) (ad : Nat → Nat) (hj : Inj ad)  (S : QS) (o : Int32 × QS) (hf : f_X5_wrong S = some o) : Ci l D ca ad yX5_wrong wsX5_wrong rm_X5_wrong [.ref (ad 0)] S o.1 o.2 := by
  intro sz
  refine Met.ofW (cc := cX5_wrong) (maxL := 1) (ret := (some .int)) (by decide) rfl ?_
  intro p e s m args below meth c s₁ B hml hv
  obtain ⟨hav, hsz, hP, hKK⟩ := hv
  have hx := B.exec
  have hb := B.bytes
  have hr := B.returns
  have hts := atoms_spec (ws := wsX5_wrong) B.pre
  have hown : s.vm.findClass RX5 = some m.cls := findClass_of_methodNamed B.named
  have hlocks := B.notSynchronized
  subst hsz
  have hX1 : ∀ w ∈ wsX10, w.before _ s = true := fun w h => hts w (List.mem_cons_of_mem _ (List.mem_append_left _ (List.mem_append_left _ (List.mem_append_left _ (List.mem_append_left _ (List.mem_append_right _ h))))))
  have hX5 : ∀ w ∈ wsX50, w.before _ s = true := fun w h => hts w (List.mem_cons_of_mem _ (List.mem_append_left _ (List.mem_append_left _ (List.mem_append_left _ (List.mem_append_left _ (List.mem_append_left _ (List.mem_append_right _ h)))))))
  have K31 := hts (Cond.fieldLink RX5 31 "CrashDesk" "meeting" "LCrashDesk$Meeting;") (List.mem_cons_of_mem _ (List.mem_append_left _ (List.mem_append_left _ (List.mem_append_left _ (List.mem_append_left _ (List.mem_append_left _ (List.mem_append_left _ (List.mem_append_left _ (List.mem_of_getElem? (i := 0) rfl)))))))))
  have K138 := hts (Cond.fieldLink RX5 138 "CrashDesk$Meeting" "cheapest" "I") (List.mem_cons_of_mem _ (List.mem_append_left _ (List.mem_append_left _ (List.mem_append_left _ (List.mem_append_left _ (List.mem_append_left _ (List.mem_append_left _ (List.mem_append_left _ (List.mem_of_getElem? (i := 1) rfl)))))))))
  have hl := lv_entry [.ref (ad 0)] (n := 1) (Nat.le_of_ble_eq_true rfl)
  rw [show entryFrame m args 1 = entryFrame m ([.ref (ad 0)] : List Value).toArray 1 by rw [hav], lg_entry_eq]
  generalize (lg_sl [.ref (ad 0)] ++ List.replicate (1 - (lg_sl [.ref (ad 0)]).length) Slot.unset).toArray = ls at hl ⊢
  have hl : lv_has ls 1 [(0, .ref (ad 0))] := hl
  have main : ∀ (H : Heap) (locs : List Loc) (ls : Array Slot), va_P D vwCl (wd ca ad S) H → va_S (Aq ad s.heap.size) s.heap H locs → lv_has ls 1 [(0, .ref (ad 0))] → W p l e rm_X5_wrong s m args below meth c H locs 0 0 (Zi below D ca ad args s o.1 o.2) (F0 m 0 ls []) := by
    intro H locs ls hP hS hl
    unfold f_X5_wrong at hf
    refine lv_aload_n hx hb dX5_wrong_0 rfl (lv_at hl 0 rfl) ?_
    refine lv_iconst (v := 0) hx hb dX5_wrong_1 (by decide) ?_
    refine lv_iconst (v := (-1)) hx hb dX5_wrong_2 (by decide) ?_
    obtain ⟨S2, h1, hf⟩ := bd_e hf
    refine r_cv hS (va_runV (As := [.int 0, .int (-1)]) (rest := []) ⟨hx, hb, hml, hown, hts⟩ (m_X5_reckon l D ca ad hj 0 (-1) S _ h1 H.size) (cwV 2 hts gX5_wrong_X5_reckon rfl rfl rfl (by decide +kernel) ⟨Nat.le_of_ble_eq_true rfl, Nat.le_of_ble_eq_true rfl⟩) (r_preV hKK hP (show qk 0 = 5 from rfl) rfl) rfl rfl hl.1 rfl (lv_room (Nat.le_of_ble_eq_true rfl)) dX5_wrong_3 ⟨Nat.le_of_ble_eq_true rfl, Nat.le_of_ble_eq_true rfl⟩) (fun H locs hP hS => ?_)
    refine lv_aload_n hx hb dX5_wrong_6 rfl (lv_at hl 0 rfl) ?_
    refine g_X5_meeting hx hb hX5 hown hKK hP (show qk 0 = 5 from rfl) K31 dX5_wrong_7 ?_
    refine g_X1_cheapest hx hb hX1 hown hKK hP (show qk 25 = 1 from rfl) K138 dX5_wrong_10 ?_
    refine lv_iconst (v := (-1)) hx hb dX5_wrong_13 (by decide) ?_
    refine lv_icmp_ne (tgt := 21) hx hb dX5_wrong_14 (by decide) (fun w => ?_) (fun w => ?_)
    · have hf := if_f w hf
      refine lv_aload_n hx hb dX5_wrong_21 rfl (lv_at hl 0 rfl) ?_
      refine g_X5_meeting hx hb hX5 hown hKK hP (show qk 0 = 5 from rfl) K31 dX5_wrong_22 ?_
      refine g_X1_cheapest hx hb hX1 hown hKK hP (show qk 25 = 1 from rfl) K138 dX5_wrong_25 ?_
      refine lv_sipush (v := 1024) hx hb dX5_wrong_28 (by decide) ?_
      obtain ⟨v3, h4, hf⟩ := bd_e hf
      obtain ⟨h4z, h4e⟩ := q_dv h4
      refine lv_idiv hx hb dX5_wrong_31 h4z ?_
      rw [← h4e]
      obtain rfl := Option.some.inj hf
      exact r_iret hx hb hr hP hS dX5_wrong_32 hlocks
    · have hf := if_t w hf
      refine lv_iconst (v := (-1)) hx hb dX5_wrong_17 (by decide) ?_
      refine lv_goto (tgt := 32) hx hb dX5_wrong_18 (by decide) ?_
      obtain rfl := Option.some.inj hf
      exact r_iret hx hb hr hP hS dX5_wrong_32 hlocks
  exact main s.heap [] ls hP va_S.rf hl
def rm_X5_which : Room := { frames := 6, cells := 0, slots := 0, locals := 131 }
set_option maxRecDepth 100000 in
set_option maxHeartbeats 4000000 in
theorem m_X5_which (l : Launch) (D : va_G) (ca : Nat → ClassId) (ad : Nat → Nat) (hj : Inj ad)  (S : QS) (o : Int32 × QS) (hf : f_X5_which S = some o) : Ci l D ca ad yX5_which wsX5_which rm_X5_which [.ref (ad 0)] S o.1 o.2 := by
  intro sz
  refine Met.ofW (cc := cX5_which) (maxL := 1) (ret := (some .int)) (by decide) rfl ?_
  intro p e s m args below meth c s₁ B hml hv
  obtain ⟨hav, hsz, hP, hKK⟩ := hv
  have hx := B.exec
  have hb := B.bytes
  have hr := B.returns
  have hts := atoms_spec (ws := wsX5_which) B.pre
  have hown : s.vm.findClass RX5 = some m.cls := findClass_of_methodNamed B.named
  have hlocks := B.notSynchronized
  subst hsz
  have hX1 : ∀ w ∈ wsX10, w.before _ s = true := fun w h => hts w (List.mem_cons_of_mem _ (List.mem_append_left _ (List.mem_append_left _ (List.mem_append_left _ (List.mem_append_left _ (List.mem_append_right _ h))))))
  have hX5 : ∀ w ∈ wsX50, w.before _ s = true := fun w h => hts w (List.mem_cons_of_mem _ (List.mem_append_left _ (List.mem_append_left _ (List.mem_append_left _ (List.mem_append_left _ (List.mem_append_left _ (List.mem_append_right _ h)))))))
  have K31 := hts (Cond.fieldLink RX5 31 "CrashDesk" "meeting" "LCrashDesk$Meeting;") (List.mem_cons_of_mem _ (List.mem_append_left _ (List.mem_append_left _ (List.mem_append_left _ (List.mem_append_left _ (List.mem_append_left _ (List.mem_append_left _ (List.mem_append_left _ (List.mem_of_getElem? (i := 0) rfl)))))))))
  have K138 := hts (Cond.fieldLink RX5 138 "CrashDesk$Meeting" "cheapest" "I") (List.mem_cons_of_mem _ (List.mem_append_left _ (List.mem_append_left _ (List.mem_append_left _ (List.mem_append_left _ (List.mem_append_left _ (List.mem_append_left _ (List.mem_append_left _ (List.mem_of_getElem? (i := 1) rfl)))))))))
  have hl := lv_entry [.ref (ad 0)] (n := 1) (Nat.le_of_ble_eq_true rfl)
  rw [show entryFrame m args 1 = entryFrame m ([.ref (ad 0)] : List Value).toArray 1 by rw [hav], lg_entry_eq]
  generalize (lg_sl [.ref (ad 0)] ++ List.replicate (1 - (lg_sl [.ref (ad 0)]).length) Slot.unset).toArray = ls at hl ⊢
  have hl : lv_has ls 1 [(0, .ref (ad 0))] := hl
  have main : ∀ (H : Heap) (locs : List Loc) (ls : Array Slot), va_P D vwCl (wd ca ad S) H → va_S (Aq ad s.heap.size) s.heap H locs → lv_has ls 1 [(0, .ref (ad 0))] → W p l e rm_X5_which s m args below meth c H locs 0 0 (Zi below D ca ad args s o.1 o.2) (F0 m 0 ls []) := by
    intro H locs ls hP hS hl
    unfold f_X5_which at hf
    refine lv_aload_n hx hb dX5_which_0 rfl (lv_at hl 0 rfl) ?_
    refine lv_iconst (v := 0) hx hb dX5_which_1 (by decide) ?_
    refine lv_iconst (v := (-1)) hx hb dX5_which_2 (by decide) ?_
    obtain ⟨S2, h1, hf⟩ := bd_e hf
    refine r_cv hS (va_runV (As := [.int 0, .int (-1)]) (rest := []) ⟨hx, hb, hml, hown, hts⟩ (m_X5_reckon l D ca ad hj 0 (-1) S _ h1 H.size) (cwV 2 hts gX5_which_X5_reckon rfl rfl rfl (by decide +kernel) ⟨Nat.le_of_ble_eq_true rfl, Nat.le_of_ble_eq_true rfl⟩) (r_preV hKK hP (show qk 0 = 5 from rfl) rfl) rfl rfl hl.1 rfl (lv_room (Nat.le_of_ble_eq_true rfl)) dX5_which_3 ⟨Nat.le_of_ble_eq_true rfl, Nat.le_of_ble_eq_true rfl⟩) (fun H locs hP hS => ?_)
    refine lv_aload_n hx hb dX5_which_6 rfl (lv_at hl 0 rfl) ?_
    refine g_X5_meeting hx hb hX5 hown hKK hP (show qk 0 = 5 from rfl) K31 dX5_which_7 ?_
    refine g_X1_cheapest hx hb hX1 hown hKK hP (show qk 25 = 1 from rfl) K138 dX5_which_10 ?_
    refine lv_iconst (v := (-1)) hx hb dX5_which_13 (by decide) ?_
    refine lv_icmp_ne (tgt := 21) hx hb dX5_which_14 (by decide) (fun w => ?_) (fun w => ?_)
    · have hf := if_f w hf
      refine lv_aload_n hx hb dX5_which_21 rfl (lv_at hl 0 rfl) ?_
      refine g_X5_meeting hx hb hX5 hown hKK hP (show qk 0 = 5 from rfl) K31 dX5_which_22 ?_
      refine g_X1_cheapest hx hb hX1 hown hKK hP (show qk 25 = 1 from rfl) K138 dX5_which_25 ?_
      refine lv_sipush (v := 1024) hx hb dX5_which_28 (by decide) ?_
      obtain ⟨v3, h4, hf⟩ := bd_e hf
      obtain ⟨h4z, h4e⟩ := q_rm h4
      refine lv_irem hx hb dX5_which_31 h4z ?_
      rw [← h4e]
      obtain rfl := Option.some.inj hf
      exact r_iret hx hb hr hP hS dX5_which_32 hlocks
    · have hf := if_t w hf
      refine lv_iconst (v := (-1)) hx hb dX5_which_17 (by decide) ?_
      refine lv_goto (tgt := 32) hx hb dX5_which_18 (by decide) ?_
      obtain rfl := Option.some.inj hf
      exact r_iret hx hb hr hP hS dX5_which_32 hlocks
  exact main s.heap [] ls hP va_S.rf hl
def rm_X5_odds : Room := { frames := 6, cells := 0, slots := 0, locals := 131 }
set_option maxRecDepth 100000 in
set_option maxHeartbeats 4000000 in
theorem m_X5_odds (l : Launch) (D : va_G) (ca : Nat → ClassId) (ad : Nat → Nat) (hj : Inj ad)  (S : QS) (o : Int32 × QS) (hf : f_X5_odds S = some o) : Ci l D ca ad yX5_odds wsX5_odds rm_X5_odds [.ref (ad 0)] S o.1 o.2 := by
  intro sz
  refine Met.ofW (cc := cX5_odds) (maxL := 3) (ret := (some .int)) (by decide) rfl ?_
  intro p e s m args below meth c s₁ B hml hv
  obtain ⟨hav, hsz, hP, hKK⟩ := hv
  have hx := B.exec
  have hb := B.bytes
  have hr := B.returns
  have hts := atoms_spec (ws := wsX5_odds) B.pre
  have hown : s.vm.findClass RX5 = some m.cls := findClass_of_methodNamed B.named
  have hlocks := B.notSynchronized
  subst hsz
  have hX1 : ∀ w ∈ wsX10, w.before _ s = true := fun w h => hts w (List.mem_cons_of_mem _ (List.mem_append_left _ (List.mem_append_left _ (List.mem_append_left _ (List.mem_append_left _ (List.mem_append_right _ h))))))
  have hX2 : ∀ w ∈ wsX20, w.before _ s = true := fun w h => hts w (List.mem_cons_of_mem _ (List.mem_append_left _ (List.mem_append_left _ (List.mem_append_left _ (List.mem_append_right _ h)))))
  have hX5 : ∀ w ∈ wsX50, w.before _ s = true := fun w h => hts w (List.mem_cons_of_mem _ (List.mem_append_left _ (List.mem_append_left _ (List.mem_append_left _ (List.mem_append_left _ (List.mem_append_left _ (List.mem_append_right _ h)))))))
  have K11 := hts (Cond.fieldLink RX5 11 "CrashDesk" "skids" "[LCrashDesk$Skid;") (List.mem_cons_of_mem _ (List.mem_append_left _ (List.mem_append_left _ (List.mem_append_left _ (List.mem_append_left _ (List.mem_append_left _ (List.mem_append_left _ (List.mem_append_left _ (List.mem_of_getElem? (i := 3) rfl)))))))))
  have K21 := hts (Cond.fieldLink RX5 21 "CrashDesk" "skidCount" "I") (List.mem_cons_of_mem _ (List.mem_append_left _ (List.mem_append_left _ (List.mem_append_left _ (List.mem_append_left _ (List.mem_append_left _ (List.mem_append_left _ (List.mem_append_left _ (List.mem_of_getElem? (i := 2) rfl)))))))))
  have K31 := hts (Cond.fieldLink RX5 31 "CrashDesk" "meeting" "LCrashDesk$Meeting;") (List.mem_cons_of_mem _ (List.mem_append_left _ (List.mem_append_left _ (List.mem_append_left _ (List.mem_append_left _ (List.mem_append_left _ (List.mem_append_left _ (List.mem_append_left _ (List.mem_of_getElem? (i := 0) rfl)))))))))
  have K87 := hts (Cond.fieldLink RX5 87 "CrashDesk$Skid" "counts" "Z") (List.mem_cons_of_mem _ (List.mem_append_left _ (List.mem_append_left _ (List.mem_append_left _ (List.mem_append_left _ (List.mem_append_left _ (List.mem_append_left _ (List.mem_append_left _ (List.mem_of_getElem? (i := 4) rfl)))))))))
  have K121 := hts (Cond.fieldLink RX5 121 "CrashDesk$Meeting" "wayCount" "J") (List.mem_cons_of_mem _ (List.mem_append_left _ (List.mem_append_left _ (List.mem_append_left _ (List.mem_append_left _ (List.mem_append_left _ (List.mem_append_left _ (List.mem_append_left _ (List.mem_of_getElem? (i := 1) rfl)))))))))
  have hl := lv_entry [.ref (ad 0)] (n := 3) (Nat.le_of_ble_eq_true rfl)
  rw [show entryFrame m args 3 = entryFrame m ([.ref (ad 0)] : List Value).toArray 3 by rw [hav], lg_entry_eq]
  generalize (lg_sl [.ref (ad 0)] ++ List.replicate (3 - (lg_sl [.ref (ad 0)]).length) Slot.unset).toArray = ls at hl ⊢
  have hl : lv_has ls 3 [(0, .ref (ad 0))] := hl
  have main : ∀ (H : Heap) (locs : List Loc) (ls : Array Slot), va_P D vwCl (wd ca ad S) H → va_S (Aq ad s.heap.size) s.heap H locs → lv_has ls 3 [(0, .ref (ad 0))] → W p l e rm_X5_odds s m args below meth c H locs 0 0 (Zi below D ca ad args s o.1 o.2) (F0 m 0 ls []) := by
    intro H locs ls hP hS hl
    unfold f_X5_odds at hf
    refine lv_aload_n hx hb dX5_odds_0 rfl (lv_at hl 0 rfl) ?_
    refine lv_iconst (v := 0) hx hb dX5_odds_1 (by decide) ?_
    refine lv_iconst (v := (-1)) hx hb dX5_odds_2 (by decide) ?_
    obtain ⟨S2, h1, hf⟩ := bd_e hf
    refine r_cv hS (va_runV (As := [.int 0, .int (-1)]) (rest := []) ⟨hx, hb, hml, hown, hts⟩ (m_X5_reckon l D ca ad hj 0 (-1) S _ h1 H.size) (cwV 2 hts gX5_odds_X5_reckon rfl rfl rfl (by decide +kernel) ⟨Nat.le_of_ble_eq_true rfl, Nat.le_of_ble_eq_true rfl⟩) (r_preV hKK hP (show qk 0 = 5 from rfl) rfl) rfl rfl hl.1 rfl (lv_room (Nat.le_of_ble_eq_true rfl)) dX5_odds_3 ⟨Nat.le_of_ble_eq_true rfl, Nat.le_of_ble_eq_true rfl⟩) (fun H locs hP hS => ?_)
    refine lv_aload_n hx hb dX5_odds_6 rfl (lv_at hl 0 rfl) ?_
    refine g_X5_meeting hx hb hX5 hown hKK hP (show qk 0 = 5 from rfl) K31 dX5_odds_7 ?_
    refine g_X1_wayCount hx hb hX1 hown hKK hP (show qk 25 = 1 from rfl) K121 dX5_odds_10 ?_
    refine lv_lconst (v := 0) hx hb dX5_odds_13 rfl ?_
    refine W.lcmp hx hb dX5_odds_14 ?_
    refine lv_if_le (tgt := 20) hx hb dX5_odds_15 (by decide) (fun w => ?_) (fun w => ?_)
    · have hf := if_t w hf
      refine lv_iconst (v := 0) hx hb dX5_odds_20 (by decide) ?_
      refine lv_istore_n (lv' := [(1, .int 0), (0, .ref (ad 0))]) hx hb dX5_odds_21 rfl hl (by decide) rfl (fun ls hl => ?_)
      refine lv_iconst (v := 0) hx hb dX5_odds_22 (by decide) ?_
      refine lv_istore_n (lv' := [(2, .int 0), (1, .int 0), (0, .ref (ad 0))]) hx hb dX5_odds_23 rfl hl (by decide) rfl (fun ls hl => ?_)
      have L1 : ∀ (fuel : Nat) (v3 : Int32) (v4 : Int32) (S5 : QS), lp_X5_odds_24 fuel v3 v4 S5 = some o → ∀ (H : Heap) (locs : List Loc) (ls : Array Slot), va_P D vwCl (wd ca ad S5) H → va_S (Aq ad s.heap.size) s.heap H locs → lv_has ls 3 [(0, .ref (ad 0)), (1, .int v3), (2, .int v4)] → W p l e rm_X5_odds s m args below meth c H locs 0 0 (Zi below D ca ad args s o.1 o.2) (F0 m 24 ls []) := by
        intro fuel
        induction fuel with
        | zero =>
          intro v3 v4 S5 hf
          simp [lp_X5_odds_24] at hf
        | succ fuel ih =>
          intro v3 v4 S5 hf H locs ls hP hS hl
          rw [lp_X5_odds_24] at hf
          refine lv_iload_n hx hb dX5_odds_24 rfl (lv_at hl 2 rfl) ?_
          refine lv_aload_n hx hb dX5_odds_25 rfl (lv_at hl 0 rfl) ?_
          refine g_X5_skidCount hx hb hX5 hown hKK hP (show qk 0 = 5 from rfl) K21 dX5_odds_26 ?_
          refine lv_icmp_ge (tgt := 78) hx hb dX5_odds_29 (by decide) (fun w => ?_) (fun w => ?_)
          · have hf := if_t w hf
            refine lv_iload_n hx hb dX5_odds_78 rfl (lv_at hl 1 rfl) ?_
            obtain rfl := Option.some.inj hf
            exact r_iret hx hb hr hP hS dX5_odds_79 hlocks
          · have hf := if_f w hf
            refine lv_aload_n hx hb dX5_odds_32 rfl (lv_at hl 0 rfl) ?_
            refine g_X5_skids hx hb hX5 hown hKK hP (show qk 0 = 5 from rfl) K11 dX5_odds_33 ?_
            refine lv_iload_n hx hb dX5_odds_36 rfl (lv_at hl 2 rfl) ?_
            obtain ⟨c6, h7, hf⟩ := bd_e hf
            refine r_sald hx hb hKK hP h7 dX5_odds_37 (fun kc6 => ?_)
            refine g_X2_counts hx hb hX2 hown hKK hP kc6 K87 dX5_odds_38 ?_
            refine lv_if_eq (tgt := 72) hx hb dX5_odds_41 (by decide) (fun w => ?_) (fun w => ?_)
            · have hf := if_t w hf
              refine lv_iinc (v := (v4 + 1)) (lv' := [(2, .int (v4 + 1)), (0, .ref (ad 0)), (1, .int v3)]) hx hb dX5_odds_72 hl (k := 2) rfl rfl (by decide) rfl (fun ls hl => ?_)
              refine lv_goto (tgt := 24) hx hb dX5_odds_75 (by decide) ?_
              exact ih _ _ _ hf _ _ _ hP hS (lv_sub hl [1, 2, 0] rfl)
            · have hf := if_f w hf
              refine lv_aload_n hx hb dX5_odds_44 rfl (lv_at hl 0 rfl) ?_
              refine lv_iconst (v := 0) hx hb dX5_odds_45 (by decide) ?_
              refine lv_iload_n hx hb dX5_odds_46 rfl (lv_at hl 2 rfl) ?_
              obtain ⟨S9, h8, hf⟩ := bd_e hf
              refine r_cv hS (va_runV (As := [.int 0, .int v4]) (rest := []) ⟨hx, hb, hml, hown, hts⟩ (m_X5_reckon l D ca ad hj 0 v4 S5 _ h8 H.size) (cwV 2 hts gX5_odds_X5_reckon rfl rfl rfl (by decide +kernel) ⟨Nat.le_of_ble_eq_true rfl, Nat.le_of_ble_eq_true rfl⟩) (r_preV hKK hP (show qk 0 = 5 from rfl) rfl) rfl rfl hl.1 rfl (lv_room (Nat.le_of_ble_eq_true rfl)) dX5_odds_47 ⟨Nat.le_of_ble_eq_true rfl, Nat.le_of_ble_eq_true rfl⟩) (fun H locs hP hS => ?_)
              refine lv_iload_n hx hb dX5_odds_50 rfl (lv_at hl 1 rfl) ?_
              refine lv_aload_n hx hb dX5_odds_51 rfl (lv_at hl 0 rfl) ?_
              refine g_X5_meeting hx hb hX5 hown hKK hP (show qk 0 = 5 from rfl) K31 dX5_odds_52 ?_
              refine g_X1_wayCount hx hb hX1 hown hKK hP (show qk 25 = 1 from rfl) K121 dX5_odds_55 ?_
              refine lv_lconst (v := 0) hx hb dX5_odds_58 rfl ?_
              refine W.lcmp hx hb dX5_odds_59 ?_
              obtain ⟨q10, hq10, hf⟩ := bd_e hf
              have J2 : ∀ (H : Heap) (locs : List Loc) (ls : Array Slot), va_P D vwCl (wd ca ad S9) H → va_S (Aq ad s.heap.size) s.heap H locs → lv_has ls 3 [(0, .ref (ad 0)), (2, .int v4)] → W p l e rm_X5_odds s m args below meth c H locs 0 0 (Zi below D ca ad args s o.1 o.2) (F0 m 70 ls [.int q10, .int v3]) := by
                intro H locs ls hP hS hl
                refine lv_ior hx hb dX5_odds_70 ?_
                refine lv_istore_n (lv' := [(1, .int (v3 ||| q10)), (0, .ref (ad 0)), (2, .int v4)]) hx hb dX5_odds_71 rfl hl (by decide) rfl (fun ls hl => ?_)
                refine lv_iinc (v := (v4 + 1)) (lv' := [(2, .int (v4 + 1)), (1, .int (v3 ||| q10)), (0, .ref (ad 0))]) hx hb dX5_odds_72 hl (k := 2) rfl rfl (by decide) rfl (fun ls hl => ?_)
                refine lv_goto (tgt := 24) hx hb dX5_odds_75 (by decide) ?_
                exact ih _ _ _ hf _ _ _ hP hS (lv_sub hl [2, 1, 0] rfl)
              replace hf := hq10
              refine lv_if_le (tgt := 69) hx hb dX5_odds_60 (by decide) (fun w => ?_) (fun w => ?_)
              · have hf := if_t w hf
                refine lv_iconst (v := 0) hx hb dX5_odds_69 (by decide) ?_
                obtain rfl := Option.some.inj hf
                exact J2 _ _ _ hP hS (lv_sub hl [0, 2] rfl)
              · have hf := if_f w hf
                refine lv_iconst (v := 1) hx hb dX5_odds_63 (by decide) ?_
                refine lv_iload_n hx hb dX5_odds_64 rfl (lv_at hl 2 rfl) ?_
                refine lv_ishl hx hb dX5_odds_65 ?_
                refine lv_goto (tgt := 70) hx hb dX5_odds_66 (by decide) ?_
                obtain rfl := Option.some.inj hf
                exact J2 _ _ _ hP hS (lv_sub hl [0, 2] rfl)
      exact L1 _ _ _ _ hf _ _ _ hP hS (lv_sub hl [2, 1, 0] rfl)
    · have hf := if_f w hf
      refine lv_iconst (v := 0) hx hb dX5_odds_18 (by decide) ?_
      obtain rfl := Option.some.inj hf
      exact r_iret hx hb hr hP hS dX5_odds_19 hlocks
  exact main s.heap [] ls hP va_S.rf hl
def rm_X5_avoided : Room := { frames := 8, cells := 4, slots := 24, locals := 131 }
set_option maxRecDepth 100000 in
set_option maxHeartbeats 4000000 in
theorem m_X5_avoided (l : Launch) (hst : l.stackTraces = false) (D : va_G) (ca : Nat → ClassId) (ad : Nat → Nat) (hj : Inj ad) (a1 : Int32) (a2 : Int32) (a3 : Int32) (S : QS) (o : (String × QS) ⊕ (Int32 × QS)) (hf : f_X5_avoided a1 a2 a3 S = some o) : Xi l D ca ad yX5_avoided wzX5_avoided rm_X5_avoided [.ref (ad 0), .int a1, .int a2, .int a3] S o 4 24 := by
  intro sz
  refine vx_ofW (cc := cX5_avoided) (maxL := 9) (ret := (some .int)) (by decide) rfl ?_
  intro p e s m args below meth c s₁ B hml hT hv
  obtain ⟨hav, ⟨hsz, hP, hKK⟩, hE⟩ := hv
  have hx := B.exec
  have hb := B.bytes
  have hr := B.returns
  have hts := atoms_spec (ws := wzX5_avoided) B.pre
  have hown : s.vm.findClass RX5 = some m.cls := findClass_of_methodNamed B.named
  have hlocks := B.notSynchronized
  subst hsz
  have hX0 : ∀ w ∈ wsX00, w.before _ s = true := fun w h => hts w (List.mem_cons_of_mem _ (List.mem_append_left _ (List.mem_append_left _ (List.mem_append_left _ (List.mem_append_left _ (List.mem_append_left _ (List.mem_append_left _ (List.mem_append_left _ (List.mem_append_left _ (List.mem_append_right _ h))))))))))
  have K141 := hts (Cond.fieldLink RX5 141 "CrashDesk$Car" "first" "LCrashDesk$Speed;") (List.mem_cons_of_mem _ (List.mem_append_left _ (List.mem_append_left _ (List.mem_append_left _ (List.mem_append_left _ (List.mem_append_left _ (List.mem_append_left _ (List.mem_append_left _ (List.mem_append_left _ (List.mem_append_left _ (List.mem_append_left _ (List.mem_of_getElem? (i := 0) rfl))))))))))))
  have hl := lv_entry [.ref (ad 0), .int a1, .int a2, .int a3] (n := 9) (Nat.le_of_ble_eq_true rfl)
  rw [show entryFrame m args 9 = entryFrame m ([.ref (ad 0), .int a1, .int a2, .int a3] : List Value).toArray 9 by rw [hav], lg_entry_eq]
  generalize (lg_sl [.ref (ad 0), .int a1, .int a2, .int a3] ++ List.replicate (9 - (lg_sl [.ref (ad 0), .int a1, .int a2, .int a3]).length) Slot.unset).toArray = ls at hl ⊢
  have hl : lv_has ls 9 [(0, .ref (ad 0)), (1, .int a1), (2, .int a2), (3, .int a3)] := hl
  have main : ∀ (H : Heap) (locs : List Loc) (ls : Array Slot), va_P D vwCl (wd ca ad S) H → va_S (Aq ad s.heap.size) s.heap H locs → lv_has ls 9 [(0, .ref (ad 0)), (1, .int a1), (2, .int a2), (3, .int a3)] → W p l e rm_X5_avoided s m args below meth c H locs 0 0 (Yi below D ca ad args s 4 24 o) (F0 m 0 ls []) := by
    intro H locs ls hP hS hl
    unfold f_X5_avoided at hf
    refine lv_aload_n hx hb dX5_avoided_0 rfl (lv_at hl 0 rfl) ?_
    refine lv_iload_n hx hb dX5_avoided_1 rfl (lv_at hl 1 rfl) ?_
    obtain ⟨o3, ho3⟩ := bx_e hf
    refine y_r hS (vx_runV (As := [.int a1]) (rest := []) ⟨hx, hb, hml, hown, hts⟩ (m_X5_carOf l hst D ca ad hj a1 S o3 ho3 H.size) (cwV 1 hts gX5_avoided_X5_carOf rfl rfl rfl (by decide +kernel) ⟨Nat.le_of_ble_eq_true rfl, Nat.le_of_ble_eq_true rfl⟩) (x_preV hE hS hKK hP (show qk 0 = 5 from rfl) rfl) rfl rfl hl.1 rfl (lv_room (Nat.le_of_ble_eq_true rfl)) dX5_avoided_2 ⟨Nat.le_of_ble_eq_true rfl, Nat.le_of_ble_eq_true rfl⟩) (fun E ce q9 u H locs hu hP hS h1 h2 h3 => x_out hT hlocks hP hS h1 h2 h3 (bx_l hf ho3 hu).symm (Nat.le_of_ble_eq_true rfl) (Nat.le_of_ble_eq_true rfl)) (fun c2 H locs hu hP hS => ?_)
    have hf := bx_r hf ho3 hu
    have kc2 := k_X5_carOf (ho3.trans (congrArg some hu))
    refine g_X0_first hx hb hX0 hown hKK hP kc2 K141 dX5_avoided_5 ?_
    refine lv_astore (lv' := [(4, .ref (ad (c2 + 1))), (0, .ref (ad 0)), (1, .int a1), (2, .int a2), (3, .int a3)]) hx hb dX5_avoided_8 hl (by decide) rfl (fun ls hl => ?_)
    refine lv_iload_n hx hb dX5_avoided_10 rfl (lv_at hl 3 rfl) ?_
    refine lv_iconst (v := 0) hx hb dX5_avoided_11 (by decide) ?_
    refine lv_sipush (v := 2000) hx hb dX5_avoided_12 (by decide) ?_
    obtain ⟨o5, ho5⟩ := bx_e hf
    refine y_u hS (vx_runS (As := [.int a2, .int 0, .int 2000]) (rest := []) ⟨hx, hb, hml, hown, hts⟩ (m_X5_testNumber l hst D ca ad hj a2 0 2000 S o5 ho5 H.size) (cwS 3 hts gX5_avoided_X5_testNumber rfl rfl rfl (by decide +kernel) ⟨Nat.le_of_ble_eq_true rfl, Nat.le_of_ble_eq_true rfl⟩) (x_pre hE hS hKK hP) rfl rfl hl.1 rfl (lv_room (Nat.le_of_ble_eq_true rfl)) dX5_avoided_15 ⟨Nat.le_of_ble_eq_true rfl, Nat.le_of_ble_eq_true rfl⟩) (fun E ce q9 u H locs hu hP hS h1 h2 h3 => x_out hT hlocks hP hS h1 h2 h3 (bx_l hf ho5 hu).symm (Nat.le_of_ble_eq_true rfl) (Nat.le_of_ble_eq_true rfl)) (fun H locs hu hP hS => ?_)
    have hf := bx_r hf ho5 hu
    refine lv_iload_n hx hb dX5_avoided_18 rfl (lv_at hl 4 rfl) ?_
    refine lv_iconst (v := 0) hx hb dX5_avoided_19 (by decide) ?_
    refine lv_sipush (v := 150) hx hb dX5_avoided_20 (by decide) ?_
    obtain ⟨o7, ho7⟩ := bx_e hf
    refine y_u hS (vx_runS (As := [.int a3, .int 0, .int 150]) (rest := []) ⟨hx, hb, hml, hown, hts⟩ (m_X5_testNumber l hst D ca ad hj a3 0 150 S o7 ho7 H.size) (cwS 3 hts gX5_avoided_X5_testNumber rfl rfl rfl (by decide +kernel) ⟨Nat.le_of_ble_eq_true rfl, Nat.le_of_ble_eq_true rfl⟩) (x_pre hE hS hKK hP) rfl rfl hl.1 rfl (lv_room (Nat.le_of_ble_eq_true rfl)) dX5_avoided_23 ⟨Nat.le_of_ble_eq_true rfl, Nat.le_of_ble_eq_true rfl⟩) (fun E ce q9 u H locs hu hP hS h1 h2 h3 => x_out hT hlocks hP hS h1 h2 h3 (bx_l hf ho7 hu).symm (Nat.le_of_ble_eq_true rfl) (Nat.le_of_ble_eq_true rfl)) (fun H locs hu hP hS => ?_)
    have hf := bx_r hf ho7 hu
    refine lv_aload_n hx hb dX5_avoided_26 rfl (lv_at hl 1 rfl) ?_
    refine lv_iconst (v := 0) hx hb dX5_avoided_27 (by decide) ?_
    refine lv_iconst (v := (-1)) hx hb dX5_avoided_28 (by decide) ?_
    obtain ⟨S9, h8, hf⟩ := bd_e hf
    refine r_cv hS (va_runV (As := [.int 0, .int (-1)]) (rest := []) ⟨hx, hb, hml, hown, hts⟩ (m_X5_reckon l D ca ad hj 0 (-1) S _ h8 H.size) (cwV 2 hts gX5_avoided_X5_reckon rfl rfl rfl (by decide +kernel) ⟨Nat.le_of_ble_eq_true rfl, Nat.le_of_ble_eq_true rfl⟩) (r_preV hKK hP (show qk 0 = 5 from rfl) rfl) rfl rfl hl.1 rfl (lv_room (Nat.le_of_ble_eq_true rfl)) dX5_avoided_29 ⟨Nat.le_of_ble_eq_true rfl, Nat.le_of_ble_eq_true rfl⟩) (fun H locs hP hS => ?_)
    refine lv_aload_n hx hb dX5_avoided_32 rfl (lv_at hl 1 rfl) ?_
    obtain ⟨o11, ho11⟩ := bx_e hf
    refine y_u hS (vx_runV (As := []) (rest := []) ⟨hx, hb, hml, hown, hts⟩ (m_X5_testWay l hst D ca ad hj S9 o11 ho11 H.size) (cwV 0 hts gX5_avoided_X5_testWay rfl rfl rfl (by decide +kernel) ⟨Nat.le_of_ble_eq_true rfl, Nat.le_of_ble_eq_true rfl⟩) (x_preV hE hS hKK hP (show qk 0 = 5 from rfl) rfl) rfl rfl hl.1 rfl (lv_room (Nat.le_of_ble_eq_true rfl)) dX5_avoided_33 ⟨Nat.le_of_ble_eq_true rfl, Nat.le_of_ble_eq_true rfl⟩) (fun E ce q9 u H locs hu hP hS h1 h2 h3 => x_out hT hlocks hP hS h1 h2 h3 (bx_l hf ho11 hu).symm (Nat.le_of_ble_eq_true rfl) (Nat.le_of_ble_eq_true rfl)) (fun H locs hu hP hS => ?_)
    have hf := bx_r hf ho11 hu
    refine lv_iconst (v := 1) hx hb dX5_avoided_36 (by decide) ?_
    refine lv_istore (lv' := [(5, .int 1), (4, .ref (ad (c2 + 1))), (0, .ref (ad 0)), (1, .int a1), (2, .int a2), (3, .int a3)]) hx hb dX5_avoided_37 hl (by decide) rfl (fun ls hl => ?_)
    refine lv_iconst (v := 0) hx hb dX5_avoided_39 (by decide) ?_
    refine lv_istore (lv' := [(6, .int 0), (5, .int 1), (4, .ref (ad (c2 + 1))), (0, .ref (ad 0)), (1, .int a1), (2, .int a2), (3, .int a3)]) hx hb dX5_avoided_40 hl (by decide) rfl (fun ls hl => ?_)
    refine lv_bipush (v := (-50)) hx hb dX5_avoided_42 (by decide) ?_
    refine lv_istore (lv' := [(7, .int (-50)), (6, .int 0), (5, .int 1), (4, .ref (ad (c2 + 1))), (0, .ref (ad 0)), (1, .int a1), (2, .int a2), (3, .int a3)]) hx hb dX5_avoided_44 hl (by decide) rfl (fun ls hl => ?_)
    obtain ⟨q15, hq15, hf⟩ := bd_e hf
    have J1 : ∀ (H : Heap) (locs : List Loc) (ls : Array Slot), va_P D vwCl (wd ca ad S9) H → va_S (Aq ad s.heap.size) s.heap H locs → lv_has ls 9 [(5, .int q15.1), (6, .int q15.2)] → W p l e rm_X5_avoided s m args below meth c H locs 4 24 (Yi below D ca ad args s 4 24 o) (F0 m 124 ls []) := by
      intro H locs ls hP hS hl
      refine lv_iload hx hb dX5_avoided_124 (lv_at hl 0 rfl) ?_
      refine lv_if_eq (tgt := 133) hx hb dX5_avoided_126 (by decide) (fun w => ?_) (fun w => ?_)
      · have hf := if_t w hf
        refine lv_iload hx hb dX5_avoided_133 (lv_at hl 1 rfl) ?_
        refine lv_if_eq (tgt := 142) hx hb dX5_avoided_135 (by decide) (fun w => ?_) (fun w => ?_)
        · have hf := if_t w hf
          refine lv_iconst (v := 0) hx hb dX5_avoided_142 (by decide) ?_
          exact x_iret hx hb hr hP hS dX5_avoided_143 hlocks (Nat.le_of_ble_eq_true rfl) (Nat.le_of_ble_eq_true rfl) (Option.some.inj hf).symm
        · have hf := if_f w hf
          refine lv_iconst (v := 1) hx hb dX5_avoided_138 (by decide) ?_
          refine lv_goto (tgt := 143) hx hb dX5_avoided_139 (by decide) ?_
          exact x_iret hx hb hr hP hS dX5_avoided_143 hlocks (Nat.le_of_ble_eq_true rfl) (Nat.le_of_ble_eq_true rfl) (Option.some.inj hf).symm
      · have hf := if_f w hf
        refine lv_iconst (v := 2) hx hb dX5_avoided_129 (by decide) ?_
        refine lv_goto (tgt := 143) hx hb dX5_avoided_130 (by decide) ?_
        exact x_iret hx hb hr hP hS dX5_avoided_143 hlocks (Nat.le_of_ble_eq_true rfl) (Nat.le_of_ble_eq_true rfl) (Option.some.inj hf).symm
    replace hf := hq15
    have L1 : ∀ (fuel : Nat) (v12 : Int32) (v13 : Int32) (v14 : Int32), lp_X5_avoided_46 a2 a3 c2 S9 fuel v12 v13 v14 = some q15 → ∀ (H : Heap) (locs : List Loc) (ls : Array Slot), va_P D vwCl (wd ca ad S9) H → va_S (Aq ad s.heap.size) s.heap H locs → lv_has ls 9 [(2, .int a2), (3, .int a3), (4, .ref (ad (c2 + 1))), (5, .int v12), (6, .int v13), (7, .int v14)] → W p l e rm_X5_avoided s m args below meth c H locs 4 24 (Yi below D ca ad args s 4 24 o) (F0 m 46 ls []) := by
      intro fuel
      induction fuel with
      | zero =>
        intro v12 v13 v14 hf
        simp [lp_X5_avoided_46] at hf
      | succ fuel ih =>
        intro v12 v13 v14 hf H locs ls hP hS hl
        rw [lp_X5_avoided_46] at hf
        refine lv_iload hx hb dX5_avoided_46 (lv_at hl 5 rfl) ?_
        refine lv_bipush (v := 50) hx hb dX5_avoided_48 (by decide) ?_
        refine lv_icmp_gt (tgt := 124) hx hb dX5_avoided_50 (by decide) (fun w => ?_) (fun w => ?_)
        · have hf := if_t w hf
          obtain rfl := Option.some.inj hf
          exact J1 _ _ _ hP hS (lv_sub hl [3, 4] rfl)
        · have hf := if_f w hf
          refine lv_aload hx hb dX5_avoided_53 (lv_at hl 2 rfl) ?_
          refine lv_iload hx hb dX5_avoided_55 (lv_at hl 5 rfl) ?_
          obtain ⟨v17, h16, hf⟩ := bd_e hf
          refine r_ci hS (va_runV (As := [.int v14]) (rest := []) ⟨hx, hb, hml, hown, hts⟩ (m_X3_isSeen l D ca ad hj (c2 + 1) (q_car kc2).1 v14 S9 _ h16 H.size) (cwV 1 hts gX5_avoided_X3_isSeen rfl rfl rfl (by decide +kernel) ⟨Nat.le_of_ble_eq_true rfl, Nat.le_of_ble_eq_true rfl⟩) (r_preV hKK hP (q_car kc2).1 rfl) rfl rfl hl.1 rfl (lv_room (Nat.le_of_ble_eq_true rfl)) dX5_avoided_57 ⟨Nat.le_of_ble_eq_true rfl, Nat.le_of_ble_eq_true rfl⟩) (fun H locs hP hS => ?_)
          refine lv_if_eq (tgt := 118) hx hb dX5_avoided_60 (by decide) (fun w => ?_) (fun w => ?_)
          · have hf := if_t w hf
            refine lv_iinc (v := (v14 + 1)) (lv' := [(7, .int (v14 + 1)), (2, .int a2), (3, .int a3), (4, .ref (ad (c2 + 1))), (5, .int v12), (6, .int v13)]) hx hb dX5_avoided_118 hl (k := 5) rfl rfl (by decide) rfl (fun ls hl => ?_)
            refine lv_goto (tgt := 46) hx hb dX5_avoided_121 (by decide) ?_
            exact ih _ _ _ hf _ _ _ hP hS (lv_sub hl [1, 2, 3, 4, 5, 0] rfl)
          · have hf := if_f w hf
            refine lv_bipush (v := 51) hx hb dX5_avoided_63 (by decide) ?_
            refine lv_iload hx hb dX5_avoided_65 (lv_at hl 5 rfl) ?_
            refine lv_imul hx hb dX5_avoided_67 ?_
            refine lv_iload hx hb dX5_avoided_68 (lv_at hl 5 rfl) ?_
            refine lv_imul hx hb dX5_avoided_70 ?_
            refine lv_iload_n hx hb dX5_avoided_71 rfl (lv_at hl 0 rfl) ?_
            refine lv_iload_n hx hb dX5_avoided_72 rfl (lv_at hl 1 rfl) ?_
            refine lv_imul hx hb dX5_avoided_73 ?_
            obtain ⟨q18, hq18, hf⟩ := bd_e hf
            have J2 : ∀ (H : Heap) (locs : List Loc) (ls : Array Slot), va_P D vwCl (wd ca ad S9) H → va_S (Aq ad s.heap.size) s.heap H locs → lv_has ls 9 [(2, .int a2), (3, .int a3), (4, .ref (ad (c2 + 1))), (5, .int v12), (6, .int v13), (7, .int v14)] → W p l e rm_X5_avoided s m args below meth c H locs 4 24 (Yi below D ca ad args s 4 24 o) (F0 m 82 ls [.int q18]) := by
              intro H locs ls hP hS hl
              refine lv_istore (lv' := [(8, .int q18), (2, .int a2), (3, .int a3), (4, .ref (ad (c2 + 1))), (5, .int v12), (6, .int v13), (7, .int v14)]) hx hb dX5_avoided_82 hl (by decide) rfl (fun ls hl => ?_)
              refine lv_iload hx hb dX5_avoided_84 (lv_at hl 4 rfl) ?_
              obtain ⟨q19, hq19, hf⟩ := bd_e hf
              have J3 : ∀ (H : Heap) (locs : List Loc) (ls : Array Slot), va_P D vwCl (wd ca ad S9) H → va_S (Aq ad s.heap.size) s.heap H locs → lv_has ls 9 [(2, .int a2), (3, .int a3), (4, .ref (ad (c2 + 1))), (6, .int v13), (7, .int v14), (8, .int q18)] → W p l e rm_X5_avoided s m args below meth c H locs 4 24 (Yi below D ca ad args s 4 24 o) (F0 m 99 ls [.int q19]) := by
                intro H locs ls hP hS hl
                refine lv_istore (lv' := [(5, .int q19), (2, .int a2), (3, .int a3), (4, .ref (ad (c2 + 1))), (6, .int v13), (7, .int v14), (8, .int q18)]) hx hb dX5_avoided_99 hl (by decide) rfl (fun ls hl => ?_)
                refine lv_iload hx hb dX5_avoided_101 (lv_at hl 4 rfl) ?_
                obtain ⟨q20, hq20, hf⟩ := bd_e hf
                have J4 : ∀ (H : Heap) (locs : List Loc) (ls : Array Slot), va_P D vwCl (wd ca ad S9) H → va_S (Aq ad s.heap.size) s.heap H locs → lv_has ls 9 [(2, .int a2), (3, .int a3), (4, .ref (ad (c2 + 1))), (5, .int q19), (7, .int v14)] → W p l e rm_X5_avoided s m args below meth c H locs 4 24 (Yi below D ca ad args s 4 24 o) (F0 m 116 ls [.int q20]) := by
                  intro H locs ls hP hS hl
                  refine lv_istore (lv' := [(6, .int q20), (2, .int a2), (3, .int a3), (4, .ref (ad (c2 + 1))), (5, .int q19), (7, .int v14)]) hx hb dX5_avoided_116 hl (by decide) rfl (fun ls hl => ?_)
                  refine lv_iinc (v := (v14 + 1)) (lv' := [(7, .int (v14 + 1)), (6, .int q20), (2, .int a2), (3, .int a3), (4, .ref (ad (c2 + 1))), (5, .int q19)]) hx hb dX5_avoided_118 hl (k := 5) rfl rfl (by decide) rfl (fun ls hl => ?_)
                  refine lv_goto (tgt := 46) hx hb dX5_avoided_121 (by decide) ?_
                  exact ih _ _ _ hf _ _ _ hP hS (lv_sub hl [2, 3, 4, 5, 1, 0] rfl)
                replace hf := hq20
                refine lv_if_ne (tgt := 111) hx hb dX5_avoided_103 (by decide) (fun w => ?_) (fun w => ?_)
                · have hf := if_f w hf
                  refine lv_iconst (v := 1) hx hb dX5_avoided_111 (by decide) ?_
                  refine lv_goto (tgt := 116) hx hb dX5_avoided_112 (by decide) ?_
                  obtain rfl := Option.some.inj hf
                  exact J4 _ _ _ hP hS (lv_sub hl [1, 2, 3, 0, 5] rfl)
                · have hf := if_t w hf
                  refine lv_iload hx hb dX5_avoided_106 (lv_at hl 6 rfl) ?_
                  refine lv_if_eq (tgt := 115) hx hb dX5_avoided_108 (by decide) (fun w => ?_) (fun w => ?_)
                  · have hf := if_t w hf
                    refine lv_iconst (v := 0) hx hb dX5_avoided_115 (by decide) ?_
                    obtain rfl := Option.some.inj hf
                    exact J4 _ _ _ hP hS (lv_sub hl [1, 2, 3, 0, 5] rfl)
                  · have hf := if_f w hf
                    refine lv_iconst (v := 1) hx hb dX5_avoided_111 (by decide) ?_
                    refine lv_goto (tgt := 116) hx hb dX5_avoided_112 (by decide) ?_
                    obtain rfl := Option.some.inj hf
                    exact J4 _ _ _ hP hS (lv_sub hl [1, 2, 3, 0, 5] rfl)
              replace hf := hq19
              refine lv_if_eq (tgt := 98) hx hb dX5_avoided_86 (by decide) (fun w => ?_) (fun w => ?_)
              · have hf := if_t w hf
                refine lv_iconst (v := 0) hx hb dX5_avoided_98 (by decide) ?_
                obtain rfl := Option.some.inj hf
                exact J3 _ _ _ hP hS (lv_sub hl [1, 2, 3, 5, 6, 0] rfl)
              · have hf := if_f w hf
                refine lv_iload hx hb dX5_avoided_89 (lv_at hl 0 rfl) ?_
                refine lv_if_eq (tgt := 98) hx hb dX5_avoided_91 (by decide) (fun w => ?_) (fun w => ?_)
                · have hf := if_t w hf
                  refine lv_iconst (v := 0) hx hb dX5_avoided_98 (by decide) ?_
                  obtain rfl := Option.some.inj hf
                  exact J3 _ _ _ hP hS (lv_sub hl [1, 2, 3, 5, 6, 0] rfl)
                · have hf := if_f w hf
                  refine lv_iconst (v := 1) hx hb dX5_avoided_94 (by decide) ?_
                  refine lv_goto (tgt := 99) hx hb dX5_avoided_95 (by decide) ?_
                  obtain rfl := Option.some.inj hf
                  exact J3 _ _ _ hP hS (lv_sub hl [1, 2, 3, 5, 6, 0] rfl)
            replace hf := hq18
            refine lv_icmp_gt (tgt := 81) hx hb dX5_avoided_74 (by decide) (fun w => ?_) (fun w => ?_)
            · have hf := if_t w hf
              refine lv_iconst (v := 0) hx hb dX5_avoided_81 (by decide) ?_
              obtain rfl := Option.some.inj hf
              exact J2 _ _ _ hP hS (lv_sub hl [0, 1, 2, 3, 4, 5] rfl)
            · have hf := if_f w hf
              refine lv_iconst (v := 1) hx hb dX5_avoided_77 (by decide) ?_
              refine lv_goto (tgt := 82) hx hb dX5_avoided_78 (by decide) ?_
              obtain rfl := Option.some.inj hf
              exact J2 _ _ _ hP hS (lv_sub hl [0, 1, 2, 3, 4, 5] rfl)
    exact L1 _ _ _ _ hf _ _ _ hP hS (lv_sub hl [6, 7, 3, 2, 1, 0] rfl)
  exact main s.heap [] ls hP va_S.rf hl
def rm_X5_can : Room := { frames := 9, cells := 3, slots := 18, locals := 153 }
set_option maxRecDepth 100000 in
set_option maxHeartbeats 4000000 in
theorem m_X5_can (l : Launch) (hst : l.stackTraces = false) (D : va_G) (ca : Nat → ClassId) (ad : Nat → Nat) (hj : Inj ad) (a1 : Int32) (a2 : Int32) (a3 : Int32) (S : QS) (o : (String × QS) ⊕ (Int32 × QS)) (hf : f_X5_can a1 a2 a3 S = some o) : Xi l D ca ad yX5_can wsX5_can rm_X5_can [.ref (ad 0), .int a1, .int a2, .int a3] S o 3 18 := by
  intro sz
  refine vx_ofW (cc := cX5_can) (maxL := 5) (ret := (some .boolean)) (by decide) rfl ?_
  intro p e s m args below meth c s₁ B hml hT hv
  obtain ⟨hav, ⟨hsz, hP, hKK⟩, hE⟩ := hv
  have hx := B.exec
  have hb := B.bytes
  have hr := B.returns
  have hts := atoms_spec (ws := wsX5_can) B.pre
  have hown : s.vm.findClass RX5 = some m.cls := findClass_of_methodNamed B.named
  have hlocks := B.notSynchronized
  subst hsz
  have hl := lv_entry [.ref (ad 0), .int a1, .int a2, .int a3] (n := 5) (Nat.le_of_ble_eq_true rfl)
  rw [show entryFrame m args 5 = entryFrame m ([.ref (ad 0), .int a1, .int a2, .int a3] : List Value).toArray 5 by rw [hav], lg_entry_eq]
  generalize (lg_sl [.ref (ad 0), .int a1, .int a2, .int a3] ++ List.replicate (5 - (lg_sl [.ref (ad 0), .int a1, .int a2, .int a3]).length) Slot.unset).toArray = ls at hl ⊢
  have hl : lv_has ls 5 [(0, .ref (ad 0)), (1, .int a1), (2, .int a2), (3, .int a3)] := hl
  have main : ∀ (H : Heap) (locs : List Loc) (ls : Array Slot), va_P D vwCl (wd ca ad S) H → va_S (Aq ad s.heap.size) s.heap H locs → lv_has ls 5 [(0, .ref (ad 0)), (1, .int a1), (2, .int a2), (3, .int a3)] → W p l e rm_X5_can s m args below meth c H locs 0 0 (Yi below D ca ad args s 3 18 o) (F0 m 0 ls []) := by
    intro H locs ls hP hS hl
    unfold f_X5_can at hf
    refine lv_aload_n hx hb dX5_can_0 rfl (lv_at hl 0 rfl) ?_
    refine lv_iload_n hx hb dX5_can_1 rfl (lv_at hl 1 rfl) ?_
    refine lv_iload_n hx hb dX5_can_2 rfl (lv_at hl 2 rfl) ?_
    obtain ⟨o3, ho3⟩ := bx_e hf
    refine y_r hS (vx_runV (As := [.int a1, .int a2]) (rest := []) ⟨hx, hb, hml, hown, hts⟩ (m_X5_speedOf l hst D ca ad hj a1 a2 S o3 ho3 H.size) (cwV 2 hts gX5_can_X5_speedOf rfl rfl rfl (by decide +kernel) ⟨Nat.le_of_ble_eq_true rfl, Nat.le_of_ble_eq_true rfl⟩) (x_preV hE hS hKK hP (show qk 0 = 5 from rfl) rfl) rfl rfl hl.1 rfl (lv_room (Nat.le_of_ble_eq_true rfl)) dX5_can_3 ⟨Nat.le_of_ble_eq_true rfl, Nat.le_of_ble_eq_true rfl⟩) (fun E ce q9 u H locs hu hP hS h1 h2 h3 => x_out hT hlocks hP hS h1 h2 h3 (bx_l hf ho3 hu).symm (Nat.le_of_ble_eq_true rfl) (Nat.le_of_ble_eq_true rfl)) (fun c2 H locs hu hP hS => ?_)
    have hf := bx_r hf ho3 hu
    have kc2 := k_X5_speedOf (ho3.trans (congrArg some hu))
    refine lv_astore (lv' := [(4, .ref (ad c2)), (0, .ref (ad 0)), (1, .int a1), (2, .int a2), (3, .int a3)]) hx hb dX5_can_6 hl (by decide) rfl (fun ls hl => ?_)
    refine lv_aload_n hx hb dX5_can_8 rfl (lv_at hl 1 rfl) ?_
    refine lv_iconst (v := 0) hx hb dX5_can_9 (by decide) ?_
    refine lv_iconst (v := (-1)) hx hb dX5_can_10 (by decide) ?_
    obtain ⟨S5, h4, hf⟩ := bd_e hf
    refine r_cv hS (va_runV (As := [.int 0, .int (-1)]) (rest := []) ⟨hx, hb, hml, hown, hts⟩ (m_X5_reckon l D ca ad hj 0 (-1) S _ h4 H.size) (cwV 2 hts gX5_can_X5_reckon rfl rfl rfl (by decide +kernel) ⟨Nat.le_of_ble_eq_true rfl, Nat.le_of_ble_eq_true rfl⟩) (r_preV hKK hP (show qk 0 = 5 from rfl) rfl) rfl rfl hl.1 rfl (lv_room (Nat.le_of_ble_eq_true rfl)) dX5_can_11 ⟨Nat.le_of_ble_eq_true rfl, Nat.le_of_ble_eq_true rfl⟩) (fun H locs hP hS => ?_)
    refine lv_aload hx hb dX5_can_14 (lv_at hl 0 rfl) ?_
    refine lv_iload_n hx hb dX5_can_16 rfl (lv_at hl 4 rfl) ?_
    obtain ⟨v7, h6, hf⟩ := bd_e hf
    refine r_ci hS (va_runV (As := [.int a3]) (rest := []) ⟨hx, hb, hml, hown, hts⟩ (m_X3_isSeen l D ca ad hj c2 kc2 a3 S5 _ h6 H.size) (cwV 1 hts gX5_can_X3_isSeen rfl rfl rfl (by decide +kernel) ⟨Nat.le_of_ble_eq_true rfl, Nat.le_of_ble_eq_true rfl⟩) (r_preV hKK hP kc2 rfl) rfl rfl hl.1 rfl (lv_room (Nat.le_of_ble_eq_true rfl)) dX5_can_17 ⟨Nat.le_of_ble_eq_true rfl, Nat.le_of_ble_eq_true rfl⟩) (fun H locs hP hS => ?_)
    obtain ⟨v8, h9, hf⟩ := bd_e hf
    obtain ⟨h9z, h9e⟩ := q_zb h9
    rw [h9e] at hf
    exact x_zret hx hb hr h9z hP hS dX5_can_20 hlocks (Nat.le_of_ble_eq_true rfl) (Nat.le_of_ble_eq_true rfl) (Option.some.inj hf).symm
  exact main s.heap [] ls hP va_S.rf hl
