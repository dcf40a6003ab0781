/-! THE DESK: its tales heard, its skids added -/
/-- the prices of a row by the first n tales -/
def Pz (V : Vw) (set n : Nat) (r : Nat) (S : QS) : Prop := ∀ u, -50 ≤ u → u ≤ 50 → S.1 (kp r + 1) (ix u) = if ltN V set r u n then iv (prN V r u n : Int) else -1
theorem kp_ne {r r2 : Nat} (h : r < 6) (h2 : r2 < 6) (hne : r ≠ r2) : kp r + 1 ≠ kp r2 + 1 ∧ kp r + 2 ≠ kp r2 + 1 ∧ kp r ≠ kp r2 + 1 := by
  rcases (show r = 0 ∨ r = 1 ∨ r = 2 ∨ r = 3 ∨ r = 4 ∨ r = 5 by omega) with rfl | rfl | rfl | rfl | rfl | rfl <;> rcases (show r2 = 0 ∨ r2 = 1 ∨ r2 = 2 ∨ r2 = 3 ∨ r2 = 4 ∨ r2 = 5 by omega) with rfl | rfl | rfl | rfl | rfl | rfl <;> first | exact absurd rfl hne | decide
theorem kp_pick {r : Nat} (h : r < 6) (S S2 : QS) : (f_X1_pick (iv ((r / 3 : Nat) : Int)) S).bind (fun c => f_X0_pick c (iv ((r % 3 : Nat) : Int)) S2) = some (kp r) := by
  rcases (show r = 0 ∨ r = 1 ∨ r = 2 ∨ r = 3 ∨ r = 4 ∨ r = 5 by omega) with rfl | rfl | rfl | rfl | rfl | rfl
  · rfl
  · rfl
  · rfl
  · rfl
  · rfl
  · rfl
theorem shl_iv {i : Nat} (h : i < 31) : (1 : Int32) <<< (iv (i : Int) &&& 31) = nI (2 ^ i) := (show ∀ i : Nat, i < 31 → (1 : Int32) <<< (iv (i : Int) &&& 31) = nI (2 ^ i) by decide +kernel) i h
theorem pow10 {i : Nat} (h : i < 10) : 2 ^ i ≤ 512 := by
  have := Nat.pow_le_pow_right (n := 2) (by decide) (show i ≤ 9 by omega)
  exact this
theorem ask_iv {set i : Nat} (h : i < 10) : ((if (nI set &&& nI (2 ^ i)) = 0 then (some ((1024 : Int32) + nI (2 ^ i))) else (some (-1))) : Option Int32) = some (if set.testBit i then -1 else iv ((1024 + 2 ^ i : Nat) : Int)) := by
  have hb := fa_bit (n := set) (j := i) (by omega)
  cases ht : set.testBit i with
  | true =>
    rw [if_neg (fun z => by rw [hb.mp z] at ht; cases ht), if_pos rfl]
  | false =>
    rw [if_pos (hb.mpr ht), if_neg (by decide), iv_nI, c_1024, iv_add]
    rfl
theorem ltN_s (V : Vw) (set r : Nat) (u : Int) (n : Nat) : ltN V set r u (n + 1) = (ltN V set r u n && !(tB V r u n && set.testBit n)) := by
  unfold ltN
  rw [allB_s]
  simp only [Bool.and_assoc]
theorem prN_s (V : Vw) (r : Nat) (u : Int) (n : Nat) : prN V r u (n + 1) = prN V r u n + if tB V r u n then 1024 + 2 ^ n else 0 := fb_sm_succ _ _
theorem Pz.other {V : Vw} {set n r : Nat} {S S1 : QS} (h : Pz V set n r S) (hr : tRow V n ≠ r) (hs : S1.1 (kp r + 1) = S.1 (kp r + 1)) : Pz V set (n + 1) r S1 := by
  intro u h1 h2
  have e : tB V r u n = false := by unfold tB; rw [decide_eq_false hr, Bool.false_and]
  rw [hs, ltN_s, prN_s, e, Bool.false_and, Bool.not_false, Bool.and_true, if_neg (by decide : ¬ (false = true)), Nat.add_zero]
  exact h u h1 h2
theorem s_tales {V : Vw} (hV : VOk V) {set : Nat} (hset : set < 1024) {S : QS} (hD : DR V S) (hP : ∀ r, r < 6 → Pz V set 0 r S) :
    ∃ S1, lp_X5_reckon_46 (nI set) FU 0 S = some S1 ∧ Fr [28, 31, 34, 39, 42, 45] S S1 ∧ ∀ r, r < 6 → Pz V set (vNt V) r S1 := by
  have hn := hV.2.2.2.2.1
  have main := loopN (fun fuel v s => lp_X5_reckon_46 (nI set) fuel v s) id (fun n s => Fr [28, 31, 34, 39, 42, 45] S s ∧ ∀ r, r < 6 → Pz V set n r s) (vNt V) (by omega)
    (fun fuel s hI => by
      have hd := hD.dk hV (Dk.of hI.1 (by decide))
      show lp_X5_reckon_46 (nI set) (fuel + 1) (iv (vNt V : Int)) s = some s
      rw [lp_X5_reckon_46, hd.2.2.2.1, if_pos (y_le (a := (vNt V : Int)) (b := (vNt V : Int)) (Int.le_refl _))])
    (fun fuel n s hlt hI => by
      obtain ⟨i1, i2⟩ := hI
      have hd := hD.dk hV (Dk.of i1 (by decide))
      obtain ⟨t0, t1, t2, t3⟩ := hd.2.2.2.2.2 n hlt
      have hr := (hV.2.2.2.2.2 n hlt)
      have hk := kp_cases hr.1
      obtain ⟨s1, e1, f1, g1⟩ := s_hear (k := kp (tRow V n)) (t := 15 + n) (a := if set.testBit n then -1 else iv ((1024 + 2 ^ n : Nat) : Int)) (S := s) (by omega) t2 t3 (by omega) (by omega)
      have hp := pow10 (i := n) (by omega)
      refine ⟨s1, ?_, i1.tr (f1.mono (fun j hj => by
        simp only [List.mem_cons, List.not_mem_nil, or_false] at hj ⊢
        omega)), fun r hr6 => ?_⟩
      · show lp_X5_reckon_46 (nI set) (fuel + 1) (iv (n : Int)) s = lp_X5_reckon_46 (nI set) fuel (iv ((n + 1 : Nat) : Int)) s1
        have e2 := kp_pick hr.1 s s
        have e4 := ask_iv (set := set) (i := n) (by omega)
        rw [lp_X5_reckon_46, hd.2.2.2.1, if_neg (n_le (a := (vNt V : Int)) (b := (n : Int)) (by omega)), rq_iv (by omega), ob, t0, t1, shl_iv (by omega), e4]
        cases hpk : f_X1_pick (iv ((tRow V n / 3 : Nat) : Int)) s with
        | none =>
          rw [hpk] at e2
          cases e2
        | some c =>
          rw [hpk, ob] at e2
          rw [ob, e2, ob, ob, e1, ob, iv_one]
          rfl
      · by_cases hrow : tRow V n = r
        · subst hrow
          intro u h1 h2
          rw [g1 u h1 h2, i2 _ hr6 u h1 h2, ltN_s, prN_s]
          have e : tB V (tRow V n) u n = !(decide (tLo V n ≤ u) && decide (u ≤ tHi V n)) := by unfold tB; rw [decide_eq_true rfl, Bool.true_and]
          rw [e]
          cases hb : (decide (tLo V n ≤ u) && decide (u ≤ tHi V n)) with
          | true =>
            rw [if_pos rfl, Bool.not_true, Bool.false_and, Bool.not_false, Bool.and_true, if_neg (by decide : ¬ (false = true)), Nat.add_zero]
          | false =>
            have hpr := pr_le (V := V) (r := tRow V n) (v := u) (n := n) (by omega)
            rw [if_neg (by decide), Bool.not_false, Bool.true_and, if_pos (rfl : (true = true))]
            cases hl : ltN V set (tRow V n) u n with
            | false =>
              rw [if_neg (by decide : ¬ (false = true)), if_pos rfl, Bool.false_and]
              rfl
            | true =>
              rw [if_pos (rfl : (true = true)), if_neg (iv_nm1 (by omega)), Bool.true_and]
              cases ht : set.testBit n with
              | true =>
                rw [if_pos (rfl : (true = true)), if_pos rfl]
                rfl
              | false =>
                rw [if_neg (by decide : ¬ (false = true)), if_neg (iv_nm1 (by omega)), iv_add]
                rfl
        · have hne := kp_ne hr6 hr.1 (fun z => hrow z.symm)
          exact (i2 r hr6).other hrow (f1.1 _ (by simp <;> omega)))
    S ⟨Fr.rf, hP⟩
  obtain ⟨s1, e1, i1, i2⟩ := main
  exact ⟨s1, by rw [c_0]; exact e1, i1, i2⟩
