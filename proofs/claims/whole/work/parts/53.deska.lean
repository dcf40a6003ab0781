/-! THE DESK: a speed's row cleared, a tale heard, its bounds -/
def b2 (b : Bool) : Int32 := if b then 1 else 0
theorem b2_or (b : Bool) : b2 b = 0 ∨ b2 b = 1 := by cases b <;> simp [b2]
theorem b2_0 {b : Bool} : b2 b = 0 ↔ b = false := by cases b <;> decide
theorem b2_1 {b : Bool} : b2 b = 1 ↔ b = true := by cases b <;> decide
theorem b2_n {b : Bool} : ¬ b2 b = 0 ↔ b = true := by cases b <;> decide
theorem q_btw {v lo hi : Int} (hv : -2147483648 ≤ v ∧ v < 2147483648 := by omega) (h1 : -2147483648 ≤ lo ∧ lo < 2147483648 := by omega) (h2 : -2147483648 ≤ hi ∧ hi < 2147483648 := by omega) : (if iv v < iv lo then some (0 : Int32) else (if iv hi < iv v then some 0 else some 1)) = some (b2 (decide (lo ≤ v) && decide (v ≤ hi))) := by
  by_cases c : lo ≤ v
  · rw [if_neg (n_lt c hv h1)]
    by_cases d : v ≤ hi
    · rw [if_neg (n_lt d h2 hv), decide_eq_true c, decide_eq_true d]
      rfl
    · rw [if_pos (y_lt (Int.not_le.mp d) h2 hv), decide_eq_true c, decide_eq_false d]
      rfl
  · rw [if_pos (y_lt (Int.not_le.mp c) hv h1), decide_eq_false c]
    rfl
theorem nm2 {k : Nat} : k ∉ [k + 1, k + 2] := by
  intro z
  simp only [List.mem_cons, List.not_mem_nil, or_false] at z
  omega
theorem nm1 {k j : Nat} (h : k ≠ j) : k ∉ [j] := by
  intro z
  simp only [List.mem_cons, List.not_mem_nil, or_false] at z
  exact h z
theorem s_clear {k : Nat} {lo hi : Int} {S : QS} (hlo : S.1 k 0 = iv lo) (hhi : S.1 k 1 = iv hi) (h1 : -1000 ≤ lo ∧ lo ≤ 1000) (h2 : -1000 ≤ hi ∧ hi ≤ 1000) :
    ∃ S1, f_X3_clear k S = some S1 ∧ Fr [k + 1, k + 2] S S1 ∧ ∀ w, -50 ≤ w → w ≤ 50 → S1.1 (k + 1) (ix w) = (if lo ≤ w ∧ w ≤ hi then 0 else -1) ∧ S1.1 (k + 2) (ix w) = 0 := by
  have main := loop50 (fun fuel v s => lp_X3_clear_3 k fuel v s) id (fun v s => Fr [k + 1, k + 2] S s ∧ ∀ w, -50 ≤ w → w < v → s.1 (k + 1) (ix w) = (if lo ≤ w ∧ w ≤ hi then 0 else -1) ∧ s.1 (k + 2) (ix w) = 0)
    (fun fuel s => by
      show lp_X3_clear_3 k (fuel + 1) (iv 51) s = some s
      rw [lp_X3_clear_3, if_pos gt50])
    (fun fuel v s h3 h4 hI => by
      obtain ⟨i1, i2⟩ := hI
      have e0 : s.1 k 0 = iv lo := by rw [i1.1 k nm2]; exact hlo
      have e1 : s.1 k 1 = iv hi := by rw [i1.1 k nm2]; exact hhi
      have q : ((if iv v < iv lo then (some (-1)) else (if iv v ≤ iv hi then (some 0) else (some (-1)))) : Option Int32) = some (if lo ≤ v ∧ v ≤ hi then 0 else -1) := by
        by_cases c : lo ≤ v
        · rw [if_neg (n_lt (a := v) (b := lo) c)]
          by_cases d : v ≤ hi
          · rw [if_pos (y_le (a := v) (b := hi) d), if_pos ⟨c, d⟩]
          · rw [if_neg (n_le (a := v) (b := hi) (by omega)), if_neg (fun z => d z.2)]
        · rw [if_pos (y_lt (a := v) (b := lo) (by omega)), if_neg (fun z => c z.1)]
      refine ⟨setF (k + 2) (ix v) 0 (setF (k + 1) (ix v) (if lo ≤ v ∧ v ≤ hi then 0 else -1) s), ?_, ?_, ?_⟩
      · show lp_X3_clear_3 k (fuel + 1) (iv v) s = lp_X3_clear_3 k fuel (iv (v + 1)) _
        rw [lp_X3_clear_3, if_neg (hi50 h4), e0, e1, q, ob, s_setPrice ⟨h3, h4⟩, ob, wz50 ⟨h3, h4⟩ (Or.inl rfl), ob, iv_one]
      · exact (i1.tr (Fr.set (by simp))).tr (Fr.set (by simp))
      · intro w hw1 hw2
        by_cases c : w = v
        · subst c
          exact ⟨by rw [st_nek (by omega), st_eq], st_eq _ _ _ _⟩
        · have hn : ix w ≠ ix v := ix_ne hw1 h3 c
          obtain ⟨j1, j2⟩ := i2 w hw1 (by omega)
          exact ⟨by rw [st_nek (by omega), st_nej hn]; exact j1, by rw [st_nej hn, st_nek (by omega)]; exact j2⟩)
    S ⟨Fr.rf, fun w _ _ => by omega⟩
  obtain ⟨S1, e, i1, i2⟩ := main
  refine ⟨S1, ?_, i1, fun w hw1 hw2 => i2 w hw1 (by omega)⟩
  unfold f_X3_clear
  rw [c_m50]
  exact e
theorem s_hear {k t : Nat} {lo hi : Int} {a : Int32} {S : QS} (ht : t ≠ k + 1) (hlo : S.1 t 2 = iv lo) (hhi : S.1 t 3 = iv hi) (h1 : -1000 ≤ lo ∧ lo ≤ 1000) (h2 : -1000 ≤ hi ∧ hi ≤ 1000) :
    ∃ S1, f_X3_hear k t a S = some S1 ∧ Fr [k + 1] S S1 ∧ ∀ w, -50 ≤ w → w ≤ 50 → S1.1 (k + 1) (ix w) = if (decide (lo ≤ w) && decide (w ≤ hi)) = true then S.1 (k + 1) (ix w) else if S.1 (k + 1) (ix w) = -1 then -1 else if a = -1 then -1 else S.1 (k + 1) (ix w) + a := by
  obtain ⟨N, hN⟩ : ∃ N : Int → Int32, ∀ w, N w = if (decide (lo ≤ w) && decide (w ≤ hi)) = true then S.1 (k + 1) (ix w) else if S.1 (k + 1) (ix w) = -1 then -1 else if a = -1 then -1 else S.1 (k + 1) (ix w) + a := ⟨_, fun _ => rfl⟩
  have main := loop50 (fun fuel v s => lp_X3_hear_3 k t a fuel v s) id (fun v s => Fr [k + 1] S s ∧ ∀ w, -50 ≤ w → w ≤ 50 → s.1 (k + 1) (ix w) = if w < v then N w else S.1 (k + 1) (ix w))
    (fun fuel s => by
      show lp_X3_hear_3 k t a (fuel + 1) (iv 51) s = some s
      rw [lp_X3_hear_3, if_pos gt50])
    (fun fuel v s h3 h4 hI => by
      obtain ⟨i1, i2⟩ := hI
      have e0 : s.1 t 2 = iv lo := by rw [i1.1 t (nm1 ht)]; exact hlo
      have e1 : s.1 t 3 = iv hi := by rw [i1.1 t (nm1 ht)]; exact hhi
      have eo : s.1 (k + 1) (ix v) = S.1 (k + 1) (ix v) := by rw [i2 v h3 h4, if_neg (by omega)]
      have keep : N v = S.1 (k + 1) (ix v) → Fr [k + 1] S s ∧ ∀ w, -50 ≤ w → w ≤ 50 → s.1 (k + 1) (ix w) = if w < v + 1 then N w else S.1 (k + 1) (ix w) := fun hk => ⟨i1, fun w hw1 hw2 => by
        rw [i2 w hw1 hw2]
        by_cases c : w = v
        · subst c
          rw [if_neg (by omega), if_pos (by omega), hk]
        · by_cases d : w < v
          · rw [if_pos d, if_pos (by omega)]
          · rw [if_neg d, if_neg (by omega)]⟩
      have q := q_btw (v := v) (lo := lo) (hi := hi)
      by_cases c : (decide (lo ≤ v) && decide (v ≤ hi)) = true
      · refine ⟨s, ?_, keep (by rw [hN, if_pos c])⟩
        show lp_X3_hear_3 k t a (fuel + 1) (iv v) s = lp_X3_hear_3 k t a fuel (iv (v + 1)) s
        rw [lp_X3_hear_3, if_neg (hi50 h4), e0, e1, q, ob, if_neg (b2_n.mpr c), iv_one]
      · have c2 : b2 (decide (lo ≤ v) && decide (v ≤ hi)) = 0 := b2_0.mpr (by simpa using c)
        by_cases d : S.1 (k + 1) (ix v) = -1
        · refine ⟨s, ?_, keep (by rw [hN, if_neg c, if_pos d, d])⟩
          show lp_X3_hear_3 k t a (fuel + 1) (iv v) s = lp_X3_hear_3 k t a fuel (iv (v + 1)) s
          rw [lp_X3_hear_3, if_neg (hi50 h4), e0, e1, q, ob, if_pos c2, s_isOpen ⟨h3, h4⟩, eo, if_pos d, ob, if_pos rfl, iv_one]
        · refine ⟨setF (k + 1) (ix v) (N v) s, ?_, i1.tr (Fr.set (by simp)), fun w hw1 hw2 => ?_⟩
          · show lp_X3_hear_3 k t a (fuel + 1) (iv v) s = lp_X3_hear_3 k t a fuel (iv (v + 1)) _
            have q2 : ((if a = (-1) then (some (-1)) else ((f_X3_priceOf k (iv v) s).bind fun v8 => some (v8 + a))) : Option Int32) = some (N v) := by
              rw [hN, if_neg c, if_neg d]
              by_cases g : a = -1
              · rw [if_pos g, if_pos g]
              · rw [if_neg g, if_neg g, s_priceOf ⟨h3, h4⟩, ob, eo]
            rw [lp_X3_hear_3, if_neg (hi50 h4), e0, e1, q, ob, if_pos c2, s_isOpen ⟨h3, h4⟩, eo, if_neg d, ob, if_neg (by decide), q2, ob, s_setPrice ⟨h3, h4⟩, ob, iv_one]
          · by_cases g : w = v
            · subst g
              rw [st_eq, if_pos (by omega)]
            · rw [st_nej (ix_ne hw1 h3 g), i2 w hw1 hw2]
              by_cases g2 : w < v
              · rw [if_pos g2, if_pos (by omega)]
              · rw [if_neg g2, if_neg (by omega)])
    S ⟨Fr.rf, fun w hw1 hw2 => by rw [if_neg (by omega)]⟩
  obtain ⟨S1, e, i1, i2⟩ := main
  refine ⟨S1, ?_, i1, fun w hw1 hw2 => by rw [i2 w hw1 hw2, if_pos (by omega), hN]⟩
  unfold f_X3_hear
  rw [c_m50]
  exact e
theorem s_bound {k : Nat} {S : QS} : ∃ S1, f_X3_bound k S = some S1 ∧ Fr [k] S S1 ∧ S1.1 k 0 = S.1 k 0 ∧ S1.1 k 1 = S.1 k 1 ∧
    ∃ bo to : Int, S1.1 k 2 = iv bo ∧ S1.1 k 3 = iv to ∧ -50 ≤ bo ∧ bo ≤ 51 ∧ -51 ≤ to ∧ to ≤ 50 ∧ ∀ w, -50 ≤ w → w ≤ 50 → S.1 (k + 1) (ix w) ≠ -1 → bo ≤ w ∧ w ≤ to := by
  have main := loop50 (fun fuel v s => lp_X3_bound_15 k fuel v s) id (fun v s => Fr [k] S s ∧ s.1 k 0 = S.1 k 0 ∧ s.1 k 1 = S.1 k 1 ∧
      ∃ bo to : Int, s.1 k 2 = iv bo ∧ s.1 k 3 = iv to ∧ -50 ≤ bo ∧ bo ≤ 51 ∧ -51 ≤ to ∧ to < v ∧ ∀ w, -50 ≤ w → w < v → S.1 (k + 1) (ix w) ≠ -1 → bo ≤ w ∧ w ≤ to)
    (fun fuel s => by
      show lp_X3_bound_15 k (fuel + 1) (iv 51) s = some s
      rw [lp_X3_bound_15, if_pos gt50])
    (fun fuel v s h3 h4 hI => by
      obtain ⟨i1, i2, i3, bo, to, j1, j2, j3, j4, j5, j6, j7⟩ := hI
      have eo : s.1 (k + 1) (ix v) = S.1 (k + 1) (ix v) := by rw [i1.1 (k + 1) (nm1 (by omega))]
      by_cases d : S.1 (k + 1) (ix v) = -1
      · refine ⟨s, ?_, i1, i2, i3, bo, to, j1, j2, j3, j4, j5, by omega, fun w hw1 hw2 hw3 => ?_⟩
        · show lp_X3_bound_15 k (fuel + 1) (iv v) s = lp_X3_bound_15 k fuel (iv (v + 1)) s
          rw [lp_X3_bound_15, if_neg (hi50 h4), s_isOpen ⟨h3, h4⟩, eo, if_pos d, ob, if_pos rfl, iv_one]
        · by_cases c : w = v
          · subst c
            exact absurd d hw3
          · exact j7 w hw1 (by omega) hw3
      · refine ⟨setF k 3 (iv v) (setF k 2 (if iv v < s.1 k 2 then iv v else s.1 k 2) s), ?_, (i1.tr (Fr.set (by simp))).tr (Fr.set (by simp)), by rw [st_nej (by decide), st_nej (by decide)]; exact i2, by rw [st_nej (by decide), st_nej (by decide)]; exact i3,
          (if v < bo then v else bo), v, ?_, st_eq _ _ _ _, by split <;> omega, by split <;> omega, by omega, by omega, fun w hw1 hw2 hw3 => ?_⟩
        · show lp_X3_bound_15 k (fuel + 1) (iv v) s = lp_X3_bound_15 k fuel (iv (v + 1)) _
          rw [lp_X3_bound_15, if_neg (hi50 h4), s_isOpen ⟨h3, h4⟩, eo, if_neg d, ob, if_neg (by decide)]
          show lp_X3_bound_15 k fuel (iv v + 1) _ = _
          rw [iv_one]
        · rw [st_nej (by decide), st_eq, j1]
          by_cases c : v < bo
          · rw [if_pos (y_lt (a := v) (b := bo) c), if_pos c]
          · rw [if_neg (n_lt (a := v) (b := bo) (by omega)), if_neg c]
        · by_cases c : w = v
          · subst c
            split <;> omega
          · have := j7 w hw1 (by omega) hw3
            split <;> omega)
    (setF k 3 (-51) (setF k 2 51 S)) ⟨(Fr.set (by simp)).tr (Fr.set (by simp)), by rw [st_nej (by decide), st_nej (by decide)], by rw [st_nej (by decide), st_nej (by decide)], 51, -51, by rw [st_nej (by decide), st_eq, c_51], by rw [st_eq, c_m51], by omega, by omega, by omega, by omega, fun w _ _ => by omega⟩
  obtain ⟨S1, e, i1, i2, i3, bo, to, j1, j2, j3, j4, j5, j6, j7⟩ := main
  refine ⟨S1, ?_, i1, i2, i3, bo, to, j1, j2, j3, j4, j5, by omega, fun w hw1 hw2 hw3 => j7 w hw1 (by omega) hw3⟩
  unfold f_X3_bound
  show lp_X3_bound_15 k FU (-50) (setF k 3 (-51) (setF k 2 51 S)) = some S1
  rw [c_m50]
  exact e
