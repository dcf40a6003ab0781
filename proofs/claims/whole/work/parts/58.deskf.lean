/-! THE DESK: its skids added to the cars' sums -/
theorem Dk.of2 {P : List Nat} {S S1 : QS} (h : Fr P S S1) (hP : ∀ k, k ∈ P → 25 ≤ k ∧ k ≠ 27 ∧ k ≠ 30 ∧ k ≠ 33 ∧ k ≠ 38 ∧ k ≠ 41 ∧ k ≠ 44) (h1 : S1.1 26 0 = S.1 26 0) (h2 : S1.1 37 0 = S.1 37 0) : Dk S S1 := by
  have ne : ∀ k, (k < 25 ∨ k = 27 ∨ k = 30 ∨ k = 33 ∨ k = 38 ∨ k = 41 ∨ k = 44) → S1.1 k = S.1 k := fun k hk => h.1 k (fun z => by have := hP k z; omega)
  refine ⟨by rw [ne 0 (by omega)], by rw [ne 0 (by omega)], fun k h1 h2 => ne k (by omega), ⟨h1, h2⟩, fun r hr => ?_⟩
  have := kp_cases hr
  rw [ne (kp r) (by omega)]
  exact ⟨rfl, rfl⟩
def SS (V : Vw) (w : Int) (c k n : Nat) (S : QS) : Prop := Sums k (sLn V w c false n) (sHn V w c false n) (sLn V w c true n) (sHn V w c true n) (decide (sNn V w c true n ≠ 0)) S
theorem Sums.fr {k : Nat} {al ag bl bg : Int} {bn : Bool} {S S1 : QS} (h : Sums k al ag bl bg bn S) (h1 : S1.1 k = S.1 k) : Sums k al ag bl bg bn S1 := by
  unfold Sums at h ⊢
  rw [h1]
  exact h
theorem sLn_s (V : Vw) (w : Int) (c : Nat) (b : Bool) (n : Nat) : sLn V w c b (n + 1) = sLn V w c b n + (if oq V w c b n then kLo V n else 0) := fb_si_succ _ _
theorem sHn_s (V : Vw) (w : Int) (c : Nat) (b : Bool) (n : Nat) : sHn V w c b (n + 1) = sHn V w c b n + (if oq V w c b n then kHi V n else 0) := fb_si_succ _ _
theorem sNn_s (V : Vw) (w : Int) (c : Nat) (b : Bool) (n : Nat) : sNn V w c b (n + 1) = sNn V w c b n + (if oq V w c b n then 1 else 0) := fb_sm_succ _ _
theorem SS.skip {V : Vw} {w : Int} {c k n : Nat} {S : QS} (h : SS V w c k n S) (ho : ∀ b, oq V w c b n = false) : SS V w c k (n + 1) S := by
  unfold SS at h ⊢
  rw [sLn_s, sHn_s, sLn_s, sHn_s, sNn_s, ho, ho, if_neg (by decide), if_neg (by decide), if_neg (by decide), Int.add_zero, Int.add_zero, Int.add_zero, Int.add_zero, Nat.add_zero]
  exact h
theorem SS.add {V : Vw} {w : Int} {c k n : Nat} {S1 : QS} (h1 : oq V w c (kBeh V n) n = true) (h2 : oq V w c (!kBeh V n) n = false)
    (h : Sums k (if kBeh V n then sLn V w c false n else sLn V w c false n + kLo V n) (if kBeh V n then sHn V w c false n else sHn V w c false n + kHi V n) (if kBeh V n then sLn V w c true n + kLo V n else sLn V w c true n) (if kBeh V n then sHn V w c true n + kHi V n else sHn V w c true n) (decide (sNn V w c true n ≠ 0) || kBeh V n) S1) : SS V w c k (n + 1) S1 := by
  unfold SS
  rw [sLn_s, sHn_s, sLn_s, sHn_s, sNn_s]
  cases hb : kBeh V n with
  | true =>
    rw [hb] at h h1 h2
    rw [Bool.not_true] at h2
    rw [h1, h2]
    simp only [if_true, Bool.or_true] at h
    simp only [if_true, Bool.false_eq_true, if_false, Int.add_zero]
    have e : decide (sNn V w c true n + 1 ≠ 0) = true := decide_eq_true (by omega)
    rw [e]
    exact h
  | false =>
    rw [hb] at h h1 h2
    rw [Bool.not_false] at h2
    rw [h1, h2]
    simp only [Bool.false_eq_true, if_false, Bool.or_false] at h
    simp only [if_true, Bool.false_eq_true, if_false, Int.add_zero, Nat.add_zero]
    exact h
theorem pick_iv {c : Nat} (h : c < 2) (S : QS) : f_X1_pick (iv (c : Int)) S = some (26 + 11 * c) := by
  rcases (show c = 0 ∨ c = 1 by omega) with rfl | rfl
  · rfl
  · rfl
theorem s_skids {V : Vw} (hV : VOk V) {w : Int} (hw : -1 ≤ w ∧ w ≤ 100) {S : QS} (hD : DR V S) (h0 : SS V w 0 26 0 S) (h1 : SS V w 1 37 0 S) :
    ∃ S1, lp_X5_reckon_121 (iv w) FU 0 S = some S1 ∧ Fr [26, 37] S S1 ∧ (S1.1 26 0 = S.1 26 0 ∧ S1.1 37 0 = S.1 37 0) ∧ SS V w 0 26 (vNs V) S1 ∧ SS V w 1 37 (vNs V) S1 := by
  have hn := hV.2.2.1
  have main := loopN (fun fuel v s => lp_X5_reckon_121 (iv w) fuel v s) id (fun n s => Fr [26, 37] S s ∧ (s.1 26 0 = S.1 26 0 ∧ s.1 37 0 = S.1 37 0) ∧ SS V w 0 26 n s ∧ SS V w 1 37 n s) (vNs V) (by omega)
    (fun fuel s hI => by
      have hd := hD.dk hV (Dk.of2 hI.1 (by decide) hI.2.1.1 hI.2.1.2)
      show lp_X5_reckon_121 (iv w) (fuel + 1) (iv (vNs V : Int)) s = some s
      rw [lp_X5_reckon_121, hd.2.2.1, if_pos (y_le (a := (vNs V : Int)) (b := (vNs V : Int)) (Int.le_refl _))])
    (fun fuel n s hlt hI => by
      obtain ⟨i1, i2, i3, i4⟩ := hI
      have hd := hD.dk hV (Dk.of2 i1 (by decide) i2.1 i2.2)
      obtain ⟨t0, t1, t2, t3, t4⟩ := hd.2.2.2.2.1 n hlt
      have hs := hV.2.2.2.1 n hlt
      have head : ∀ X : Option QS, (if b2 (kOn V n) = 0 then lp_X5_reckon_121 (iv w) fuel (iv (n : Int) + 1) s else if iv (n : Int) = iv w then lp_X5_reckon_121 (iv w) fuel (iv (n : Int) + 1) s else ((f_X0_add (26 + 11 * kCar V n) (2 + n) s).bind fun S29 => lp_X5_reckon_121 (iv w) fuel (iv (n : Int) + 1) S29)) = X → lp_X5_reckon_121 (iv w) (fuel + 1) (iv (n : Int)) s = X := by
        rintro X rfl
        rw [lp_X5_reckon_121, hd.2.2.1, if_neg (n_le (a := (vNs V : Int)) (b := (n : Int)) (by omega)), rq_iv (by omega), ob, t4, ob, t0, pick_iv hs.1, ob, ob]
      by_cases hon : kOn V n = true ∧ (n : Int) ≠ w
      · obtain ⟨ho, hnw⟩ := hon
        have q1 : oq V w (kCar V n) (kBeh V n) n = true := by simp [oq, ho, hnw]
        have q2 : oq V w (kCar V n) (!kBeh V n) n = false := by cases hb : kBeh V n <;> simp [oq, hb]
        have q3 : ∀ c b, c ≠ kCar V n → oq V w c b n = false := fun c b hc => by
          have e : decide (kCar V n = c) = false := decide_eq_false (fun z => hc z.symm)
          unfold oq
          rw [e, Bool.false_and, Bool.and_false, Bool.and_false]
        rcases (show kCar V n = 0 ∨ kCar V n = 1 by omega) with hc | hc
        · obtain ⟨s1, e1, f1, g0, g1⟩ := s_add (k := 26) (t := 2 + n) (b := kBeh V n) (by omega) i3 t1 t2 t3
          refine ⟨s1, ?_, i1.tr (f1.mono (by simp)), ⟨g0.trans i2.1, by rw [f1.1 37 (by decide)]; exact i2.2⟩, ?_, (SS.skip (i4 : SS V w 1 37 n s) (fun b => q3 1 b (by omega))).fr (f1.1 37 (by decide))⟩
          · refine head _ ?_
            rw [if_neg (b2_n.mpr ho), if_neg (n_eq hnw), hc, show 26 + 11 * 0 = 26 from rfl, e1, ob, iv_one]
            rfl
          · rw [hc] at q1 q2
            exact SS.add q1 q2 g1
        · obtain ⟨s1, e1, f1, g0, g1⟩ := s_add (k := 37) (t := 2 + n) (b := kBeh V n) (by omega) i4 t1 t2 t3
          refine ⟨s1, ?_, i1.tr (f1.mono (by simp)), ⟨by rw [f1.1 26 (by decide)]; exact i2.1, g0.trans i2.2⟩, (SS.skip (i3 : SS V w 0 26 n s) (fun b => q3 0 b (by omega))).fr (f1.1 26 (by decide)), ?_⟩
          · refine head _ ?_
            rw [if_neg (b2_n.mpr ho), if_neg (n_eq hnw), hc, show 26 + 11 * 1 = 37 from rfl, e1, ob, iv_one]
            rfl
          · rw [hc] at q1 q2
            exact SS.add q1 q2 g1
      · have q3 : ∀ c b, oq V w c b n = false := fun c b => by
          cases ho : kOn V n with
          | false => simp [oq, ho]
          | true =>
            have hnw : (n : Int) = w := Decidable.byContradiction (fun z => hon ⟨ho, z⟩)
            simp [oq, hnw]
        refine ⟨s, ?_, i1, i2, SS.skip i3 (q3 0), SS.skip i4 (q3 1)⟩
        refine head _ ?_
        cases ho : kOn V n with
        | false =>
          rw [if_pos (b2_0.mpr rfl), iv_one]
          rfl
        | true =>
          have hnw : (n : Int) = w := Decidable.byContradiction (fun z => hon ⟨ho, z⟩)
          rw [if_neg (by decide), if_pos (by rw [hnw]), iv_one]
          rfl)
    S ⟨Fr.rf, ⟨rfl, rfl⟩, h0, h1⟩
  obtain ⟨s1, e1, i1, i2, i3, i4⟩ := main
  exact ⟨s1, by rw [c_0]; exact e1, i1, i2, i3, i4⟩
