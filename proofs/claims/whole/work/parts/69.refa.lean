/-! THE REFERENCE: its small methods, which tales are not so, what a row lets -/
theorem r_in (a b c : Int32) : f_X6_in a b c = some (b2 (decide (b.toInt ≤ a.toInt) && decide (a.toInt ≤ c.toInt))) := by
  unfold f_X6_in
  simp only [fa_lt]
  by_cases h1 : a.toInt < b.toInt
  · rw [if_pos h1, decide_eq_false (show ¬ b.toInt ≤ a.toInt by omega), Bool.false_and]
    rfl
  · rw [if_neg h1, decide_eq_true (show b.toInt ≤ a.toInt by omega), Bool.true_and]
    by_cases h2 : c.toInt < a.toInt
    · rw [if_pos h2, decide_eq_false (show ¬ a.toInt ≤ c.toInt by omega)]
      rfl
    · rw [if_neg h2, decide_eq_true (show a.toInt ≤ c.toInt by omega)]
      rfl
theorem r_inv {v lo hi : Int} (hv : -2147483648 ≤ v ∧ v < 2147483648 := by omega) (h1 : -2147483648 ≤ lo ∧ lo < 2147483648 := by omega) (h2 : -2147483648 ≤ hi ∧ hi < 2147483648 := by omega) : f_X6_in (iv v) (iv lo) (iv hi) = some (b2 (decide (lo ≤ v) && decide (v ≤ hi))) := by
  rw [r_in, iv_to hv, iv_to h1, iv_to h2]
/-- the place of a number of a row -/
def cx (r : Nat) (v : Int) : Nat := 101 * r + ix v
theorem cx_lt {r : Nat} {v : Int} (hr : r < 6) (h : -50 ≤ v ∧ v ≤ 50) : cx r v < 606 := by
  have := ix_lt h
  unfold cx
  omega
theorem cx_ne {r r2 : Nat} {v v2 : Int} (h1 : -50 ≤ v ∧ v ≤ 50) (h2 : -50 ≤ v2 ∧ v2 ≤ 50) (h : r ≠ r2 ∨ v ≠ v2) : cx r v ≠ cx r2 v2 := by
  unfold cx ix
  omega
theorem cx_to {r : Nat} {v : Int} (h : -50 ≤ v ∧ v ≤ 50) : (101 * (r : Int) + v + 50).toNat = cx r v := by
  unfold cx ix
  omega
theorem r_cell {r : Nat} {v : Int} : f_X6_cell (iv (r : Int)) (iv v) = some (iv (101 * (r : Int) + v + 50)) := by
  unfold f_X6_cell
  rw [c_101, c_50, iv_mul, iv_add, iv_add]
theorem rdC {k r : Nat} {v : Int} {S : QS} (hr : r < 6) (h : -50 ≤ v ∧ v ≤ 50) : rdA k 606 (iv (101 * (r : Int) + v + 50)) S = some (S.1 k (cx r v)) := by
  rw [rd_iv (by omega), cx_to h]
theorem wzC {k r : Nat} {v : Int} {y : Int32} {S : QS} (hr : r < 6) (h : -50 ≤ v ∧ v ≤ 50) (hy : y = 0 ∨ y = 1) : wrZ k 606 (iv (101 * (r : Int) + v + 50)) y S = some (setF k (cx r v) y S) := by
  rw [wz_iv (by omega) hy, cx_to h]
theorem row0 {c : Nat} : 3 * iv (c : Int) = iv ((3 * c : Nat) : Int) := by
  rw [c_3, iv_mul]
  rfl
theorem row1 {c : Nat} : 3 * iv (c : Int) + 1 = iv ((3 * c + 1 : Nat) : Int) := by
  rw [c_3, c_1, iv_mul, iv_add]
  rfl
theorem row2 {c : Nat} : 3 * iv (c : Int) + 2 = iv ((3 * c + 2 : Nat) : Int) := by
  rw [c_3, c_2, iv_mul, iv_add]
  rfl
/-! what was told, in the reference -/
def MR (V : Vw) (S : QS) : Prop := (S.1 49 0 = iv (vM V 0) ∧ S.1 49 1 = iv (vM V 1)) ∧ (∀ r, r < 6 → S.1 55 r = iv (vLo V r) ∧ S.1 56 r = iv (vHi V r)) ∧ S.1 48 7 = iv (vNs V : Int) ∧ S.1 48 13 = iv (vNt V : Int) ∧
  (∀ s, s < vNs V → S.1 50 s = iv (kCar V s : Int) ∧ S.1 51 s = b2 (kBeh V s) ∧ S.1 52 s = iv (kLo V s) ∧ S.1 53 s = iv (kHi V s) ∧ S.1 54 s = b2 (!kOn V s)) ∧ (∀ s, vNs V ≤ s → s < 12 → S.1 54 s = 0) ∧
  ∀ t, t < vNt V → S.1 57 t = iv (tRow V t : Int) ∧ S.1 58 t = iv (tLo V t) ∧ S.1 59 t = iv (tHi V t)
theorem MR.kp {V : Vw} {S S1 : QS} (h : MR V S) (hk : ∀ k, 49 ≤ k → k ≤ 59 → S1.1 k = S.1 k) (h7 : S1.1 48 7 = S.1 48 7) (h13 : S1.1 48 13 = S.1 48 13) : MR V S1 := by
  unfold MR at h ⊢
  rw [hk 49 (by omega) (by omega), hk 50 (by omega) (by omega), hk 51 (by omega) (by omega), hk 52 (by omega) (by omega), hk 53 (by omega) (by omega), hk 54 (by omega) (by omega), hk 55 (by omega) (by omega), hk 56 (by omega) (by omega), hk 57 (by omega) (by omega), hk 58 (by omega) (by omega), hk 59 (by omega) (by omega), h7, h13]
  exact h
theorem MR.fr {V : Vw} {P : List Nat} {S S1 : QS} (h : MR V S) (hf : Fr P S S1) (hP : ∀ k, k ∈ P → k < 48 ∨ 60 ≤ k) : MR V S1 := by
  have hk : ∀ k, 48 ≤ k → k ≤ 59 → S1.1 k = S.1 k := fun k h1 h2 => hf.1 k (fun z => by have := hP k z; omega)
  exact h.kp (fun k h1 h2 => hk k (by omega) h2) (by rw [hk 48 (by omega) (by omega)]) (by rw [hk 48 (by omega) (by omega)])
/-! sets of bits as sums -/
def bN (p : Nat → Bool) (n : Nat) : Nat := fb_sm (fun t => if p t then 2 ^ t else 0) n
theorem bN_s (p : Nat → Bool) (n : Nat) : bN p (n + 1) = bN p n + (if p n then 2 ^ n else 0) := fb_sm_succ _ _
theorem bN_lt (p : Nat → Bool) : ∀ n, bN p n < 2 ^ n
  | 0 => by simp [bN, fb_sm]
  | n + 1 => by
    have h := bN_lt p n
    rw [bN_s, Nat.pow_succ]
    split <;> omega
theorem bN_bit (p : Nat → Bool) (t : Nat) : ∀ n, (bN p n).testBit t = (decide (t < n) && p t)
  | 0 => by simp [bN, fb_sm]
  | n + 1 => by
    have ih := bN_bit p t n
    have hl := bN_lt p n
    rw [bN_s]
    rcases Nat.lt_trichotomy t n with h | h | h
    · rw [decide_eq_true h] at ih
      rw [decide_eq_true (show t < n + 1 by omega), ← ih]
      cases p n with
      | false => rw [if_neg (by decide), Nat.add_zero]
      | true => rw [if_pos rfl, Nat.add_comm, Nat.testBit_two_pow_add_gt h]
    · subst h
      rw [decide_eq_false (Nat.lt_irrefl t), Bool.false_and] at ih
      rw [decide_eq_true (show t < t + 1 by omega), Bool.true_and]
      cases hp : p t with
      | false => rw [if_neg (by decide), Nat.add_zero, ih]
      | true => rw [if_pos rfl, Nat.add_comm, Nat.testBit_two_pow_add_eq, ih]; rfl
    · rw [decide_eq_false (show ¬ t < n + 1 by omega), Bool.false_and]
      apply Nat.testBit_lt_two_pow
      have h2 : (2 : Nat) ^ (n + 1) ≤ 2 ^ t := Nat.pow_le_pow_right (by decide) h
      have h3 : (2 : Nat) ^ (n + 1) = 2 ^ n + 2 ^ n := by rw [Nat.pow_succ]; omega
      split <;> omega
theorem bN_up {p : Nat → Bool} {x n : Nat} (hx : x < 2 ^ n) (h : ∀ t, t < n → x.testBit t = p t) : x = bN p n := by
  apply Nat.eq_of_testBit_eq
  intro t
  rw [bN_bit]
  by_cases c : t < n
  · rw [h t c, decide_eq_true c, Bool.true_and]
  · rw [decide_eq_false c, Bool.false_and]
    apply Nat.testBit_lt_two_pow
    exact Nat.lt_of_lt_of_le hx (Nat.pow_le_pow_right (by decide) (by omega))
theorem or_pow {x n : Nat} (h : x < 2 ^ n) : nI x ||| nI (2 ^ n) = nI (x + 2 ^ n) := by
  have h1 := Nat.two_pow_add_eq_or_of_lt h 1
  rw [Nat.mul_one] at h1
  rw [fa_or, Nat.or_comm, ← h1, Nat.add_comm]
theorem and_0 {x y : Nat} : x &&& y = 0 ↔ ∀ t, ¬ (x.testBit t = true ∧ y.testBit t = true) := by
  constructor
  · intro h t ⟨h1, h2⟩
    have h3 : (x &&& y).testBit t = false := by rw [h]; exact Nat.zero_testBit t
    rw [Nat.testBit_and, h1, h2] at h3
    cases h3
  · intro h
    apply Nat.eq_of_testBit_eq
    intro t
    rw [Nat.testBit_and, Nat.zero_testBit]
    have := h t
    cases h1 : x.testBit t <;> cases h2 : y.testBit t <;> simp_all
theorem nI_z {x : Nat} (h : x < 2 ^ 31) : nI x = 0 ↔ x = 0 := by
  constructor
  · intro z
    rcases Nat.eq_zero_or_pos x with q | q
    · exact q
    · exact absurd z (nI_ne0 q h)
  · rintro rfl
    exact nI_0
/-- the tales of a row that are not so at a number, as bits -/
def fl (V : Vw) (r : Nat) (v : Int) : Nat := bN (tB V r v) (vNt V)
theorem fl_lt {V : Vw} (hV : VOk V) (r : Nat) (v : Int) : fl V r v < 1024 := by
  have h := bN_lt (tB V r v) (vNt V)
  have h2 : (2 : Nat) ^ vNt V ≤ 2 ^ 10 := Nat.pow_le_pow_right (by decide) hV.2.2.2.2.1
  unfold fl
  omega
theorem fl_bit (V : Vw) (r : Nat) (v : Int) (t : Nat) : (fl V r v).testBit t = (decide (t < vNt V) && tB V r v t) := bN_bit _ _ _
theorem fl_and {V : Vw} (hV : VOk V) {set r : Nat} {v : Int} : nI (fl V r v) &&& nI set = 0 ↔ allB (fun t => !(tB V r v t && set.testBit t)) (vNt V) = true := by
  have hl := fl_lt hV r v
  have h2 : fl V r v &&& set ≤ fl V r v := Nat.and_le_left
  rw [fa_and, nI_z (by omega), and_0, allB_iff]
  constructor
  · intro h t ht
    have := h t
    rw [fl_bit, decide_eq_true ht, Bool.true_and] at this
    cases h1 : tB V r v t <;> cases h2 : set.testBit t <;> simp_all
  · intro h t ⟨h1, h2⟩
    rw [fl_bit] at h1
    simp only [Bool.and_eq_true, decide_eq_true_eq] at h1
    have := h t h1.1
    rw [h1.2, h2] at this
    cases this
theorem r_falses {V : Vw} (hV : VOk V) {S : QS} (hM : MR V S) {r : Nat} (hr : r < 6) {v : Int} (hv : -50 ≤ v ∧ v ≤ 50) : f_X6_falses (iv (r : Int)) (iv v) S = some (nI (fl V r v)) := by
  have hn := hV.2.2.2.2.1
  obtain ⟨-, -, -, h13, -, -, hT⟩ := hM
  have main := loopN (fun fuel t s => lp_X6_falses_5 (iv (r : Int)) (iv v) S fuel s t) id (fun n s => s = nI (bN (tB V r v) n)) (vNt V) (by omega)
    (fun fuel s hI => by
      show lp_X6_falses_5 (iv (r : Int)) (iv v) S (fuel + 1) s (iv (vNt V : Int)) = some s
      rw [lp_X6_falses_5, h13, if_pos (y_le (a := (vNt V : Int)) (b := (vNt V : Int)) (Int.le_refl _))])
    (fun fuel n s hlt hI => by
      have hI : s = nI (bN (tB V r v) n) := hI
      subst hI
      obtain ⟨t0, t1, t2⟩ := hT n hlt
      have hr2 := (hV.2.2.2.2.2 n hlt)
      refine ⟨nI (bN (tB V r v) (n + 1)), ?_, rfl⟩
      show lp_X6_falses_5 (iv (r : Int)) (iv v) S (fuel + 1) (nI (bN (tB V r v) n)) (iv (n : Int)) = lp_X6_falses_5 (iv (r : Int)) (iv v) S fuel (nI (bN (tB V r v) (n + 1))) (iv ((n + 1 : Nat) : Int))
      have hlt10 : n < 10 := by omega
      rw [lp_X6_falses_5, h13, if_neg (n_le (a := (vNt V : Int)) (b := (n : Int)) (by omega)), rd_iv (by omega), ob, Int.toNat_natCast, t0]
      have fin : ∀ (b : Bool) (q : Option Int32), tB V r v n = b → q = some (if b then nI (2 ^ n) else 0) → (q.bind fun q5 => lp_X6_falses_5 (iv (r : Int)) (iv v) S fuel (nI (bN (tB V r v) n) ||| q5) (iv (n : Int) + 1)) = lp_X6_falses_5 (iv (r : Int)) (iv v) S fuel (nI (bN (tB V r v) (n + 1))) (iv ((n + 1 : Nat) : Int)) := by
        rintro b q hb rfl
        rw [ob, bN_s, hb, iv_one]
        cases b with
        | false =>
          rw [if_neg (by decide), if_neg (by decide), Nat.add_zero, ← nI_0, fa_or, Nat.or_zero]
          rfl
        | true =>
          rw [if_pos rfl, if_pos rfl, or_pow (bN_lt _ _)]
          rfl
      by_cases hrow : tRow V n = r
      · have e : tB V r v n = !(decide (tLo V n ≤ v) && decide (v ≤ tHi V n)) := by unfold tB; rw [decide_eq_true hrow, Bool.true_and]
        rw [if_pos (by rw [hrow])]
        refine fin _ _ rfl ?_
        rw [rd_iv (by omega), ob, rd_iv (by omega), ob, Int.toNat_natCast, t1, t2, r_inv (by omega) (by omega) (by omega), ob, e, shl_iv (by omega)]
        cases (decide (tLo V n ≤ v) && decide (v ≤ tHi V n)) with
        | false => rw [if_pos (by decide), Bool.not_false, if_pos rfl]
        | true => rw [if_neg (by decide), Bool.not_true, if_neg (by decide)]
      · have e : tB V r v n = false := by unfold tB; rw [decide_eq_false hrow, Bool.false_and]
        rw [if_neg (n_eq (a := (tRow V n : Int)) (b := (r : Int)) (by omega))]
        exact fin _ _ rfl (by rw [e, if_neg (by decide)]))
    0 rfl
  obtain ⟨s1, e1, i1⟩ := main
  have i1 : s1 = nI (bN (tB V r v) (vNt V)) := i1
  subst i1
  unfold f_X6_falses
  rw [c_0]
  rw [c_0] at e1
  exact e1
theorem lq_eq (V : Vw) (set r : Nat) (v : Int) : lq V set r v = ((decide (vLo V r ≤ v) && decide (v ≤ vHi V r)) && allB (fun t => !(tB V r v t && set.testBit t)) (vNt V)) := rfl
theorem r_letsRow {V : Vw} (hV : VOk V) {set : Nat} {S : QS} (hM : MR V S) {r : Nat} (hr : r < 6) :
    ∃ S1, lp_X6_lets_11 (nI set) (iv (r : Int)) FU (-50) S = some S1 ∧ Fr [60, 61] S S1 ∧ (∀ u, -50 ≤ u → u ≤ 50 → S1.1 60 (cx r u) = b2 (lq V set r u) ∧ S1.1 61 (cx r u) = 0) ∧
      ∀ r2, r2 ≠ r → ∀ u, -50 ≤ u → u ≤ 50 → S1.1 60 (cx r2 u) = S.1 60 (cx r2 u) ∧ S1.1 61 (cx r2 u) = S.1 61 (cx r2 u) := by
  have main := loop50 (fun fuel v s => lp_X6_lets_11 (nI set) (iv (r : Int)) fuel v s) id (fun v s => Fr [60, 61] S s ∧ (∀ u, -50 ≤ u → u < v → u ≤ 50 → s.1 60 (cx r u) = b2 (lq V set r u) ∧ s.1 61 (cx r u) = 0) ∧
      ∀ r2, r2 ≠ r → ∀ u, -50 ≤ u → u ≤ 50 → s.1 60 (cx r2 u) = S.1 60 (cx r2 u) ∧ s.1 61 (cx r2 u) = S.1 61 (cx r2 u))
    (fun fuel s => by
      show lp_X6_lets_11 (nI set) (iv (r : Int)) (fuel + 1) (iv 51) s = some s
      rw [lp_X6_lets_11, if_pos gt50])
    (fun fuel v s h3 h4 hI => by
      obtain ⟨i1, i2, i3⟩ := hI
      have hM1 : MR V s := hM.fr i1 (by decide)
      obtain ⟨hlo, hhi⟩ := hM1.2.1 r hr
      have hb := hV.2.1 r hr
      have hv : -50 ≤ v ∧ v ≤ 50 := ⟨h3, h4⟩
      refine ⟨setF 61 (cx r v) 0 (setF 60 (cx r v) (b2 (lq V set r v)) s), ?_, ?_, ?_, ?_⟩
      · show lp_X6_lets_11 (nI set) (iv (r : Int)) (fuel + 1) (iv v) s = lp_X6_lets_11 (nI set) (iv (r : Int)) fuel (iv (v + 1)) _
        have q : (if b2 (decide (vLo V r ≤ v) && decide (v ≤ vHi V r)) = 0 then (some 0) else ((f_X6_falses (iv (r : Int)) (iv v) s).bind fun v16 => if (v16 &&& nI set) = 0 then (some 1) else (some 0))) = some (b2 (lq V set r v)) := by
          rw [lq_eq]
          cases (decide (vLo V r ≤ v) && decide (v ≤ vHi V r)) with
          | false => rw [if_pos (by decide), Bool.false_and]; rfl
          | true =>
            rw [if_neg (by decide), r_falses hV hM1 hr hv, ob, Bool.true_and]
            cases hall : allB (fun t => !(tB V r v t && set.testBit t)) (vNt V) with
            | true => rw [if_pos ((fl_and hV).mpr hall)]; rfl
            | false => rw [if_neg (fun z => by rw [(fl_and hV).mp z] at hall; cases hall)]; rfl
        rw [lp_X6_lets_11, if_neg (hi50 h4), r_cell, ob, rd_iv (by omega), ob, rd_iv (by omega), ob, Int.toNat_natCast, hlo, hhi, r_inv (by omega) (by omega) (by omega), ob, q, ob, wzC hr hv (b2_or _), ob, ob, wzC hr hv (Or.inl rfl), ob, iv_one]
      · exact (i1.tr (Fr.set (by decide))).tr (Fr.set (by decide))
      · intro u h5 h6 h7
        by_cases c : u = v
        · subst c
          exact ⟨by rw [st_nek (by decide), st_eq], st_eq _ _ _ _⟩
        · have hn : cx r u ≠ cx r v := cx_ne ⟨h5, h7⟩ hv (Or.inr c)
          obtain ⟨j1, j2⟩ := i2 u h5 (by omega) h7
          exact ⟨by rw [st_nek (by decide), st_nej hn]; exact j1, by rw [st_nej hn, st_nek (by decide)]; exact j2⟩
      · intro r2 hr2 u h5 h6
        have hn : cx r2 u ≠ cx r v := cx_ne ⟨h5, h6⟩ hv (Or.inl hr2)
        obtain ⟨j1, j2⟩ := i3 r2 hr2 u h5 h6
        exact ⟨by rw [st_nek (by decide), st_nej hn]; exact j1, by rw [st_nej hn, st_nek (by decide)]; exact j2⟩)
    S ⟨Fr.rf, fun u _ _ _ => by omega, fun _ _ _ _ _ => ⟨rfl, rfl⟩⟩
  obtain ⟨S1, e, i1, i2, i3⟩ := main
  exact ⟨S1, by rw [c_m50]; exact e, i1, fun u h1 h2 => i2 u h1 (by omega) h2, i3⟩
theorem r_lets {V : Vw} (hV : VOk V) {set : Nat} {S : QS} (hM : MR V S) :
    ∃ S1, f_X6_lets (nI set) S = some S1 ∧ Fr [60, 61] S S1 ∧ ∀ r, r < 6 → ∀ u, -50 ≤ u → u ≤ 50 → S1.1 60 (cx r u) = b2 (lq V set r u) ∧ S1.1 61 (cx r u) = 0 := by
  have main := loopN (fun fuel v s => lp_X6_lets_2 (nI set) fuel v s) id (fun n s => Fr [60, 61] S s ∧ ∀ r, r < n → ∀ u, -50 ≤ u → u ≤ 50 → s.1 60 (cx r u) = b2 (lq V set r u) ∧ s.1 61 (cx r u) = 0) 6 (by decide)
    (fun fuel s hI => by
      show lp_X6_lets_2 (nI set) (fuel + 1) (iv ((6 : Nat) : Int)) s = some s
      rw [lp_X6_lets_2, if_pos (by decide)])
    (fun fuel n s hlt hI => by
      obtain ⟨i1, i2⟩ := hI
      obtain ⟨s1, e1, f1, g1, g2⟩ := r_letsRow (set := set) hV (hM.fr i1 (by decide)) hlt
      refine ⟨s1, ?_, i1.tr f1, fun r hr u h1 h2 => ?_⟩
      · show lp_X6_lets_2 (nI set) (fuel + 1) (iv (n : Int)) s = lp_X6_lets_2 (nI set) fuel (iv ((n + 1 : Nat) : Int)) s1
        rw [lp_X6_lets_2, if_neg (by rw [c_6]; exact n_le (by omega)), e1, ob, iv_one]
        rfl
      · by_cases c : r = n
        · subst c
          exact g1 u h1 h2
        · obtain ⟨j1, j2⟩ := g2 r c u h1 h2
          rw [j1, j2]
          exact i2 r (by omega) u h1 h2)
    S ⟨Fr.rf, fun _ h => absurd h (Nat.not_lt_zero _)⟩
  obtain ⟨S1, e, i1, i2⟩ := main
  exact ⟨S1, by unfold f_X6_lets; rw [c_0]; exact e, i1, i2⟩
