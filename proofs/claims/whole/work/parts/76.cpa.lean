/-! BOTH SIDES: the tests of what is told -/
def okC (a : Int32) : Bool := decide (0 ≤ a.toInt) && decide (a.toInt ≤ 1)
def okS (a : Int32) : Bool := decide (0 ≤ a.toInt) && decide (a.toInt ≤ 2)
def okB (lo hi : Int) (a : Int32) : Bool := decide (lo ≤ a.toInt) && decide (a.toInt ≤ hi)
def okN (lo hi : Int) (a b : Int32) : Bool := decide (lo ≤ a.toInt) && (decide (a.toInt ≤ b.toInt) && decide (b.toInt ≤ hi))
theorem okC_iff {a : Int32} : okC a = true ↔ 0 ≤ a.toInt ∧ a.toInt ≤ 1 := by
  unfold okC
  simp only [Bool.and_eq_true, decide_eq_true_eq]
theorem okS_iff {a : Int32} : okS a = true ↔ 0 ≤ a.toInt ∧ a.toInt ≤ 2 := by
  unfold okS
  simp only [Bool.and_eq_true, decide_eq_true_eq]
theorem okB_iff {lo hi : Int} {a : Int32} : okB lo hi a = true ↔ lo ≤ a.toInt ∧ a.toInt ≤ hi := by
  unfold okB
  simp only [Bool.and_eq_true, decide_eq_true_eq]
theorem okN_iff {lo hi : Int} {a b : Int32} : okN lo hi a b = true ↔ lo ≤ a.toInt ∧ a.toInt ≤ b.toInt ∧ b.toInt ≤ hi := by
  unfold okN
  simp only [Bool.and_eq_true, decide_eq_true_eq]
theorem ok_car {a : Int32} (h : okC a = true) : ∃ c : Nat, c < 2 ∧ a = iv (c : Int) := by
  have := okC_iff.mp h
  exact ⟨a.toInt.toNat, by omega, by rw [Int.toNat_of_nonneg (by omega), iv_of]⟩
theorem ok_spd {a : Int32} (h : okS a = true) : ∃ j : Nat, j < 3 ∧ a = iv (j : Int) := by
  have := okS_iff.mp h
  exact ⟨a.toInt.toNat, by omega, by rw [Int.toNat_of_nonneg (by omega), iv_of]⟩
theorem bxr {α β : Type} (a : α) (f : α → Option ((String × QS) ⊕ β)) : bx (some (.inr a)) f = f a := rfl
theorem bxl {α β : Type} (e : String × QS) (f : α → Option ((String × QS) ⊕ β)) : bx (some (.inl e)) f = some (.inl e) := rfl
theorem bhr {α β : Type} (a : α) (h : String → QS → Option β) (f : α → Option β) : bh (some (.inr a)) h f = f a := rfl
theorem bhl {α β : Type} (e : String) (S : QS) (h : String → QS → Option β) (f : α → Option β) : bh (some (.inl (e, S))) h f = h e S := rfl
theorem stF_ok (k j : Nat) (x : Int32) (S : QS) : stF k j x S = some (setF k j x S) := rfl
theorem stL_ok (k : Nat) (x : Int64) (S : QS) : stL k x S = some (setL k x S) := rfl
theorem z0 : (0 : Int32).toInt = 0 := by decide
theorem z2 : (2 : Int32).toInt = 2 := by decide
theorem zm50 : (-50 : Int32).toInt = -50 := by decide
theorem z50 : (50 : Int32).toInt = 50 := by decide
abbrev nIO : String := "java/lang/IndexOutOfBoundsException"
abbrev nIA : String := "java/lang/IllegalArgumentException"
abbrev nUO : String := "java/lang/UnsupportedOperationException"
abbrev nNS : String := "java/util/NoSuchElementException"
theorem s_IA : ¬ nIA = "java/lang/IndexOutOfBoundsException" := by first | decide | simp
theorem s_UO1 : ¬ nUO = "java/lang/IndexOutOfBoundsException" := by first | decide | simp
theorem s_UO2 : ¬ nUO = "java/lang/IllegalArgumentException" := by first | decide | simp
theorem s_NS1 : ¬ nNS = "java/lang/IndexOutOfBoundsException" := by first | decide | simp
theorem s_NS2 : ¬ nNS = "java/lang/IllegalArgumentException" := by first | decide | simp
theorem b2t : ¬ b2 true = 0 := by decide
theorem b2f : b2 false = 0 := by decide
theorem d_car (a : Int32) (S : QS) : f_X5_testCar a S = some (if okC a then .inr () else .inl (nIO, S)) := by
  unfold f_X5_testCar
  simp only [fa_lt, z0, z2]
  by_cases h1 : a.toInt < 0
  · rw [if_pos h1, if_neg (fun z => by have := okC_iff.mp z; omega)]
  · rw [if_neg h1]
    by_cases h2 : a.toInt < 2
    · rw [if_pos h2, if_pos (okC_iff.mpr (by omega))]
    · rw [if_neg h2, if_neg (fun z => by have := okC_iff.mp z; omega)]
theorem d_speed (a b : Int32) (S : QS) : f_X5_testSpeed a b S = some (if okC a && okS b then .inr () else .inl (nIO, S)) := by
  unfold f_X5_testSpeed
  rw [d_car]
  cases okC a with
  | false =>
    rw [if_neg (by decide), bxl, Bool.false_and, if_neg (by decide)]
  | true =>
    rw [if_pos rfl, bxr, Bool.true_and]
    simp only [fa_lt, fa_le, z0, z2]
    by_cases h1 : b.toInt < 0
    · rw [if_pos h1, if_neg (fun z => by have := okS_iff.mp z; omega)]
    · rw [if_neg h1]
      by_cases h2 : b.toInt ≤ 2
      · rw [if_pos h2, if_pos (okS_iff.mpr (by omega))]
      · rw [if_neg h2, if_neg (fun z => by have := okS_iff.mp z; omega)]
theorem d_num (a : Int32) {lo hi : Int} (hl : -2147483648 ≤ lo ∧ lo < 2147483648) (hh : -2147483648 ≤ hi ∧ hi < 2147483648) (S : QS) : f_X5_testNumber a (iv lo) (iv hi) S = some (if okB lo hi a then .inr () else .inl (nIA, S)) := by
  unfold f_X5_testNumber
  simp only [fa_lt, fa_le, iv_to hl, iv_to hh]
  by_cases h1 : a.toInt < lo
  · rw [if_pos h1, if_neg (fun z => by have := okB_iff.mp z; omega)]
  · rw [if_neg h1]
    by_cases h2 : a.toInt ≤ hi
    · rw [if_pos h2, if_pos (okB_iff.mpr (by omega))]
    · rw [if_neg h2, if_neg (fun z => by have := okB_iff.mp z; omega)]
theorem d_span (a b : Int32) {lo hi : Int} (hl : -2147483648 ≤ lo ∧ lo < 2147483648) (hh : -2147483648 ≤ hi ∧ hi < 2147483648) (S : QS) : f_X5_testSpan a b (iv lo) (iv hi) S = some (if okN lo hi a b then .inr () else .inl (nIA, S)) := by
  unfold f_X5_testSpan
  simp only [fa_lt, fa_le, iv_to hl, iv_to hh]
  by_cases h1 : a.toInt < lo
  · rw [if_pos h1, if_neg (fun z => by have := okN_iff.mp z; omega)]
  · rw [if_neg h1]
    by_cases h3 : b.toInt < a.toInt
    · rw [if_pos h3, if_neg (fun z => by have := okN_iff.mp z; omega)]
    · rw [if_neg h3]
      by_cases h2 : b.toInt ≤ hi
      · rw [if_pos h2, if_pos (okN_iff.mpr (by omega))]
      · rw [if_neg h2, if_neg (fun z => by have := okN_iff.mp z; omega)]
theorem d_num1 (a : Int32) (S : QS) : f_X5_testNumber a 1 100 S = some (if okB 1 100 a then .inr () else .inl (nIA, S)) := by
  rw [c_1, c_100]
  exact d_num a (by decide) (by decide) S
theorem d_num2000 (a : Int32) (S : QS) : f_X5_testNumber a 0 2000 S = some (if okB 0 2000 a then .inr () else .inl (nIA, S)) := by
  rw [c_0, c_2000]
  exact d_num a (by decide) (by decide) S
theorem d_num150 (a : Int32) (S : QS) : f_X5_testNumber a 0 150 S = some (if okB 0 150 a then .inr () else .inl (nIA, S)) := by
  rw [c_0, c_150]
  exact d_num a (by decide) (by decide) S
theorem d_sp2000 (a b : Int32) (S : QS) : f_X5_testSpan a b 0 2000 S = some (if okN 0 2000 a b then .inr () else .inl (nIA, S)) := by
  rw [c_0, c_2000]
  exact d_span a b (by decide) (by decide) S
theorem d_sp150 (a b : Int32) (S : QS) : f_X5_testSpan a b 0 150 S = some (if okN 0 150 a b then .inr () else .inl (nIA, S)) := by
  rw [c_0, c_150]
  exact d_span a b (by decide) (by decide) S
theorem d_sp50 (a b : Int32) (S : QS) : f_X5_testSpan a b (-50) 50 S = some (if okN (-50) 50 a b then .inr () else .inl (nIA, S)) := by
  rw [c_m50, c_50]
  exact d_span a b (by decide) (by decide) S
theorem d_carOf {c : Nat} (hc : c < 2) (S : QS) : f_X5_carOf (iv (c : Int)) S = some (.inr (26 + 11 * c)) := by
  unfold f_X5_carOf
  rw [d_car, if_pos (okC_iff.mpr (by rw [iv_to (by omega)]; omega)), bxr, pick_iv hc, ob]
theorem d_carOf_no {a : Int32} (h : okC a = false) (S : QS) : f_X5_carOf a S = some (.inl (nIO, S)) := by
  unfold f_X5_carOf
  rw [d_car, h, if_neg (by decide), bxl]
theorem d_pick {c j : Nat} (hc : c < 2) (hj : j < 3) (S : QS) : f_X0_pick (26 + 11 * c) (iv (j : Int)) S = some (kp (3 * c + j)) := by
  rcases (show c = 0 ∨ c = 1 by omega) with rfl | rfl <;> rcases (show j = 0 ∨ j = 1 ∨ j = 2 by omega) with rfl | rfl | rfl <;> rfl
theorem d_speedOf {c j : Nat} (hc : c < 2) (hj : j < 3) (S : QS) : f_X5_speedOf (iv (c : Int)) (iv (j : Int)) S = some (.inr (kp (3 * c + j))) := by
  unfold f_X5_speedOf
  rw [d_speed, if_pos (by rw [Bool.and_eq_true]; exact ⟨okC_iff.mpr (by rw [iv_to (by omega)]; omega), okS_iff.mpr (by rw [iv_to (by omega)]; omega)⟩), bxr, d_carOf hc, bxr, d_pick hc hj, ob]
theorem d_speedOf_no {a b : Int32} (h : (okC a && okS b) = false) (S : QS) : f_X5_speedOf a b S = some (.inl (nIO, S)) := by
  unfold f_X5_speedOf
  rw [d_speed, h, if_neg (by decide), bxl]
def okK (V : Vw) (a : Int32) : Bool := decide (0 ≤ a.toInt) && decide (a.toInt < (vNs V : Int))
theorem okK_iff {V : Vw} {a : Int32} : okK V a = true ↔ 0 ≤ a.toInt ∧ a.toInt < (vNs V : Int) := by
  unfold okK
  simp only [Bool.and_eq_true, decide_eq_true_eq]
theorem ok_skd {V : Vw} {a : Int32} (h : okK V a = true) : ∃ s : Nat, s < vNs V ∧ a = iv (s : Int) := by
  have := okK_iff.mp h
  exact ⟨a.toInt.toNat, by omega, by rw [Int.toNat_of_nonneg (by omega), iv_of]⟩
theorem d_skidOf {V : Vw} (hV : VOk V) {S : QS} (hD : DR V S) (a : Int32) : f_X5_skidOf a S = some (if okK V a then .inr (2 + a.toInt.toNat) else .inl (nIO, S)) := by
  have hn := hV.2.2.1
  unfold f_X5_skidOf
  rw [hD.2.2.1]
  have e : (iv (vNs V : Int)).toInt = (vNs V : Int) := iv_to (by omega)
  simp only [fa_lt, z0, e]
  by_cases h1 : a.toInt < 0
  · rw [if_pos h1, if_neg (fun z => by have := okK_iff.mp z; omega)]
  · rw [if_neg h1]
    by_cases h2 : a.toInt < (vNs V : Int)
    · obtain ⟨s, hs⟩ : ∃ s : Nat, a.toInt = (s : Int) := ⟨a.toInt.toNat, by omega⟩
      have ea : a = iv (s : Int) := by rw [← hs, iv_of]
      rw [if_pos h2, if_pos (okK_iff.mpr (by omega)), hs, Int.toNat_natCast, ea, rq_iv (by omega), ob]
    · rw [if_neg h2, if_neg (fun z => by have := okK_iff.mp z; omega)]
/-! the same tests, in the reference -/
theorem b2_not (b : Bool) : (if b2 b = 0 then some (1 : Int32) else some 0) = some (b2 (!b)) := by cases b <;> rfl
theorem m_noCar (a : Int32) : f_X6_noCar a = some (b2 (!okC a)) := by
  have z1 : (1 : Int32).toInt = 1 := by decide
  unfold f_X6_noCar
  rw [r_in, ob, z0, z1]
  exact b2_not _
theorem m_noSpeed (a b : Int32) : f_X6_noSpeed a b = some (b2 (!(okC a && okS b))) := by
  unfold f_X6_noSpeed
  rw [m_noCar, ob]
  cases okC a with
  | false => rfl
  | true =>
    rw [if_pos (by decide), r_in, ob, z0, z2]
    exact b2_not _
theorem m_noSpan (a b : Int32) : f_X6_noSpan a b = some (b2 (!okN (-50) 50 a b)) := by
  unfold f_X6_noSpan
  simp only [fa_lt, fa_le, zm50, z50]
  by_cases h1 : a.toInt < -50
  · rw [if_pos h1, show okN (-50) 50 a b = false from Bool.eq_false_iff.mpr (fun z => by have := okN_iff.mp z; omega)]
    rfl
  · rw [if_neg h1]
    by_cases h3 : b.toInt < a.toInt
    · rw [if_pos h3, show okN (-50) 50 a b = false from Bool.eq_false_iff.mpr (fun z => by have := okN_iff.mp z; omega)]
      rfl
    · rw [if_neg h3]
      by_cases h2 : b.toInt ≤ 50
      · rw [if_pos h2, okN_iff.mpr (by omega)]
        rfl
      · rw [if_neg h2, show okN (-50) 50 a b = false from Bool.eq_false_iff.mpr (fun z => by have := okN_iff.mp z; omega)]
        rfl
theorem m_thr (z : Bool) (x : Int32) (S : QS) : f_X6_throwsIf (b2 z) x S = some (b2 z, if z then setF 48 0 x S else S) := by
  unfold f_X6_throwsIf
  cases z with
  | false => rfl
  | true => rfl
theorem thr_n {β : Type} (x : Int32) (S : QS) (f : Int32 × QS → Option β) : (f_X6_throwsIf (b2 (!false)) x S).bind f = f (b2 true, setF 48 0 x S) := by
  rw [m_thr]
  rfl
theorem thr_y {β : Type} (x : Int32) (S : QS) (f : Int32 × QS → Option β) : (f_X6_throwsIf (b2 (!true)) x S).bind f = f (b2 false, S) := by
  rw [m_thr]
  rfl
theorem thr_1 {β : Type} (x : Int32) (S : QS) (f : Int32 × QS → Option β) : (f_X6_throwsIf 1 x S).bind f = f (b2 true, setF 48 0 x S) := thr_n x S f
theorem thr_0 {β : Type} (x : Int32) (S : QS) (f : Int32 × QS → Option β) : (f_X6_throwsIf 0 x S).bind f = f (b2 false, S) := thr_y x S f
theorem m_inB (a : Int32) {lo hi : Int} (hl : -2147483648 ≤ lo ∧ lo < 2147483648) (hh : -2147483648 ≤ hi ∧ hi < 2147483648) : f_X6_in a (iv lo) (iv hi) = some (b2 (okB lo hi a)) := by
  rw [r_in, iv_to hl, iv_to hh]
  rfl
theorem m_in1 (a : Int32) : f_X6_in a 1 100 = some (b2 (okB 1 100 a)) := by
  rw [c_1, c_100]
  exact m_inB a (by decide) (by decide)
theorem m_in2000 (a : Int32) : f_X6_in a 0 2000 = some (b2 (okB 0 2000 a)) := by
  rw [c_0, c_2000]
  exact m_inB a (by decide) (by decide)
theorem m_in150 (a : Int32) : f_X6_in a 0 150 = some (b2 (okB 0 150 a)) := by
  rw [c_0, c_150]
  exact m_inB a (by decide) (by decide)
theorem m_in50 (a : Int32) : f_X6_in a (-50) 50 = some (b2 (okB (-50) 50 a)) := by
  rw [c_m50, c_50]
  exact m_inB a (by decide) (by decide)
/-! the invariant -/
def IV (V : Vw) (S : QS) : Prop := VOk V ∧ DR V S ∧ Cache V S ∧ MR V S ∧ S.1 48 18 = 0
def Inv (S : QS) : Prop := ∃ V, IV V S
/-- what only the reference's own notes differ in -/
theorem IV.md {V : Vw} {S S1 : QS} (h : IV V S) (hk : ∀ k, k < 48 → S1.1 k = S.1 k) (hl : S1.2 25 = S.2 25) (hM : MR V S1) (h18 : S1.1 48 18 = 0) : IV V S1 := ⟨h.1, h.2.1.kept h.1 hk, h.2.2.1.kept hk hl, hM, h18⟩
theorem IV.thr {V : Vw} {S : QS} (h : IV V S) (x : Int32) : IV V (setF 48 0 x S) := h.md (fun k hk => st_nek (by omega)) rfl (h.2.2.2.1.kp (fun k h1 h2 => st_nek (by omega)) (st_nej (by decide)) (st_nej (by decide))) (by rw [st_nej (by decide)]; exact h.2.2.2.2)
theorem IV.out {V : Vw} {S : QS} (h : IV V S) (x : Int64) : IV V (setL 67 x S) := h.md (fun _ _ => rfl) (sl_ne (by decide)) (h.2.2.2.1.kp (fun _ _ _ => rfl) rfl rfl) h.2.2.2.2
theorem IV.tell {V : Vw} {S1 S2 : QS} (hV : VOk V) (hD : DR V S1) (h5 : S1.1 0 5 = 0) (hk : ∀ k, k < 48 → S2.1 k = S1.1 k) (hM : MR V S2) (h18 : S2.1 48 18 = 0) : IV V S2 := ⟨hV, hD.kept hV hk, Or.inl (by rw [hk 0 (by decide)]; exact h5), hM, h18⟩
theorem MR.up {V : Vw} {S S1 : QS} (h : MR V S) (hk : ∀ k, 48 ≤ k → S1.1 k = S.1 k) : MR V S1 := h.kp (fun k h1 _ => hk k (by omega)) (by rw [hk 48 (by decide)]) (by rw [hk 48 (by decide)])
