/-! THE LAW: every case answers alike, every run goes through -/
theorem rdx {L : Nat} {xs : Nat → Int32} {i : Nat} (j : Nat) (h : i + j < L) (hL : L ≤ 100000) : rdX L xs (iv (i : Int) + iv (j : Int)) = some (xs (i + j)) := by
  unfold rdX
  rw [iv_add, iv_nat (by omega), if_pos (by
    intro z
    rcases z with z | z
    · rw [c_0, iv_lt (by omega) (by omega)] at z
      omega
    · omega)]
  congr 2
theorem zb2 (x : Int32) : ((if x = 0 then (some 0) else (some 1)) : Option Int32) = some (b2 (!decide (x = 0))) := by
  by_cases c : x = 0
  · rw [if_pos c, decide_eq_true c]; rfl
  · rw [if_neg c, decide_eq_false c]; rfl
theorem lwq_L {S2 : QS} {k y : Int32} (h : k = 0 → S2.2 67 = y.toInt64) : (if k = 0 then (if (lg_cmp (S2.2 67) y.toInt64) = 0 then (some S2) else (none)) else (some S2)) = some S2 := by
  by_cases c : k = 0
  · rw [if_pos c, h c, if_pos (cmp_self _)]
  · rw [if_neg c]
theorem lwq_Z {S2 : QS} {k y : Int32} (h : k = 0 → S2.2 67 = y.toInt64 ∧ (y = 0 ∨ y = 1)) : (if k = 0 then (((if y = 0 then (some 0) else (some 1)) : Option Int64).bind fun q17 => if (lg_cmp (S2.2 67) q17) = 0 then (some S2) else (none)) else (some S2)) = some S2 := by
  by_cases c : k = 0
  · obtain ⟨h1, h2⟩ := h c
    rw [if_pos c, h1]
    rcases h2 with rfl | rfl
    · rw [if_pos rfl, ob]
      rfl
    · rw [if_neg (by decide), ob]
      rfl
  · rw [if_neg c]
theorem rdx1 {L : Nat} {xs : Nat → Int32} {i : Nat} (h : i + 7 ≤ L) (hL : L ≤ 100000) : rdX L xs (iv (i : Int) + 1) = some (xs (i + 1)) := rdx 1 (by omega) hL
theorem rdx2 {L : Nat} {xs : Nat → Int32} {i : Nat} (h : i + 7 ≤ L) (hL : L ≤ 100000) : rdX L xs (iv (i : Int) + 2) = some (xs (i + 2)) := rdx 2 (by omega) hL
theorem rdx3 {L : Nat} {xs : Nat → Int32} {i : Nat} (h : i + 7 ≤ L) (hL : L ≤ 100000) : rdX L xs (iv (i : Int) + 3) = some (xs (i + 3)) := rdx 3 (by omega) hL
theorem rdx4 {L : Nat} {xs : Nat → Int32} {i : Nat} (h : i + 7 ≤ L) (hL : L ≤ 100000) : rdX L xs (iv (i : Int) + 4) = some (xs (i + 4)) := rdx 4 (by omega) hL
theorem rdx5 {L : Nat} {xs : Nat → Int32} {i : Nat} (h : i + 7 ≤ L) (hL : L ≤ 100000) : rdX L xs (iv (i : Int) + 5) = some (xs (i + 5)) := rdx 5 (by omega) hL
theorem rdx6 {L : Nat} {xs : Nat → Int32} {i : Nat} (h : i + 7 ≤ L) (hL : L ≤ 100000) : rdX L xs (iv (i : Int) + 6) = some (xs (i + 6)) := rdx 6 (by omega) hL
theorem law_0 {L : Nat} {xs : Nat → Int32} {i : Nat} (hi : i + 7 ≤ L) (hL : L ≤ 100000) {S : QS} (hI : Inv S) : ∃ S1, st_law_0 L xs (iv (i : Int)) S = some S1 ∧ Inv S1 := by
  obtain ⟨V, h⟩ := hI
  obtain ⟨k, S1, S2, e1, e2, e3, e4⟩ := b_mass h (xs (i + 1)) (xs (i + 2))
  refine ⟨S2, ?_, e4⟩
  unfold st_law_0
  rw [rdx1 hi hL, ob, rdx2 hi hL, ob, e1, ob, ob, ob]
  show ((f_X6_mass (xs (i + 1)) (xs (i + 2)) S1).bind _) = _
  rw [e2, ob]
  show (if S2.1 48 0 = k then (some S2) else (none)) = _
  rw [if_pos e3]
theorem law_1 {L : Nat} {xs : Nat → Int32} {i : Nat} (hi : i + 7 ≤ L) (hL : L ≤ 100000) {S : QS} (hI : Inv S) : ∃ S1, st_law_1 L xs (iv (i : Int)) S = some S1 ∧ Inv S1 := by
  obtain ⟨V, h⟩ := hI
  obtain ⟨k, S1, y, S2, e1, e2, e3, e4, e5⟩ := b_skid h (xs (i + 1)) (!decide (xs (i + 2) = 0)) (xs (i + 3)) (xs (i + 4)) (xs (i + 5)) (xs (i + 6))
  refine ⟨S2, ?_, e5⟩
  unfold st_law_1
  rw [rdx1 hi hL, ob, rdx2 hi hL, ob, zb2, ob, rdx3 hi hL, ob, rdx4 hi hL, ob, rdx5 hi hL, ob, rdx6 hi hL, ob, e1, ob, ob, ob, zb2, ob, ob, ob, ob, ob]
  show ((f_X6_skid (xs (i + 1)) (b2 (!decide (xs (i + 2) = 0))) (xs (i + 3)) (xs (i + 4)) (xs (i + 5)) (xs (i + 6)) S1).bind _) = _
  rw [e2, ob]
  show (if S2.1 48 0 = k then _ else (none)) = _
  rw [if_pos e3]
  exact lwq_L e4
theorem law_2 {L : Nat} {xs : Nat → Int32} {i : Nat} (hi : i + 7 ≤ L) (hL : L ≤ 100000) {S : QS} (hI : Inv S) : ∃ S1, st_law_2 L xs (iv (i : Int)) S = some S1 ∧ Inv S1 := by
  obtain ⟨V, h⟩ := hI
  obtain ⟨k, S1, y, S2, e1, e2, e3, e4, e5⟩ := b_drop h (xs (i + 1)) (!decide (xs (i + 2) = 0))
  refine ⟨S2, ?_, e5⟩
  unfold st_law_2
  rw [rdx1 hi hL, ob, rdx2 hi hL, ob, zb2, ob, e1, ob, ob, ob, zb2, ob]
  show ((f_X6_drop (xs (i + 1)) (b2 (!decide (xs (i + 2) = 0))) S1).bind _) = _
  rw [e2, ob]
  show (if S2.1 48 0 = k then _ else (none)) = _
  rw [if_pos e3]
  exact lwq_Z e4
theorem law_3 {L : Nat} {xs : Nat → Int32} {i : Nat} (hi : i + 7 ≤ L) (hL : L ≤ 100000) {S : QS} (hI : Inv S) : ∃ S1, st_law_3 L xs (iv (i : Int)) S = some S1 ∧ Inv S1 := by
  obtain ⟨V, h⟩ := hI
  obtain ⟨k, S1, S2, e1, e2, e3, e4⟩ := b_sure h (xs (i + 1)) (xs (i + 2)) (xs (i + 3)) (xs (i + 4))
  refine ⟨S2, ?_, e4⟩
  unfold st_law_3
  rw [rdx1 hi hL, ob, rdx2 hi hL, ob, rdx3 hi hL, ob, rdx4 hi hL, ob, e1, ob, ob, ob, ob, ob]
  show ((f_X6_sure (xs (i + 1)) (xs (i + 2)) (xs (i + 3)) (xs (i + 4)) S1).bind _) = _
  rw [e2, ob]
  show (if S2.1 48 0 = k then (some S2) else (none)) = _
  rw [if_pos e3]
theorem law_4 {L : Nat} {xs : Nat → Int32} {i : Nat} (hi : i + 7 ≤ L) (hL : L ≤ 100000) {S : QS} (hI : Inv S) : ∃ S1, st_law_4 L xs (iv (i : Int)) S = some S1 ∧ Inv S1 := by
  obtain ⟨V, h⟩ := hI
  obtain ⟨k, S1, y, S2, e1, e2, e3, e4, e5⟩ := b_tale h (xs (i + 1)) (xs (i + 2)) (xs (i + 3)) (xs (i + 4))
  refine ⟨S2, ?_, e5⟩
  unfold st_law_4
  rw [rdx1 hi hL, ob, rdx2 hi hL, ob, rdx3 hi hL, ob, rdx4 hi hL, ob, e1, ob, ob, ob, ob, ob]
  show ((f_X6_tale (xs (i + 1)) (xs (i + 2)) (xs (i + 3)) (xs (i + 4)) S1).bind _) = _
  rw [e2, ob]
  show (if S2.1 48 0 = k then _ else (none)) = _
  rw [if_pos e3]
  exact lwq_L e4
theorem law_5 {L : Nat} {xs : Nat → Int32} {i : Nat} (hi : i + 7 ≤ L) (hL : L ≤ 100000) {S : QS} (hI : Inv S) : ∃ S1, st_law_5 L xs (iv (i : Int)) S = some S1 ∧ Inv S1 := by
  obtain ⟨V, h⟩ := hI
  obtain ⟨x, S1, S2, e1, e2, e3⟩ := b_hush h 
  refine ⟨S2, ?_, e3⟩
  unfold st_law_5
  rw [e1, ob]
  show ((f_X6_hush  S1).bind _) = _
  rw [e2, ob]
  rw [if_pos rfl]
theorem law_6 {L : Nat} {xs : Nat → Int32} {i : Nat} (hi : i + 7 ≤ L) (hL : L ≤ 100000) {S : QS} (hI : Inv S) : ∃ S1, st_law_6 L xs (iv (i : Int)) S = some S1 ∧ Inv S1 := by
  obtain ⟨V, h⟩ := hI
  obtain ⟨x, S1, S2, e1, e2, e3⟩ := b_ways h 
  refine ⟨S2, ?_, e3⟩
  unfold st_law_6
  rw [e1, ob]
  show ((f_X6_ways  S1).bind _) = _
  rw [e2, ob]
  rw [if_pos (cmp_self x)]
theorem law_7 {L : Nat} {xs : Nat → Int32} {i : Nat} (hi : i + 7 ≤ L) (hL : L ≤ 100000) {S : QS} (hI : Inv S) : ∃ S1, st_law_7 L xs (iv (i : Int)) S = some S1 ∧ Inv S1 := by
  obtain ⟨V, h⟩ := hI
  obtain ⟨k, S1, y, S2, e1, e2, e3, e4, e5⟩ := b_span h (xs (i + 1)) (xs (i + 2)) (!decide (xs (i + 3) = 0)) (!decide (xs (i + 4) = 0))
  refine ⟨S2, ?_, e5⟩
  unfold st_law_7
  rw [rdx1 hi hL, ob, rdx2 hi hL, ob, rdx3 hi hL, ob, zb2, ob, rdx4 hi hL, ob, zb2, ob, e1, ob, ob, ob, ob, zb2, ob, ob, zb2, ob]
  show ((f_X6_span (xs (i + 1)) (xs (i + 2)) (b2 (!decide (xs (i + 3) = 0))) (b2 (!decide (xs (i + 4) = 0))) S1).bind _) = _
  rw [e2, ob]
  show (if S2.1 48 0 = k then _ else (none)) = _
  rw [if_pos e3]
  exact lwq_L e4
theorem law_8 {L : Nat} {xs : Nat → Int32} {i : Nat} (hi : i + 7 ≤ L) (hL : L ≤ 100000) {S : QS} (hI : Inv S) : ∃ S1, st_law_8 L xs (iv (i : Int)) S = some S1 ∧ Inv S1 := by
  obtain ⟨V, h⟩ := hI
  obtain ⟨x, S1, S2, e1, e2, e3⟩ := b_fit h (xs (i + 1))
  refine ⟨S2, ?_, e3⟩
  unfold st_law_8
  rw [rdx1 hi hL, ob, e1, ob, ob]
  show ((f_X6_fit (xs (i + 1)) S1).bind _) = _
  rw [e2, ob]
  rw [if_pos rfl]
theorem law_9 {L : Nat} {xs : Nat → Int32} {i : Nat} (hi : i + 7 ≤ L) (hL : L ≤ 100000) {S : QS} (hI : Inv S) : ∃ S1, st_law_9 L xs (iv (i : Int)) S = some S1 ∧ Inv S1 := by
  obtain ⟨V, h⟩ := hI
  obtain ⟨x, S1, S2, e1, e2, e3⟩ := b_wrong h 
  refine ⟨S2, ?_, e3⟩
  unfold st_law_9
  rw [e1, ob]
  show ((f_X6_wrong  S1).bind _) = _
  rw [e2, ob]
  rw [if_pos rfl]
theorem law_10 {L : Nat} {xs : Nat → Int32} {i : Nat} (hi : i + 7 ≤ L) (hL : L ≤ 100000) {S : QS} (hI : Inv S) : ∃ S1, st_law_10 L xs (iv (i : Int)) S = some S1 ∧ Inv S1 := by
  obtain ⟨V, h⟩ := hI
  obtain ⟨x, S1, S2, e1, e2, e3⟩ := b_which h 
  refine ⟨S2, ?_, e3⟩
  unfold st_law_10
  rw [e1, ob]
  show ((f_X6_which  S1).bind _) = _
  rw [e2, ob]
  rw [if_pos rfl]
theorem law_11 {L : Nat} {xs : Nat → Int32} {i : Nat} (hi : i + 7 ≤ L) (hL : L ≤ 100000) {S : QS} (hI : Inv S) : ∃ S1, st_law_11 L xs (iv (i : Int)) S = some S1 ∧ Inv S1 := by
  obtain ⟨V, h⟩ := hI
  obtain ⟨x, S1, S2, e1, e2, e3⟩ := b_odds h 
  refine ⟨S2, ?_, e3⟩
  unfold st_law_11
  rw [e1, ob]
  show ((f_X6_odds  S1).bind _) = _
  rw [e2, ob]
  rw [if_pos rfl]
theorem law_12 {L : Nat} {xs : Nat → Int32} {i : Nat} (hi : i + 7 ≤ L) (hL : L ≤ 100000) {S : QS} (hI : Inv S) : ∃ S1, st_law_12 L xs (iv (i : Int)) S = some S1 ∧ Inv S1 := by
  obtain ⟨V, h⟩ := hI
  obtain ⟨k, S1, y, S2, e1, e2, e3, e4, e5⟩ := b_avoided h (xs (i + 1)) (xs (i + 2)) (xs (i + 3))
  refine ⟨S2, ?_, e5⟩
  unfold st_law_12
  rw [rdx1 hi hL, ob, rdx2 hi hL, ob, rdx3 hi hL, ob, e1, ob, ob, ob, ob]
  show ((f_X6_avoided (xs (i + 1)) (xs (i + 2)) (xs (i + 3)) S1).bind _) = _
  rw [e2, ob]
  show (if S2.1 48 0 = k then _ else (none)) = _
  rw [if_pos e3]
  exact lwq_L e4
theorem law_13 {L : Nat} {xs : Nat → Int32} {i : Nat} (hi : i + 7 ≤ L) (hL : L ≤ 100000) {S : QS} (hI : Inv S) : ∃ S1, st_law_13 L xs (iv (i : Int)) S = some S1 ∧ Inv S1 := by
  obtain ⟨V, h⟩ := hI
  obtain ⟨k, S1, y, S2, e1, e2, e3, e4, e5⟩ := b_look h (xs (i + 1)) (xs (i + 2))
  refine ⟨S2, ?_, e5⟩
  unfold st_law_13
  rw [rdx1 hi hL, ob, rdx2 hi hL, ob, e1, ob, ob, ob]
  show ((f_X6_look (xs (i + 1)) (xs (i + 2)) S1).bind _) = _
  rw [e2, ob]
  show (if S2.1 48 0 = k then _ else (none)) = _
  rw [if_pos e3]
  exact lwq_L e4
theorem law_14 {L : Nat} {xs : Nat → Int32} {i : Nat} (hi : i + 7 ≤ L) (hL : L ≤ 100000) {S : QS} (hI : Inv S) : ∃ S1, st_law_14 L xs (iv (i : Int)) S = some S1 ∧ Inv S1 := by
  obtain ⟨V, h⟩ := hI
  obtain ⟨k, S1, y, S2, e1, e2, e3, e4, e5⟩ := b_can h (xs (i + 1)) (xs (i + 2)) (xs (i + 3))
  refine ⟨S2, ?_, e5⟩
  unfold st_law_14
  rw [rdx1 hi hL, ob, rdx2 hi hL, ob, rdx3 hi hL, ob, e1, ob, ob, ob, ob]
  show ((f_X6_can (xs (i + 1)) (xs (i + 2)) (xs (i + 3)) S1).bind _) = _
  rw [e2, ob]
  show (if S2.1 48 0 = k then _ else (none)) = _
  rw [if_pos e3]
  exact lwq_Z e4
theorem law_15 {L : Nat} {xs : Nat → Int32} {i : Nat} (hi : i + 7 ≤ L) (hL : L ≤ 100000) {S : QS} (hI : Inv S) : ∃ S1, st_law_15 L xs (iv (i : Int)) S = some S1 ∧ Inv S1 := by
  obtain ⟨V, h⟩ := hI
  obtain ⟨x, S2, e1, e2, e3⟩ := b_count h (xs (i + 1))
  refine ⟨S2, ?_, e3⟩
  unfold st_law_15
  rw [rdx1 hi hL, ob, e1, ob, ob, e2, ob, if_pos rfl]
theorem law_st {L : Nat} {xs : Nat → Int32} {i : Nat} (hi : i + 7 ≤ L) (hL : L ≤ 100000) {S : QS} (hI : Inv S) (x : Int32) : ∃ S1, st_law L xs x (iv (i : Int)) S = some S1 ∧ Inv S1 := by
  unfold st_law
  by_cases c0 : x = 0
  · rw [if_pos c0]
    exact law_0 hi hL hI
  rw [if_neg c0]
  by_cases c1 : x = 1
  · rw [if_pos c1]
    exact law_1 hi hL hI
  rw [if_neg c1]
  by_cases c2 : x = 2
  · rw [if_pos c2]
    exact law_2 hi hL hI
  rw [if_neg c2]
  by_cases c3 : x = 3
  · rw [if_pos c3]
    exact law_3 hi hL hI
  rw [if_neg c3]
  by_cases c4 : x = 4
  · rw [if_pos c4]
    exact law_4 hi hL hI
  rw [if_neg c4]
  by_cases c5 : x = 5
  · rw [if_pos c5]
    exact law_5 hi hL hI
  rw [if_neg c5]
  by_cases c6 : x = 6
  · rw [if_pos c6]
    exact law_6 hi hL hI
  rw [if_neg c6]
  by_cases c7 : x = 7
  · rw [if_pos c7]
    exact law_7 hi hL hI
  rw [if_neg c7]
  by_cases c8 : x = 8
  · rw [if_pos c8]
    exact law_8 hi hL hI
  rw [if_neg c8]
  by_cases c9 : x = 9
  · rw [if_pos c9]
    exact law_9 hi hL hI
  rw [if_neg c9]
  by_cases c10 : x = 10
  · rw [if_pos c10]
    exact law_10 hi hL hI
  rw [if_neg c10]
  by_cases c11 : x = 11
  · rw [if_pos c11]
    exact law_11 hi hL hI
  rw [if_neg c11]
  by_cases c12 : x = 12
  · rw [if_pos c12]
    exact law_12 hi hL hI
  rw [if_neg c12]
  by_cases c13 : x = 13
  · rw [if_pos c13]
    exact law_13 hi hL hI
  rw [if_neg c13]
  by_cases c14 : x = 14
  · rw [if_pos c14]
    exact law_14 hi hL hI
  rw [if_neg c14]
  by_cases c15 : x = 15
  · rw [if_pos c15]
    exact law_15 hi hL hI
  rw [if_neg c15]
  exact ⟨S, rfl, hI⟩
theorem law_run {L : Nat} {xs : Nat → Int32} (hL : L ≤ 100000) : ∀ (d fuel i : Nat) (S : QS), d < fuel → i ≤ L → L < i + 7 * (d + 1) → Inv S → lp_law L xs fuel (iv (i : Int)) S = some () := by
  intro d
  induction d with
  | zero =>
    intro fuel i S h1 h2 h3 hI
    obtain ⟨f1, rfl⟩ : ∃ f1, fuel = f1 + 1 := ⟨fuel - 1, by omega⟩
    have e : Int32.ofNat L - 7 = iv ((L : Int) - 7) := by
      rw [show Int32.ofNat L = nI L from rfl, iv_nI, show (7 : Int32) = iv 7 from by decide, iv_sub]
    rw [lp_law, e, if_pos (y_lt (a := (L : Int) - 7) (b := (i : Int)) (by omega))]
  | succ d ih =>
    intro fuel i S h1 h2 h3 hI
    obtain ⟨f1, rfl⟩ : ∃ f1, fuel = f1 + 1 := ⟨fuel - 1, by omega⟩
    have e : Int32.ofNat L - 7 = iv ((L : Int) - 7) := by
      rw [show Int32.ofNat L = nI L from rfl, iv_nI, show (7 : Int32) = iv 7 from by decide, iv_sub]
    by_cases c : i + 7 ≤ L
    · have e0 : rdX L xs (iv (i : Int)) = some (xs i) := by
        have h := rdx (L := L) (xs := xs) (i := i) 0 (by omega) hL
        rw [iv_add] at h
        simpa using h
      obtain ⟨S1, q1, q2⟩ := law_st (xs := xs) c hL hI (xs i &&& 15)
      rw [lp_law, e, if_neg (n_lt (a := (L : Int) - 7) (b := (i : Int)) (by omega)), e0, ob, q1, ob, show iv (i : Int) + 7 = iv ((i + 7 : Nat) : Int) from by rw [show (7 : Int32) = iv 7 from by decide, iv_add]; rfl]
      exact ih f1 (i + 7) S1 (by omega) (by omega) (by omega) q2
    · rw [lp_law, e, if_pos (y_lt (a := (L : Int) - 7) (b := (i : Int)) (by omega))]
/-- what nobody has told anything of yet -/
def V0 : Vw := (fun _ => 10, fun _ => -50, fun _ => 50, 0, fun _ => (0, false, 0, 0, false), 0, fun _ => (0, 0, 0))
theorem inv_0 : Inv S0 := by
  refine ⟨V0, ⟨fun c _ => by show (1 : Int) ≤ 10 ∧ (10 : Int) ≤ 100; omega, fun r _ => by show (-50 : Int) ≤ -50 ∧ (-50 : Int) ≤ 50 ∧ (-50 : Int) ≤ 50 ∧ (50 : Int) ≤ 50; omega, Nat.zero_le _, fun s hs => absurd hs (Nat.not_lt_zero s), Nat.zero_le _, fun t ht => absurd ht (Nat.not_lt_zero t)⟩, ⟨⟨rfl, rfl⟩, fun r hr => ?_, rfl, rfl, fun s hs => absurd hs (Nat.not_lt_zero s), fun t ht => absurd ht (Nat.not_lt_zero t)⟩, Or.inl rfl, ⟨⟨rfl, rfl⟩, fun r hr => ?_, rfl, rfl, fun s hs => absurd hs (Nat.not_lt_zero s), fun s _ _ => rfl, fun t ht => absurd ht (Nat.not_lt_zero t)⟩, rfl⟩
  · rcases (show r = 0 ∨ r = 1 ∨ r = 2 ∨ r = 3 ∨ r = 4 ∨ r = 5 by omega) with rfl | rfl | rfl | rfl | rfl | rfl <;> exact ⟨rfl, rfl⟩
  · rcases (show r = 0 ∨ r = 1 ∨ r = 2 ∨ r = 3 ∨ r = 4 ∨ r = 5 by omega) with rfl | rfl | rfl | rfl | rfl | rfl <;> exact ⟨rfl, rfl⟩
theorem law_true {L : Nat} {xs : Nat → Int32} (hL : L ≤ 3584) : ∃ fuel, lp_law L xs fuel (nI 0) S0 = some () := by
  have h := law_run (L := L) (xs := xs) (by omega) L (L + 1) 0 S0 (by omega) (by omega) (by omega) inv_0
  exact ⟨L + 1, h⟩
