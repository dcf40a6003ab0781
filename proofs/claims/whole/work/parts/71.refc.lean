/-! THE REFERENCE: masks of one pair of AT -/
/-- what FIRST and AT of a car make false together -/
def MD (V : Vw) (c : Nat) (v : Int) (m : Nat) : Prop := lq V 0 (3 * c + 1) v = true ∧ ∃ f, (-50 ≤ f ∧ f ≤ 50) ∧ fq V 0 (-1) c f v = true ∧ m = fl V (3 * c) f ||| fl V (3 * c + 1) v
theorem or_1024 {x y : Nat} (hx : x < 1024) (hy : y < 1024) : x ||| y < 1024 := Nat.or_lt_two_pow (n := 10) hx hy
theorem MD_lt {V : Vw} (hV : VOk V) {c : Nat} {v : Int} {m : Nat} (h : MD V c v m) : m < 1024 := by
  obtain ⟨-, f, -, -, rfl⟩ := h
  exact or_1024 (fl_lt hV _ _) (fl_lt hV _ _)
def MkAt (V : Vw) (S : QS) (c : Nat) (v : Int) : Prop := ∃ n : Nat, n ≤ 101 ∧ S.1 66 (cx c v) = iv (n : Int) ∧ (∀ i, i < n → ∃ m, MD V c v m ∧ S.1 65 (101 * cx c v + i) = nI m) ∧ ∀ m, MD V c v m → ∃ i, i < n ∧ S.1 65 (101 * cx c v + i) = nI m
theorem MkAt.fr {V : Vw} {S S1 : QS} {c : Nat} {v : Int} (h : MkAt V S c v) (h66 : S1.1 66 (cx c v) = S.1 66 (cx c v)) (h65 : ∀ i, i < 101 → S1.1 65 (101 * cx c v + i) = S.1 65 (101 * cx c v + i)) : MkAt V S1 c v := by
  obtain ⟨n, h1, h2, h3, h4⟩ := h
  refine ⟨n, h1, by rw [h66]; exact h2, fun i hi => ?_, fun m hm => ?_⟩
  · rw [h65 i (by omega)]
    exact h3 i hi
  · obtain ⟨i, hi, q⟩ := h4 m hm
    exact ⟨i, hi, by rw [h65 i (by omega)]; exact q⟩
def MkOk (V : Vw) (S : QS) : Prop := ∀ c, c < 2 → ∀ v, -50 ≤ v → v ≤ 50 → MkAt V S c v
theorem MkOk.fr {V : Vw} {S S1 : QS} (h : MkOk V S) (h65 : S1.1 65 = S.1 65) (h66 : S1.1 66 = S.1 66) : MkOk V S1 := fun c hc v h1 h2 => (h c hc v h1 h2).fr (by rw [h66]) (fun i _ => by rw [h65])
theorem r_masks {V : Vw} (hV : VOk V) {S : QS} (hk : MkOk V S) {a b : Int} (ha : -50 ≤ a ∧ a ≤ 50) (hb : -50 ≤ b ∧ b ≤ 50) {more : Nat} (hm : more < 1024) {Q : Nat → Prop} (hQ : ∀ m, m < 1024 → Flag (S.1 63 m) (Q m)) :
    ∃ S1, f_X6_masks (iv a) (iv b) (nI more) S = some S1 ∧ Fr [63] S S1 ∧ ∀ m, m < 1024 → Flag (S1.1 63 m) (Q m ∨ ∃ x y, MD V 0 a x ∧ MD V 1 b y ∧ m = (x ||| y) ||| more) := by
  obtain ⟨n0, hn0, e66a, g0, g0'⟩ := hk 0 (by decide) a ha.1 ha.2
  obtain ⟨n1, hn1, e66b, g1, g1'⟩ := hk 1 (by decide) b hb.1 hb.2
  have ia : (a + 50).toNat = cx 0 a := by unfold cx ix; omega
  have ib : (101 + b + 50).toNat = cx 1 b := by unfold cx ix; omega
  have la : cx 0 a ≤ 100 := by unfold cx ix; omega
  have lb : cx 1 b ≤ 201 := by unfold cx ix; omega
  have row : ∀ (i : Nat), i < n0 → ∀ (S : QS), MkOk V S → S.1 66 (cx 1 b) = iv (n1 : Int) → (∀ j, j < n1 → ∃ m, MD V 1 b m ∧ S.1 65 (101 * cx 1 b + j) = nI m) → (∀ m, MD V 1 b m → ∃ j, j < n1 ∧ S.1 65 (101 * cx 1 b + j) = nI m) →
      ∀ (x : Nat), x < 1024 → S.1 65 (101 * cx 0 a + i) = nI x → ∀ (Q : Nat → Prop), (∀ m, m < 1024 → Flag (S.1 63 m) (Q m)) →
      ∃ S1, lp_X6_masks_33 (iv a) (iv b) (nI more) (iv (i : Int)) FU 0 S = some S1 ∧ Fr [63] S S1 ∧ ∀ m, m < 1024 → Flag (S1.1 63 m) (Q m ∨ ∃ y, MD V 1 b y ∧ m = (x ||| y) ||| more) := by
    intro i hi S hkS e66 h1 h1' x hx ex Q hQ
    have main := loopN (fun fuel v s => lp_X6_masks_33 (iv a) (iv b) (nI more) (iv (i : Int)) fuel v s) id (fun n s => Fr [63] S s ∧ ∀ m, m < 1024 → Flag (s.1 63 m) (Q m ∨ ∃ j, j < n ∧ ∃ y, MD V 1 b y ∧ S.1 65 (101 * cx 1 b + j) = nI y ∧ m = (x ||| y) ||| more)) n1 (by omega)
      (fun fuel s hI => by
        show lp_X6_masks_33 (iv a) (iv b) (nI more) (iv (i : Int)) (fuel + 1) (iv (n1 : Int)) s = some s
        rw [lp_X6_masks_33, c_101, c_50, iv_add, iv_add, rd_iv (by omega), ob, ib, hI.1.1 66 (by decide), e66, if_pos (y_le (a := (n1 : Int)) (b := (n1 : Int)) (Int.le_refl _))])
      (fun fuel j s hlt hI => by
        obtain ⟨i1, i2⟩ := hI
        obtain ⟨y, y1, y2⟩ := h1 j hlt
        have hy := MD_lt hV y1
        have hz : (x ||| y) ||| more < 1024 := or_1024 (or_1024 hx hy) hm
        refine ⟨setF 63 ((x ||| y) ||| more) 1 s, ?_, i1.tr (Fr.set (by decide)), fun m hm2 => ?_⟩
        · show lp_X6_masks_33 (iv a) (iv b) (nI more) (iv (i : Int)) (fuel + 1) (iv (j : Int)) s = lp_X6_masks_33 (iv a) (iv b) (nI more) (iv (i : Int)) fuel (iv ((j + 1 : Nat) : Int)) _
          have p1 : (101 * (a + 50) + (i : Int)).toNat = 101 * cx 0 a + i := by unfold cx ix; omega
          have p2 : (101 * (101 + b + 50) + (j : Int)).toNat = 101 * cx 1 b + j := by unfold cx ix; omega
          rw [lp_X6_masks_33, c_101, c_50, iv_add, iv_add, rd_iv (by omega), ob, ib, i1.1 66 (by decide), e66, if_neg (n_le (a := (n1 : Int)) (b := (j : Int)) (by omega)), iv_add, iv_mul, iv_add, rd_iv (by omega), ob, iv_mul, iv_add, rd_iv (by omega), ob, p1, p2, i1.1 65 (by decide), ex, y2, fa_or, fa_or, iv_nI, wz_iv (by omega) (Or.inr rfl), ob, Int.toNat_natCast, iv_one]
          rfl
        · refine (Flag.set (i2 m hm2) (c := m = (x ||| y) ||| more) inferInstance (y := (setF 63 ((x ||| y) ||| more) 1 s).1 63 m) ?_ (Q := m = (x ||| y) ||| more) Iff.rfl).cg ?_
          · rw [st_1]
            by_cases c : m = (x ||| y) ||| more
            · rw [if_pos ⟨rfl, c⟩, if_pos c]
            · rw [if_neg (fun z => c z.2), if_neg c]
          · constructor
            · rintro ((q | ⟨j2, q1, q2⟩) | q)
              · exact Or.inl q
              · exact Or.inr ⟨j2, by omega, q2⟩
              · exact Or.inr ⟨j, by omega, y, y1, y2, q⟩
            · rintro (q | ⟨j2, q1, y3, q2, q3, q4⟩)
              · exact Or.inl (Or.inl q)
              · by_cases c : j2 = j
                · subst c
                  have e : y3 = y := by
                    have h3 := MD_lt hV q2
                    rw [q3] at y2
                    exact (nI_eq (by omega) (by omega)).mp y2
                  subst e
                  exact Or.inr q4
                · exact Or.inl (Or.inr ⟨j2, by omega, y3, q2, q3, q4⟩))
      S ⟨Fr.rf, fun m hm2 => (hQ m hm2).cg ⟨Or.inl, fun z => z.elim id (fun ⟨j, q, _⟩ => absurd q (Nat.not_lt_zero _))⟩⟩
    obtain ⟨S1, e, i1, i2⟩ := main
    refine ⟨S1, by rw [c_0]; exact e, i1, fun m hm2 => (i2 m hm2).cg ?_⟩
    constructor
    · rintro (q | ⟨j, q1, y, q2, q3, q4⟩)
      · exact Or.inl q
      · exact Or.inr ⟨y, q2, q4⟩
    · rintro (q | ⟨y, q1, q2⟩)
      · exact Or.inl q
      · obtain ⟨j, j1, j2⟩ := h1' y q1
        exact Or.inr ⟨j, j1, y, q1, j2, q2⟩
  have main := loopN (fun fuel v s => lp_X6_masks_18 (iv a) (iv b) (nI more) fuel v s) id (fun n s => Fr [63] S s ∧ ∀ m, m < 1024 → Flag (s.1 63 m) (Q m ∨ ∃ i, i < n ∧ ∃ x, MD V 0 a x ∧ S.1 65 (101 * cx 0 a + i) = nI x ∧ ∃ y, MD V 1 b y ∧ m = (x ||| y) ||| more)) n0 (by omega)
    (fun fuel s hI => by
      show lp_X6_masks_18 (iv a) (iv b) (nI more) (fuel + 1) (iv (n0 : Int)) s = some s
      rw [lp_X6_masks_18, c_50, iv_add, rd_iv (by omega), ob, ia, hI.1.1 66 (by decide), e66a, if_pos (y_le (a := (n0 : Int)) (b := (n0 : Int)) (Int.le_refl _))])
    (fun fuel i s hlt hI => by
      obtain ⟨i1, i2⟩ := hI
      obtain ⟨x, x1, x2⟩ := g0 i hlt
      have e65 : s.1 65 = S.1 65 := i1.1 65 (by decide)
      have e66 : s.1 66 = S.1 66 := i1.1 66 (by decide)
      obtain ⟨s1, e1, f1, h1⟩ := row i hlt s (hk.fr e65 e66) (by rw [e66]; exact e66b) (by rw [e65]; exact g1) (by rw [e65]; exact g1') x (MD_lt hV x1) (by rw [e65]; exact x2) _ i2
      refine ⟨s1, ?_, i1.tr f1, fun m hm2 => (h1 m hm2).cg ?_⟩
      · show lp_X6_masks_18 (iv a) (iv b) (nI more) (fuel + 1) (iv (i : Int)) s = lp_X6_masks_18 (iv a) (iv b) (nI more) fuel (iv ((i + 1 : Nat) : Int)) s1
        rw [lp_X6_masks_18, c_50, iv_add, rd_iv (by omega), ob, ia, e66, e66a, if_neg (n_le (a := (n0 : Int)) (b := (i : Int)) (by omega)), e1, ob, iv_one]
        rfl
      · constructor
        · rintro ((q | ⟨i2, q1, q2⟩) | ⟨y, q1, q2⟩)
          · exact Or.inl q
          · exact Or.inr ⟨i2, by omega, q2⟩
          · exact Or.inr ⟨i, by omega, x, x1, x2, y, q1, q2⟩
        · rintro (q | ⟨i2, q1, x3, q2, q3, y, q4, q5⟩)
          · exact Or.inl (Or.inl q)
          · by_cases c : i2 = i
            · subst c
              have e : x3 = x := by
                have h3 := MD_lt hV q2
                have h4 := MD_lt hV x1
                rw [q3] at x2
                exact (nI_eq (by omega) (by omega)).mp x2
              subst e
              exact Or.inr ⟨y, q4, q5⟩
            · exact Or.inl (Or.inr ⟨i2, by omega, x3, q2, q3, y, q4, q5⟩))
    S ⟨Fr.rf, fun m hm2 => (hQ m hm2).cg ⟨Or.inl, fun z => z.elim id (fun ⟨j, q, _⟩ => absurd q (Nat.not_lt_zero _))⟩⟩
  obtain ⟨S1, e, i1, i2⟩ := main
  refine ⟨S1, by unfold f_X6_masks; rw [c_0]; exact e, i1, fun m hm2 => (i2 m hm2).cg ?_⟩
  constructor
  · rintro (q | ⟨i, q1, x, q2, q3, y, q4, q5⟩)
    · exact Or.inl q
    · exact Or.inr ⟨x, y, q2, q4, q5⟩
  · rintro (q | ⟨x, y, q1, q2, q3⟩)
    · exact Or.inl q
    · obtain ⟨i, j1, j2⟩ := g0' x q1
      exact Or.inr ⟨i, j1, x, q1, j2, y, q2, q3⟩
