/-! THE REFERENCE: what skids take, FIRST that lead to AT, their counts -/
theorem sN_le (V : Vw) (w : Int) (c : Nat) (b : Bool) (n : Nat) : sNn V w c b n ≤ n := by
  have h := fb_sm_bound (f := fun s => if oq V w c b s then 1 else 0) (c := 1) (n := n) (fun k _ => by split <;> omega)
  unfold sNn
  omega
theorem r_takes {V : Vw} (hV : VOk V) {S : QS} (hM : MR V S) {c : Nat} (hc : c < 2) (b : Bool) {x w : Int} (hx : -1000000000 ≤ x ∧ x ≤ 1000000000) (hw : -1 ≤ w ∧ w ≤ 100) :
    f_X6_takes (iv (c : Int)) (b2 b) (iv x) (iv w) S = some (b2 (if b then tkB V w c x else tkA V w c x)) := by
  have hn := hV.2.2.1
  obtain ⟨-, -, h7, -, hS, -, -⟩ := hM
  have main := loopN (fun fuel t (s : Int32 × Int32 × Int32) => lp_X6_takes_12 (iv (c : Int)) (b2 b) (iv w) S fuel s.1 s.2.1 s.2.2 t) id (fun n s => s = (iv (sLn V w c b n), iv (sHn V w c b n), iv (sNn V w c b n : Int))) (vNs V) (by omega)
    (fun fuel s hI => by
      show lp_X6_takes_12 (iv (c : Int)) (b2 b) (iv w) S (fuel + 1) s.1 s.2.1 s.2.2 (iv (vNs V : Int)) = some s
      rw [lp_X6_takes_12, h7, if_pos (y_le (a := (vNs V : Int)) (b := (vNs V : Int)) (Int.le_refl _))])
    (fun fuel n s hlt hI => by
      have hI : s = (iv (sLn V w c b n), iv (sHn V w c b n), iv (sNn V w c b n : Int)) := hI
      subst hI
      obtain ⟨s0, s1, s2, s3, s4⟩ := hS n hlt
      have hk := hV.2.2.2.1 n hlt
      refine ⟨(iv (sLn V w c b (n + 1)), iv (sHn V w c b (n + 1)), iv (sNn V w c b (n + 1) : Int)), ?_, rfl⟩
      show lp_X6_takes_12 (iv (c : Int)) (b2 b) (iv w) S (fuel + 1) (iv (sLn V w c b n)) (iv (sHn V w c b n)) (iv (sNn V w c b n : Int)) (iv (n : Int)) = lp_X6_takes_12 (iv (c : Int)) (b2 b) (iv w) S fuel (iv (sLn V w c b (n + 1))) (iv (sHn V w c b (n + 1))) (iv (sNn V w c b (n + 1) : Int)) (iv ((n + 1 : Nat) : Int))
      have skip : oq V w c b n = false → lp_X6_takes_12 (iv (c : Int)) (b2 b) (iv w) S fuel (iv (sLn V w c b n)) (iv (sHn V w c b n)) (iv (sNn V w c b n : Int)) (iv (n : Int) + 1) = lp_X6_takes_12 (iv (c : Int)) (b2 b) (iv w) S fuel (iv (sLn V w c b (n + 1))) (iv (sHn V w c b (n + 1))) (iv (sNn V w c b (n + 1) : Int)) (iv ((n + 1 : Nat) : Int)) := fun h => by
        rw [sLn_s, sHn_s, sNn_s, h, if_neg (by decide), if_neg (by decide), if_neg (by decide), Int.add_zero, Int.add_zero, Nat.add_zero, iv_one]
        rfl
      rw [lp_X6_takes_12, h7, if_neg (n_le (a := (vNs V : Int)) (b := (n : Int)) (by omega)), rd_iv (by omega), ob, Int.toNat_natCast, s0]
      by_cases q1 : kCar V n = c
      · rw [if_pos (by rw [q1]), rd_iv (by omega), ob, Int.toNat_natCast, s1]
        by_cases q2 : kBeh V n = b
        · rw [if_pos (by rw [q2]), rd_iv (by omega), ob, Int.toNat_natCast, s4]
          cases q3 : kOn V n with
          | false =>
            rw [if_neg (by decide)]
            exact skip (by simp [oq, q3])
          | true =>
            rw [if_pos (by decide)]
            by_cases q4 : (n : Int) = w
            · rw [if_pos (by rw [q4])]
              exact skip (by simp [oq, q4])
            · have ho : oq V w c b n = true := by simp [oq, q1, q2, q3, q4]
              rw [if_neg (n_eq (a := (n : Int)) (b := w) q4), rd_iv (by omega), ob, rd_iv (by omega), ob, Int.toNat_natCast, s2, s3, sLn_s, sHn_s, sNn_s, ho, if_pos rfl, if_pos rfl, if_pos rfl, iv_add, iv_add, iv_one, iv_one]
              rfl
        · rw [if_neg (fun z => q2 (by cases h1 : kBeh V n <;> cases h2 : b <;> simp_all [b2]))]
          exact skip (by
            have e : (kBeh V n == b) = false := by cases h1 : kBeh V n <;> cases h2 : b <;> simp_all
            unfold oq
            rw [e, Bool.and_false, Bool.and_false, Bool.and_false])
      · rw [if_neg (n_eq (a := (kCar V n : Int)) (b := (c : Int)) (by omega))]
        exact skip (by
          have e : decide (kCar V n = c) = false := decide_eq_false q1
          unfold oq
          rw [e, Bool.false_and, Bool.and_false, Bool.and_false]))
    (0, 0, 0) rfl
  obtain ⟨s1, e1, i1⟩ := main
  have i1 : s1 = (iv (sL V w c b), iv (sH V w c b), iv (sN V w c b : Int)) := i1
  subst i1
  have b1 := sL_b hV w c b
  have b3 := sH_b hV w c b
  have b5 := sN_le V w c b (vNs V)
  have hct : ct_X6_takes_105 (iv x) (iv (sL V w c b), iv (sH V w c b), iv (sN V w c b : Int)) = some (b2 (decide (sL V w c b ≤ x) && decide (x ≤ sH V w c b))) := by
    unfold ct_X6_takes_105
    show (f_X6_in (iv x) (iv (sL V w c b)) (iv (sH V w c b))).bind _ = _
    rw [r_inv (by omega) (by omega) (by omega), ob]
    cases (decide (sL V w c b ≤ x) && decide (x ≤ sH V w c b)) with
    | false => rfl
    | true => rfl
  unfold f_X6_takes
  have e1 : lp_X6_takes_12 (iv (c : Int)) (b2 b) (iv w) S FU 0 0 0 0 = some (iv (sL V w c b), iv (sH V w c b), iv (sN V w c b : Int)) := e1
  rw [e1, ob]
  cases b with
  | false =>
    rw [if_pos (by decide), hct, if_neg (by decide)]
    rfl
  | true =>
    rw [if_neg (by decide), if_pos (rfl : true = true)]
    show (if iv (sN V w c true : Int) = 0 then some 1 else _) = _
    unfold tkB
    have b5 : sN V w c true ≤ vNs V := b5
    by_cases q : sN V w c true = 0
    · rw [if_pos (by rw [q]; rfl), decide_eq_true q, Bool.true_or]
      rfl
    · rw [if_neg (by rw [c_0]; exact n_eq (by omega)), hct, decide_eq_false q, Bool.false_or]
theorem r_isFirst {V : Vw} (hV : VOk V) {S : QS} (hM : MR V S) {c : Nat} (hc : c < 2) {f a w : Int} (hf : -50 ≤ f ∧ f ≤ 50) (ha : -50 ≤ a ∧ a ≤ 50) (hw : -1 ≤ w ∧ w ≤ 100) {set : Nat} (hl : S.1 60 (cx (3 * c) f) = b2 (lq V set (3 * c) f)) :
    f_X6_isFirst (iv (c : Int)) (iv f) (iv a) (iv w) S = some (b2 (fq V set w c f a)) := by
  have q : ((if iv a ≤ 0 then (if 0 ≤ iv a then (if iv f < 0 then (some 0) else (some 1)) else (if 0 ≤ iv f then (some 0) else (some 1))) else (if iv f ≤ 0 then (some 0) else (some 1))) : Option (Int32)) = some (b2 (sgq f a)) := by
    unfold sgq
    rw [c_0]
    by_cases h1 : 0 < a
    · rw [if_neg (n_le (a := a) (b := 0) h1), if_pos h1]
      by_cases h2 : 0 < f
      · rw [if_neg (n_le (a := f) (b := 0) h2), decide_eq_true h2]; rfl
      · rw [if_pos (y_le (a := f) (b := 0) (by omega)), decide_eq_false h2]; rfl
    · rw [if_pos (y_le (a := a) (b := 0) (by omega)), if_neg h1]
      by_cases h3 : a < 0
      · rw [if_neg (n_le (a := 0) (b := a) h3), if_pos h3]
        by_cases h2 : f < 0
        · rw [if_neg (n_le (a := 0) (b := f) h2), decide_eq_true h2]; rfl
        · rw [if_pos (y_le (a := 0) (b := f) (by omega)), decide_eq_false h2]; rfl
      · rw [if_pos (y_le (a := 0) (b := a) (by omega)), if_neg h3]
        by_cases h2 : f < 0
        · rw [if_pos (y_lt (a := f) (b := 0) h2), decide_eq_false (show ¬ 0 ≤ f by omega)]; rfl
        · rw [if_neg (n_lt (a := f) (b := 0) (by omega)), decide_eq_true (show 0 ≤ f by omega)]; rfl
  have sf := sq_b hf
  have sa := sq_b ha
  unfold f_X6_isFirst
  rw [q, ob]
  unfold fq
  cases sgq f a with
  | false => rw [if_pos (by decide), Bool.false_and]; rfl
  | true =>
    rw [if_neg (by decide), row0, r_cell, ob, rdC (by omega) hf, ob, hl, Bool.true_and]
    cases lq V set (3 * c) f with
    | false => rw [if_pos (by decide), Bool.false_and]; rfl
    | true =>
      have ht := r_takes hV hM hc false (x := 51 * (f * f - a * a)) (w := w) (by omega) hw
      rw [if_neg (by decide), c_51, iv_mul, iv_mul, iv_sub, iv_mul, show (0 : Int32) = b2 false from rfl, ht, ob, Bool.true_and, if_neg (by decide : ¬ (false = true))]
      cases tkA V w c (51 * (f * f - a * a)) with
      | false => rfl
      | true => rfl
theorem r_count {V : Vw} (hV : VOk V) {S : QS} (hM : MR V S) {c : Nat} (hc : c < 2) {a w : Int} (ha : -50 ≤ a ∧ a ≤ 50) (hw : -1 ≤ w ∧ w ≤ 100) {set : Nat} (hl0 : ∀ f, -50 ≤ f → f ≤ 50 → S.1 60 (cx (3 * c) f) = b2 (lq V set (3 * c) f)) (hl1 : S.1 60 (cx (3 * c + 1) a) = b2 (lq V set (3 * c + 1) a)) :
    lp_X6_counts_23 (iv w) (iv (c : Int)) (iv a) S FU 0 (-50) = some (iv (nq V set w c a : Int)) := by
  unfold nq
  cases hl : lq V set (3 * c + 1) a with
  | false =>
    show lp_X6_counts_23 (iv w) (iv (c : Int)) (iv a) S (1099 + 1) 0 (-50) = _
    rw [lp_X6_counts_23, if_neg (by decide), row1, r_cell, ob, rdC (by omega) ha, ob, hl1, hl, if_pos (by decide), if_neg (by decide)]
    rfl
  | true =>
    rw [if_pos (rfl : true = true)]
    have main := loop50 (fun fuel v s => lp_X6_counts_23 (iv w) (iv (c : Int)) (iv a) S fuel s v) id (fun v s => s = iv (smv (fun f => if fq V set w c f a then 1 else 0) v : Int))
      (fun fuel s => by
        show lp_X6_counts_23 (iv w) (iv (c : Int)) (iv a) S (fuel + 1) s (iv 51) = some s
        rw [lp_X6_counts_23, if_pos gt50])
      (fun fuel v s h3 h4 hI => by
        have hI : s = iv (smv (fun f => if fq V set w c f a then 1 else 0) v : Int) := hI
        subst hI
        refine ⟨iv (smv (fun f => if fq V set w c f a then 1 else 0) (v + 1) : Int), ?_, rfl⟩
        show lp_X6_counts_23 (iv w) (iv (c : Int)) (iv a) S (fuel + 1) (iv (smv (fun f => if fq V set w c f a then 1 else 0) v : Int)) (iv v) = lp_X6_counts_23 (iv w) (iv (c : Int)) (iv a) S fuel (iv (smv (fun f => if fq V set w c f a then 1 else 0) (v + 1) : Int)) (iv (v + 1))
        rw [lp_X6_counts_23, if_neg (hi50 h4), row1, r_cell, ob, rdC (by omega) ha, ob, hl1, hl, if_neg (by decide), r_isFirst hV hM hc ⟨h3, h4⟩ ha hw (hl0 v h3 h4), ob, smv_s _ h3, iv_one]
        cases fq V set w c v a with
        | false => rw [if_pos (by decide), ob, c_0, iv_add, if_neg (by decide)]; rfl
        | true => rw [if_neg (by decide), ob, c_1, iv_add, if_pos rfl]; rfl)
      0 rfl
    obtain ⟨s1, e1, i1⟩ := main
    have i1 : s1 = iv (sm (fun f => if fq V set w c f a then 1 else 0) : Int) := i1
    subst i1
    rw [c_m50]
    exact e1
/-- how far the counts are -/
def KC (V : Vw) (set : Nat) (w : Int) (c : Nat) (v : Int) (s : QS) : Prop := (∀ d, d < 2 → ∀ u, -50 ≤ u → u ≤ 50 → (d < c ∨ (d = c ∧ u < v)) → s.1 62 (cx d u) = iv (nq V set w d u : Int) ∧ s.1 60 (cx (3 * d + 2) u) = b2 (aq V set w d u)) ∧
  ∀ r, r < 6 → ∀ u, -50 ≤ u → u ≤ 50 → (r % 3 ≠ 2 ∨ ¬ (r / 3 < c ∨ (r / 3 = c ∧ u < v))) → s.1 60 (cx r u) = b2 (lq V set r u)
theorem r_countsCar {V : Vw} (hV : VOk V) {S : QS} (hM : MR V S) {c : Nat} (hc : c < 2) {w : Int} (hw : -1 ≤ w ∧ w ≤ 100) {set : Nat} (hK : KC V set w c (-50) S) :
    ∃ S1, lp_X6_counts_10 (iv w) (iv (c : Int)) FU (-50) S = some S1 ∧ Fr [60, 62] S S1 ∧ KC V set w (c + 1) (-50) S1 := by
  have main := loop50 (fun fuel v s => lp_X6_counts_10 (iv w) (iv (c : Int)) fuel v s) id (fun v s => Fr [60, 62] S s ∧ KC V set w c v s)
    (fun fuel s => by
      show lp_X6_counts_10 (iv w) (iv (c : Int)) (fuel + 1) (iv 51) s = some s
      rw [lp_X6_counts_10, if_pos gt50])
    (fun fuel v s h3 h4 hI => by
      obtain ⟨i1, i2, i3⟩ := hI
      have hv : -50 ≤ v ∧ v ≤ 50 := ⟨h3, h4⟩
      have hM1 : MR V s := hM.fr i1 (by decide)
      have hnq : nq V set w c v ≤ 101 := na_le
      have hsq := sq_b hv
      have e51 : 51 * v * v = 51 * (v * v) := Int.mul_assoc _ _ _
      obtain ⟨s1, hs1⟩ : ∃ s1, s1 = setF 62 (cx c v) (iv (nq V set w c v : Int)) s := ⟨_, rfl⟩
      have f1 : Fr [60, 62] s s1 := by rw [hs1]; exact Fr.set (by decide)
      have hM2 : MR V s1 := hM1.fr f1 (by decide)
      have e60 : s1.1 60 = s.1 60 := by rw [hs1, st_nek (by decide)]
      have hcnt := r_count (set := set) hV hM1 hc hv hw (fun f h1 h2 => i3 (3 * c) (by omega) f h1 h2 (by omega)) (i3 (3 * c + 1) (by omega) v h3 h4 (by omega))
      have hold := i3 (3 * c + 2) (by omega) v h3 h4 (by omega)
      refine ⟨setF 60 (cx (3 * c + 2) v) (b2 (aq V set w c v)) s1, ?_, (i1.tr f1).tr (Fr.set (by decide)), ?_, ?_⟩
      · show lp_X6_counts_10 (iv w) (iv (c : Int)) (fuel + 1) (iv v) s = lp_X6_counts_10 (iv w) (iv (c : Int)) fuel (iv (v + 1)) _
        have q : (if b2 (lq V set (3 * c + 2) v) = 0 then (some 0) else ((f_X6_takes (iv (c : Int)) 1 ((51 * iv v) * iv v) (iv w) s1).bind fun v24 => if v24 = 0 then (some 0) else (some 1))) = some (b2 (aq V set w c v)) := by
          unfold aq
          cases lq V set (3 * c + 2) v with
          | false => rw [if_pos (by decide), Bool.false_and]; rfl
          | true =>
            have ht := r_takes hV hM2 hc true (x := 51 * v * v) (w := w) (by omega) hw
            rw [if_neg (by decide), c_51, iv_mul, iv_mul, show (1 : Int32) = b2 true from rfl, ht, ob, Bool.true_and, if_pos (rfl : true = true)]
            cases tkB V w c (51 * v * v) with
            | false => rfl
            | true => rfl
        rw [lp_X6_counts_10, if_neg (hi50 h4), hcnt, ob, c_101, c_50, iv_mul, iv_add, iv_add, wr_iv (by omega), ob, cx_to hv, ← hs1, row2, r_cell, ob, rdC (by omega) hv, ob, e60, hold, q, ob, wzC (by omega) hv (b2_or _), ob, iv_one]
      · intro d hd u h1 h2 h5
        by_cases e : d = c ∧ u = v
        · obtain ⟨rfl, rfl⟩ := e
          exact ⟨by rw [st_nek (by decide), hs1, st_eq], st_eq _ _ _ _⟩
        · have n1 : cx d u ≠ cx c v := cx_ne ⟨h1, h2⟩ hv (by omega)
          have n2 : cx (3 * d + 2) u ≠ cx (3 * c + 2) v := cx_ne ⟨h1, h2⟩ hv (by omega)
          obtain ⟨j1, j2⟩ := i2 d hd u h1 h2 (by omega)
          exact ⟨by rw [st_nek (by decide), hs1, st_nej n1]; exact j1, by rw [st_nej n2, e60]; exact j2⟩
      · intro r hr u h1 h2 h5
        have n2 : cx r u ≠ cx (3 * c + 2) v := cx_ne ⟨h1, h2⟩ hv (by omega)
        rw [st_nej n2, e60]
        exact i3 r hr u h1 h2 (by omega))
    S ⟨Fr.rf, hK⟩
  obtain ⟨S1, e, i1, i2, i3⟩ := main
  exact ⟨S1, by rw [c_m50]; exact e, i1, fun d hd u h1 h2 h5 => i2 d hd u h1 h2 (by omega), fun r hr u h1 h2 h5 => i3 r hr u h1 h2 (by omega)⟩
theorem r_counts {V : Vw} (hV : VOk V) {S : QS} (hM : MR V S) {w : Int} (hw : -1 ≤ w ∧ w ≤ 100) {set : Nat} (hK : ∀ r, r < 6 → ∀ u, -50 ≤ u → u ≤ 50 → S.1 60 (cx r u) = b2 (lq V set r u)) :
    ∃ S1, f_X6_counts (iv w) S = some S1 ∧ Fr [60, 62] S S1 ∧ (∀ c, c < 2 → ∀ u, -50 ≤ u → u ≤ 50 → S1.1 62 (cx c u) = iv (nq V set w c u : Int) ∧ S1.1 60 (cx (3 * c + 2) u) = b2 (aq V set w c u)) ∧
      ∀ r, r < 6 → r % 3 ≠ 2 → ∀ u, -50 ≤ u → u ≤ 50 → S1.1 60 (cx r u) = b2 (lq V set r u) := by
  have k0 : KC V set w 0 (-50) S := ⟨fun d hd u h1 h2 h => by omega, fun r hr u h1 h2 _ => hK r hr u h1 h2⟩
  obtain ⟨s1, e1, f1, k1⟩ := r_countsCar hV hM (c := 0) (by decide) hw k0
  obtain ⟨s2, e2, f2, k2⟩ := r_countsCar hV (hM.fr f1 (by decide)) (c := 1) (by decide) hw k1
  refine ⟨s2, ?_, f1.tr f2, fun c hc u h1 h2 => k2.1 c hc u h1 h2 (by omega), fun r hr h3 u h1 h2 => k2.2 r hr u h1 h2 (Or.inl h3)⟩
  unfold f_X6_counts
  show lp_X6_counts_2 (iv w) (1099 + 1) 0 S = _
  rw [lp_X6_counts_2, if_neg (by decide), show (0 : Int32) = iv ((0 : Nat) : Int) from rfl, e1, ob]
  show lp_X6_counts_2 (iv w) (1098 + 1) (iv ((0 : Nat) : Int) + 1) s1 = _
  rw [lp_X6_counts_2, if_neg (by decide), show iv ((0 : Nat) : Int) + 1 = iv ((1 : Nat) : Int) from by decide, e2, ob]
  show lp_X6_counts_2 (iv w) (1097 + 1) (iv ((1 : Nat) : Int) + 1) s2 = _
  rw [lp_X6_counts_2, if_pos (by decide)]
