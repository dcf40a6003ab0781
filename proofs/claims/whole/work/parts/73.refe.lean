/-! THE REFERENCE: the three loops -/
theorem r_loopP {V : Vw} (hV : VOk V) {set : Nat} {w : Int} {wd : Bool} {S : QS} (hG : GM V set w wd S) {a b : Int} (ha : -50 ≤ a ∧ a ≤ 50) (hb : -50 ≤ b ∧ b ≤ 50) (hba : b < a) {T : Int → Int → Int → Prop} {n : Nat} (hA : AccM V wd T n S) :
    ∃ S1, lp_X6_goes_75 (iv a) (iv b) (iv (nq V set w 0 a : Int)) (iv (nq V set w 1 b : Int)) FU (-50) S = some S1 ∧ Fg S S1 ∧ AccM V wd (fun a2 b2 p2 => T a2 b2 p2 ∨ (a2 = a ∧ b2 = b ∧ (-50 ≤ p2 ∧ p2 ≤ 50) ∧ wq V set w a b p2 = true)) (n + sm (fun p => if wq V set w a b p then nT V set w a b else 0)) S1 := by
  have main := loop50 (fun fuel v s => lp_X6_goes_75 (iv a) (iv b) (iv (nq V set w 0 a : Int)) (iv (nq V set w 1 b : Int)) fuel v s) id
    (fun p s => Fg S s ∧ AccM V wd (fun a2 b2 p2 => T a2 b2 p2 ∨ (a2 = a ∧ b2 = b ∧ (-50 ≤ p2 ∧ p2 ≤ 50 ∧ p2 < p) ∧ wq V set w a b p2 = true)) (n + smv (fun p => if wq V set w a b p then nT V set w a b else 0) p) s)
    (fun fuel s => by
      show lp_X6_goes_75 (iv a) (iv b) (iv (nq V set w 0 a : Int)) (iv (nq V set w 1 b : Int)) (fuel + 1) (iv 51) s = some s
      rw [lp_X6_goes_75, if_pos gt50])
    (fun fuel p s h3 h4 hI => by
      obtain ⟨i1, i2⟩ := hI
      have hG1 := hG.fg i1
      have hp : -50 ≤ p ∧ p ≤ 50 := ⟨h3, h4⟩
      obtain ⟨st0, st1⟩ := r_step75 hV hG1 ha hb hba hp (na_le (V := V) (set := set) (w := w) (c := 0) (a := a)) (na_le (V := V) (set := set) (w := w) (c := 1) (a := b)) fuel
      have hS := smv_s (fun p => if wq V set w a b p then nT V set w a b else 0) h3
      cases hw : wq V set w a b p with
      | false =>
        refine ⟨s, st0 hw, i1, ?_⟩
        rw [hS, hw, if_neg (by decide), Nat.add_zero]
        refine i2.cg (fun a2 b2 p2 => ?_)
        constructor
        · rintro (q | ⟨q1, q2, q3, q4⟩)
          · exact Or.inl q
          · exact Or.inr ⟨q1, q2, ⟨q3.1, q3.2.1, by omega⟩, q4⟩
        · rintro (q | ⟨q1, q2, q3, q4⟩)
          · exact Or.inl q
          · have : p2 ≠ p := fun z => by rw [z, hw] at q4; cases q4
            exact Or.inr ⟨q1, q2, ⟨q3.1, q3.2.1, by omega⟩, q4⟩
      | true =>
        have hq : -50 ≤ qv V a b p ∧ qv V a b p ≤ 50 := by
          have h := hw
          unfold wq at h
          simp only [Bool.and_eq_true, decide_eq_true_eq] at h
          exact lq_50q hV h.2.2.2.2.1
        have fin : ∀ T2 : Int → Int → Int → Prop, ∀ m s1, AccM V wd (fun a2 b2 p2 => (T a2 b2 p2 ∨ (a2 = a ∧ b2 = b ∧ (-50 ≤ p2 ∧ p2 ≤ 50 ∧ p2 < p) ∧ wq V set w a b p2 = true)) ∨ (a2 = a ∧ b2 = b ∧ p2 = p)) m s1 → AccM V wd (fun a2 b2 p2 => T a2 b2 p2 ∨ (a2 = a ∧ b2 = b ∧ (-50 ≤ p2 ∧ p2 ≤ 50 ∧ p2 < p + 1) ∧ wq V set w a b p2 = true)) m s1 := fun T2 m s1 h => h.cg (fun a2 b2 p2 => by
          constructor
          · rintro ((q | ⟨q1, q2, q3, q4⟩) | ⟨q1, q2, q3⟩)
            · exact Or.inl q
            · exact Or.inr ⟨q1, q2, ⟨q3.1, q3.2.1, by omega⟩, q4⟩
            · subst q3
              exact Or.inr ⟨q1, q2, ⟨h3, h4, by omega⟩, hw⟩
          · rintro (q | ⟨q1, q2, q3, q4⟩)
            · exact Or.inl (Or.inl q)
            · by_cases c : p2 = p
              · exact Or.inr ⟨q1, q2, c⟩
              · exact Or.inl (Or.inr ⟨q1, q2, ⟨q3.1, q3.2.1, by omega⟩, q4⟩))
        have en : n + smv (fun p => if wq V set w a b p then nT V set w a b else 0) (p + 1) = n + smv (fun p => if wq V set w a b p then nT V set w a b else 0) p + nq V set w 0 a * nq V set w 1 b := by
          rw [hS, hw, if_pos rfl]
          exact (Nat.add_assoc _ _ _).symm
        obtain ⟨s1, hs1⟩ : ∃ s1, s1 = flg V a b p (setL 48 (s.2 48 + lN (nq V set w 0 a * nq V set w 1 b)) s) := ⟨_, rfl⟩
        have f1 : Fg s s1 := ⟨fun k k1 k2 => by rw [hs1, flg_ne k1, sl_1], fun k k1 _ => by rw [hs1]; exact sl_ne k1⟩
        have l1 : s1.2 48 = lN (n + smv (fun p => if wq V set w a b p then nT V set w a b else 0) p + nq V set w 0 a * nq V set w 1 b) := by
          rw [hs1, ← lN_add, ← i2.1]
          exact sl_eq 48 (s.2 48 + lN (nq V set w 0 a * nq V set w 1 b)) s
        have h61 : s1.1 61 = (flg V a b p s).1 61 := by rw [hs1]; rfl
        have e := st1 hw
        rw [hG1.2.2.1] at e
        cases wd with
        | false =>
          rw [if_pos (by decide)] at e
          refine ⟨s1, by rw [hs1]; exact e, i1.tr f1, ?_⟩
          rw [en]
          exact fin T _ _ (acc_way i2 ha hb hp hq l1 h61 (fun z => by cases z))
        | true =>
          rw [if_neg (by decide), ← hs1] at e
          obtain ⟨s2, e2, f2, g2⟩ := r_masks hV ((hG1.fg f1).2.2.2 rfl) ha hb (or_1024 (fl_lt hV 2 p) (fl_lt hV 5 (qv V a b p))) (Q := fun m => ∃ a2 b2 p2, (T a2 b2 p2 ∨ (a2 = a ∧ b2 = b ∧ (-50 ≤ p2 ∧ p2 ≤ 50 ∧ p2 < p) ∧ wq V set w a b p2 = true)) ∧ KM V a2 b2 p2 m) (fun m hm => by
            have h63 : s1.1 63 = s.1 63 := by rw [hs1, flg_ne (by decide), sl_1]
            rw [h63]
            exact i2.2.2 rfl m hm)
          rw [e2, ob] at e
          refine ⟨s2, e, (i1.tr f1).tr (Fg.of63 f2), ?_⟩
          rw [en]
          exact fin T _ _ (acc_way i2 ha hb hp hq (by rw [f2.2 48 (by decide)]; exact l1) (by rw [f2.1 61 (by decide)]; exact h61) (fun _ m hm => g2 m hm)))
    S ⟨Fg.rf, by
      rw [smv_0, Nat.add_zero]
      exact hA.cg (fun a2 b2 p2 => ⟨Or.inl, fun z => z.elim id (fun q => by omega)⟩)⟩
  obtain ⟨S1, e, i1, i2⟩ := main
  refine ⟨S1, by rw [c_m50]; exact e, i1, i2.cg (fun a2 b2 p2 => ?_)⟩
  constructor
  · rintro (q | ⟨q1, q2, q3, q4⟩)
    · exact Or.inl q
    · exact Or.inr ⟨q1, q2, ⟨q3.1, q3.2.1⟩, q4⟩
  · rintro (q | ⟨q1, q2, q3, q4⟩)
    · exact Or.inl q
    · exact Or.inr ⟨q1, q2, ⟨q3.1, q3.2, by omega⟩, q4⟩
theorem nT_le {V : Vw} {set : Nat} {w a b : Int} : nT V set w a b ≤ 10201 := by
  have h := Nat.mul_le_mul (na_le (V := V) (set := set) (w := w) (c := 0) (a := a)) (na_le (V := V) (set := set) (w := w) (c := 1) (a := b))
  unfold nT
  omega
theorem wq_lt {V : Vw} {set : Nat} {w a b p : Int} (h : ¬ b < a) : wq V set w a b p = false := by
  unfold wq
  rw [decide_eq_false h, Bool.false_and]
theorem r_loopB {V : Vw} (hV : VOk V) {set : Nat} {w : Int} {wd : Bool} {S : QS} (hG : GM V set w wd S) {a : Int} (ha : -50 ≤ a ∧ a ≤ 50) {T : Int → Int → Int → Prop} {n : Nat} (hA : AccM V wd T n S) :
    ∃ S1, lp_X6_goes_28 (iv a) FU (-50) S = some S1 ∧ Fg S S1 ∧ AccM V wd (fun a2 b2 p2 => T a2 b2 p2 ∨ (a2 = a ∧ TW V set w a b2 p2)) (n + sm (fun b => sm (fun p => if wq V set w a b p then nT V set w a b else 0))) S1 := by
  have main := up_loop (fun fuel v s => lp_X6_goes_28 (iv a) fuel v s) (fun b s => Fg S s ∧ AccM V wd (fun a2 b2 p2 => T a2 b2 p2 ∨ (a2 = a ∧ b2 < b ∧ TW V set w a b2 p2)) (n + smv (fun b => sm (fun p => if wq V set w a b p then nT V set w a b else 0)) b) s) (-50) (a - 1)
    (fun fuel b s h3 h4 hI => by
      obtain ⟨i1, i2⟩ := hI
      have hG1 := hG.fg i1
      have hb : -50 ≤ b ∧ b ≤ 50 := by omega
      have hS := smv_s (fun b => sm (fun p => if wq V set w a b p then nT V set w a b else 0)) h3
      have hl := nT_le (V := V) (set := set) (w := w) (a := a) (b := b)
      have b0 := na_le (V := V) (set := set) (w := w) (c := 0) (a := a)
      have b1 := na_le (V := V) (set := set) (w := w) (c := 1) (a := b)
      have e0 : s.1 62 (cx 0 a) = iv (nq V set w 0 a : Int) := (hG1.2.1 0 (by decide) a ha.1 ha.2).1
      have e1 : s.1 62 (cx 1 b) = iv (nq V set w 1 b : Int) := (hG1.2.1 1 (by decide) b hb.1 hb.2).1
      have ia : (a + 50).toNat = cx 0 a := by unfold cx ix; omega
      have ib : (101 + b + 50).toNat = cx 1 b := by unfold cx ix; omega
      have head : lp_X6_goes_28 (iv a) (fuel + 1) (iv b) s = if nT V set w a b = 0 then lp_X6_goes_28 (iv a) fuel (iv (b + 1)) s else (lp_X6_goes_75 (iv a) (iv b) (iv (nq V set w 0 a : Int)) (iv (nq V set w 1 b : Int)) FU (-50) s).bind fun q19 => lp_X6_goes_28 (iv a) fuel (iv (b + 1)) q19 := by
        rw [lp_X6_goes_28, if_neg (n_le (a := a) (b := b) (by omega)), c_50, iv_add, rd_iv (by omega), ob, c_101, iv_add, iv_add, rd_iv (by omega), ob, ia, ib, e0, e1, iv_long (x := (nq V set w 0 a : Int)) (by omega), iv_long (x := (nq V set w 1 b : Int)) (by omega), Int.toNat_natCast, Int.toNat_natCast, lN_mul, iv_one]
        show (if lg_cmp (lN (nT V set w a b)) 0 = 0 then _ else _) = _
        by_cases c : nT V set w a b = 0
        · rw [if_pos ((lN_eq0 (by omega)).mpr c), if_pos c]
        · rw [if_neg (fun z => c ((lN_eq0 (by omega)).mp z)), if_neg c]
      by_cases c : nT V set w a b = 0
      · refine ⟨s, by rw [head, if_pos c], i1, ?_⟩
        have z : sm (fun p => if wq V set w a b p then nT V set w a b else 0) = 0 := smv_z (fun p _ _ => by rw [c]; split <;> rfl)
        rw [hS, z, Nat.add_zero]
        refine i2.cg (fun a2 b2 p2 => ?_)
        constructor
        · rintro (q | ⟨q1, q2, q3⟩)
          · exact Or.inl q
          · exact Or.inr ⟨q1, by omega, q3⟩
        · rintro (q | ⟨q1, q2, q3⟩)
          · exact Or.inl q
          · have : b2 ≠ b := fun z => by
              have h := q3.2.2.2.2
              rw [z, c] at h
              exact absurd h (Nat.lt_irrefl 0)
            exact Or.inr ⟨q1, by omega, q3⟩
      · obtain ⟨s1, e2, f2, A2⟩ := r_loopP hV hG1 ha hb (by omega) i2
        refine ⟨s1, by rw [head, if_neg c, e2, ob], i1.tr f2, ?_⟩
        rw [hS, ← Nat.add_assoc]
        refine A2.cg (fun a2 b2 p2 => ?_)
        constructor
        · rintro ((q | ⟨q1, q2, q3⟩) | ⟨q1, q2, q3, q4⟩)
          · exact Or.inl q
          · exact Or.inr ⟨q1, by omega, q3⟩
          · subst q2
            exact Or.inr ⟨q1, by omega, ha, hb, q3, q4, Nat.pos_of_ne_zero c⟩
        · rintro (q | ⟨q1, q2, q3⟩)
          · exact Or.inl (Or.inl q)
          · by_cases cb : b2 = b
            · subst cb
              exact Or.inr ⟨q1, rfl, q3.2.2.1, q3.2.2.2.1⟩
            · exact Or.inl (Or.inr ⟨q1, by omega, q3⟩))
    (a + 50).toNat FU (-50) S (by omega) (by omega) (by show (a + 50).toNat < 1100; omega) ⟨Fg.rf, by
      rw [smv_0, Nat.add_zero]
      exact hA.cg (fun a2 b2 p2 => ⟨Or.inl, fun z => z.elim id (fun q => by have := q.2.2.2.1; omega)⟩)⟩
  obtain ⟨S1, f1, e, i1, i2⟩ := main
  refine ⟨S1, ?_, i1, ?_⟩
  · rw [c_m50]
    refine Eq.trans e ?_
    show lp_X6_goes_28 (iv a) (f1 + 1) (iv (a - 1 + 1)) S1 = some S1
    rw [lp_X6_goes_28, if_pos (y_le (a := a) (b := a - 1 + 1) (by omega))]
  · have e2 : smv (fun b => sm (fun p => if wq V set w a b p then nT V set w a b else 0)) (a - 1 + 1) = sm (fun b => sm (fun p => if wq V set w a b p then nT V set w a b else 0)) := smv_up (by omega) (by omega) (fun b h1 _ => smv_z (fun p _ _ => by rw [wq_lt (by omega), if_neg (by decide)]))
    rw [e2] at i2
    refine i2.cg (fun a2 b2 p2 => ?_)
    constructor
    · rintro (q | ⟨q1, q2, q3⟩)
      · exact Or.inl q
      · exact Or.inr ⟨q1, q3⟩
    · rintro (q | ⟨q1, q3⟩)
      · exact Or.inl q
      · refine Or.inr ⟨q1, ?_, q3⟩
        have h := q3.2.2.2.1
        refine Decidable.byContradiction (fun z => ?_)
        rw [wq_lt (by omega)] at h
        cases h
theorem r_loopA {V : Vw} (hV : VOk V) {set : Nat} {w : Int} {wd : Bool} {S : QS} (hG : GM V set w wd S) (hA : AccM V wd (fun _ _ _ => False) 0 S) :
    ∃ S1, lp_X6_goes_18 FU (-50) S = some S1 ∧ Fg S S1 ∧ AccM V wd (TW V set w) (nW V set w) S1 := by
  have main := loop50 (fun fuel v s => lp_X6_goes_18 fuel v s) id (fun a s => Fg S s ∧ AccM V wd (fun a2 b2 p2 => a2 < a ∧ TW V set w a2 b2 p2) (smv (fun a => sm (fun b => sm (fun p => if wq V set w a b p then nT V set w a b else 0))) a) s)
    (fun fuel s => by
      show lp_X6_goes_18 (fuel + 1) (iv 51) s = some s
      rw [lp_X6_goes_18, if_pos gt50])
    (fun fuel a s h3 h4 hI => by
      obtain ⟨i1, i2⟩ := hI
      obtain ⟨s1, e1, f1, A1⟩ := r_loopB hV (hG.fg i1) ⟨h3, h4⟩ i2
      refine ⟨s1, ?_, i1.tr f1, ?_⟩
      · show lp_X6_goes_18 (fuel + 1) (iv a) s = lp_X6_goes_18 fuel (iv (a + 1)) s1
        rw [lp_X6_goes_18, if_neg (hi50 h4), e1, ob, iv_one]
      · rw [smv_s _ h3]
        refine A1.cg (fun a2 b2 p2 => ?_)
        constructor
        · rintro (⟨q1, q2⟩ | ⟨q1, q2⟩)
          · exact ⟨by omega, q2⟩
          · subst q1
            exact ⟨by omega, q2⟩
        · rintro ⟨q1, q2⟩
          by_cases c : a2 = a
          · subst c
            exact Or.inr ⟨rfl, q2⟩
          · exact Or.inl ⟨by omega, q2⟩)
    S ⟨Fg.rf, by
      rw [smv_0]
      exact hA.cg (fun a2 b2 p2 => ⟨fun z => z.elim, fun q => by have := q.2.1; omega⟩)⟩
  obtain ⟨S1, e, i1, i2⟩ := main
  exact ⟨S1, by rw [c_m50]; exact e, i1, i2.cg (fun a2 b2 p2 => ⟨fun q => q.2, fun q => ⟨by have := q.1; omega, q⟩⟩)⟩
/-! FIRST are there where AT is -/
theorem r_firstsIn {V : Vw} (hV : VOk V) {set : Nat} {w : Int} (hw : -1 ≤ w ∧ w ≤ 100) {S : QS} (hM : MR V S) {c : Nat} (hc : c < 2) (hl : ∀ f, -50 ≤ f → f ≤ 50 → S.1 60 (cx (3 * c) f) = b2 (lq V set (3 * c) f)) {v : Int} (hv : -50 ≤ v ∧ v ≤ 50) {Q : Int → Prop} (hQ : ∀ f, -50 ≤ f → f ≤ 50 → Flag (S.1 61 (cx (3 * c) f)) (Q f)) :
    ∃ S1, lp_X6_goes_377 (iv w) (iv (c : Int)) (iv v) FU (-50) S = some S1 ∧ Fr [61] S S1 ∧ (∀ f, -50 ≤ f → f ≤ 50 → Flag (S1.1 61 (cx (3 * c) f)) (Q f ∨ fq V set w c f v = true)) ∧ ∀ r, r ≠ 3 * c → ∀ u, -50 ≤ u → u ≤ 50 → S1.1 61 (cx r u) = S.1 61 (cx r u) := by
  have main := loop50 (fun fuel f s => lp_X6_goes_377 (iv w) (iv (c : Int)) (iv v) fuel f s) id (fun g s => Fr [61] S s ∧ (∀ f, -50 ≤ f → f ≤ 50 → Flag (s.1 61 (cx (3 * c) f)) (Q f ∨ (f < g ∧ fq V set w c f v = true))) ∧ ∀ r, r ≠ 3 * c → ∀ u, -50 ≤ u → u ≤ 50 → s.1 61 (cx r u) = S.1 61 (cx r u))
    (fun fuel s => by
      show lp_X6_goes_377 (iv w) (iv (c : Int)) (iv v) (fuel + 1) (iv 51) s = some s
      rw [lp_X6_goes_377, if_pos gt50])
    (fun fuel g s h3 h4 hI => by
      obtain ⟨i1, i2, i3⟩ := hI
      have hg : -50 ≤ g ∧ g ≤ 50 := ⟨h3, h4⟩
      have hf := r_isFirst (w := w) (set := set) hV (hM.fr i1 (by decide)) hc hg hv hw (by rw [i1.1 60 (by decide)]; exact hl g h3 h4)
      cases hq : fq V set w c g v with
      | false =>
        refine ⟨s, ?_, i1, fun f h1 h2 => (i2 f h1 h2).cg ?_, i3⟩
        · show lp_X6_goes_377 (iv w) (iv (c : Int)) (iv v) (fuel + 1) (iv g) s = lp_X6_goes_377 (iv w) (iv (c : Int)) (iv v) fuel (iv (g + 1)) s
          rw [lp_X6_goes_377, if_neg (hi50 h4), hf, ob, hq, if_pos (by decide), iv_one]
        · constructor
          · rintro (q | ⟨q1, q2⟩)
            · exact Or.inl q
            · exact Or.inr ⟨by omega, q2⟩
          · rintro (q | ⟨q1, q2⟩)
            · exact Or.inl q
            · have : f ≠ g := fun z => by rw [z, hq] at q2; cases q2
              exact Or.inr ⟨by omega, q2⟩
      | true =>
        refine ⟨setF 61 (cx (3 * c) g) 1 s, ?_, i1.tr (Fr.set (by decide)), fun f h1 h2 => ((i2 f h1 h2).set (c := f = g) inferInstance (y := (setF 61 (cx (3 * c) g) 1 s).1 61 (cx (3 * c) f)) ?_ (Q := f = g) Iff.rfl).cg ?_, fun r hr u h1 h2 => ?_⟩
        · show lp_X6_goes_377 (iv w) (iv (c : Int)) (iv v) (fuel + 1) (iv g) s = lp_X6_goes_377 (iv w) (iv (c : Int)) (iv v) fuel (iv (g + 1)) _
          rw [lp_X6_goes_377, if_neg (hi50 h4), hf, ob, hq, if_neg (by decide), row0, r_cell, ob, wzC (by omega) hg (Or.inr rfl), ob, iv_one]
        · rw [st_1]
          by_cases c1 : f = g
          · rw [if_pos ⟨rfl, by rw [c1]⟩, if_pos c1]
          · rw [if_neg (fun z => c1 ((cx_iff ⟨h1, h2⟩ hg).mp z.2).2), if_neg c1]
        · constructor
          · rintro ((q | ⟨q1, q2⟩) | q)
            · exact Or.inl q
            · exact Or.inr ⟨by omega, q2⟩
            · subst q
              exact Or.inr ⟨by omega, hq⟩
          · rintro (q | ⟨q1, q2⟩)
            · exact Or.inl (Or.inl q)
            · by_cases c1 : f = g
              · exact Or.inr c1
              · exact Or.inl (Or.inr ⟨by omega, q2⟩)
        · rw [st_nej (cx_ne ⟨h1, h2⟩ hg (Or.inl hr))]
          exact i3 r hr u h1 h2)
    S ⟨Fr.rf, fun f h1 h2 => (hQ f h1 h2).cg ⟨Or.inl, fun z => z.elim id (fun q => by omega)⟩, fun _ _ _ _ _ => rfl⟩
  obtain ⟨S1, e, i1, i2, i3⟩ := main
  refine ⟨S1, by rw [c_m50]; exact e, i1, fun f h1 h2 => (i2 f h1 h2).cg ?_, i3⟩
  exact ⟨fun z => z.imp id (fun q => q.2), fun z => z.imp id (fun q => ⟨by omega, q⟩)⟩
theorem r_firstsCar {V : Vw} (hV : VOk V) {set : Nat} {w : Int} (hw : -1 ≤ w ∧ w ≤ 100) {S : QS} (hM : MR V S) {c : Nat} (hc : c < 2) (hl : ∀ f, -50 ≤ f → f ≤ 50 → S.1 60 (cx (3 * c) f) = b2 (lq V set (3 * c) f)) {P : Int → Prop} (hP : ∀ v, -50 ≤ v → v ≤ 50 → Flag (S.1 61 (cx (3 * c + 1) v)) (P v)) (h0 : ∀ f, -50 ≤ f → f ≤ 50 → S.1 61 (cx (3 * c) f) = 0) :
    ∃ S1, lp_X6_goes_345 (iv w) (iv (c : Int)) FU (-50) S = some S1 ∧ Fr [61] S S1 ∧ (∀ f, -50 ≤ f → f ≤ 50 → Flag (S1.1 61 (cx (3 * c) f)) (∃ v, (-50 ≤ v ∧ v ≤ 50) ∧ P v ∧ fq V set w c f v = true)) ∧ ∀ r, r ≠ 3 * c → ∀ u, -50 ≤ u → u ≤ 50 → S1.1 61 (cx r u) = S.1 61 (cx r u) := by
  have main := loop50 (fun fuel v s => lp_X6_goes_345 (iv w) (iv (c : Int)) fuel v s) id (fun v s => Fr [61] S s ∧ (∀ f, -50 ≤ f → f ≤ 50 → Flag (s.1 61 (cx (3 * c) f)) (∃ v2, (-50 ≤ v2 ∧ v2 ≤ 50) ∧ v2 < v ∧ P v2 ∧ fq V set w c f v2 = true)) ∧ ∀ r, r ≠ 3 * c → ∀ u, -50 ≤ u → u ≤ 50 → s.1 61 (cx r u) = S.1 61 (cx r u))
    (fun fuel s => by
      show lp_X6_goes_345 (iv w) (iv (c : Int)) (fuel + 1) (iv 51) s = some s
      rw [lp_X6_goes_345, if_pos gt50])
    (fun fuel v s h3 h4 hI => by
      obtain ⟨i1, i2, i3⟩ := hI
      have hv : -50 ≤ v ∧ v ≤ 50 := ⟨h3, h4⟩
      have hPv := hP v h3 h4
      rw [← i3 (3 * c + 1) (by omega) v h3 h4] at hPv
      have head : lp_X6_goes_345 (iv w) (iv (c : Int)) (fuel + 1) (iv v) s = if s.1 61 (cx (3 * c + 1) v) = 0 then lp_X6_goes_345 (iv w) (iv (c : Int)) fuel (iv (v + 1)) s else (lp_X6_goes_377 (iv w) (iv (c : Int)) (iv v) FU (-50) s).bind fun q82 => lp_X6_goes_345 (iv w) (iv (c : Int)) fuel (iv (v + 1)) q82 := by
        rw [lp_X6_goes_345, if_neg (hi50 h4), row1, r_cell, ob, rdC (by omega) hv, ob, iv_one]
      rcases hPv with ⟨e1, p1⟩ | ⟨e0, p0⟩
      · obtain ⟨s1, e2, f2, g2, g3⟩ := r_firstsIn (set := set) hV hw (hM.fr i1 (by decide)) hc (fun f h1 h2 => by rw [i1.1 60 (by decide)]; exact hl f h1 h2) hv i2
        refine ⟨s1, ?_, i1.tr f2, fun f h1 h2 => (g2 f h1 h2).cg ?_, fun r hr u h1 h2 => (g3 r hr u h1 h2).trans (i3 r hr u h1 h2)⟩
        · show lp_X6_goes_345 (iv w) (iv (c : Int)) (fuel + 1) (iv v) s = lp_X6_goes_345 (iv w) (iv (c : Int)) fuel (iv (v + 1)) s1
          rw [head, e1, if_neg (by decide), e2, ob]
        · constructor
          · rintro (⟨v2, q1, q2, q3⟩ | q)
            · exact ⟨v2, q1, by omega, q3⟩
            · exact ⟨v, hv, by omega, p1, q⟩
          · rintro ⟨v2, q1, q2, q3, q4⟩
            by_cases cv : v2 = v
            · subst cv
              exact Or.inr q4
            · exact Or.inl ⟨v2, q1, by omega, q3, q4⟩
      · refine ⟨s, ?_, i1, fun f h1 h2 => (i2 f h1 h2).cg ?_, i3⟩
        · show lp_X6_goes_345 (iv w) (iv (c : Int)) (fuel + 1) (iv v) s = lp_X6_goes_345 (iv w) (iv (c : Int)) fuel (iv (v + 1)) s
          rw [head, e0, if_pos rfl]
        · constructor
          · rintro ⟨v2, q1, q2, q3⟩
            exact ⟨v2, q1, by omega, q3⟩
          · rintro ⟨v2, q1, q2, q3, q4⟩
            have : v2 ≠ v := fun z => p0 (z ▸ q3)
            exact ⟨v2, q1, by omega, q3, q4⟩)
    S ⟨Fr.rf, fun f h1 h2 => Or.inr ⟨h0 f h1 h2, fun ⟨v2, q1, q2, _⟩ => by omega⟩, fun _ _ _ _ _ => rfl⟩
  obtain ⟨S1, e, i1, i2, i3⟩ := main
  refine ⟨S1, by rw [c_m50]; exact e, i1, fun f h1 h2 => (i2 f h1 h2).cg ?_, i3⟩
  exact ⟨fun ⟨v2, q1, q2, q3⟩ => ⟨v2, q1, q3⟩, fun ⟨v2, q1, q3⟩ => ⟨v2, q1, by omega, q3⟩⟩
theorem nW_lt {V : Vw} {set : Nat} {w : Int} : nW V set w ≤ 101 * (101 * (101 * 10201)) := sm_le (fun a _ _ => sm_le (fun b _ _ => sm_le (fun p _ _ => by
  have := nT_le (V := V) (set := set) (w := w) (a := a) (b := b)
  split <;> omega)))
/-- what the reference's reckoning may change -/
def Fh (S S1 : QS) : Prop := (∀ k, k ∉ [60, 61, 62, 63] → S1.1 k = S.1 k) ∧ ∀ k, k ∉ [48, 60, 61, 62, 63] → S1.2 k = S.2 k
theorem r_goes {V : Vw} (hV : VOk V) {set : Nat} {w : Int} (hw : -1 ≤ w ∧ w ≤ 100) {wd : Bool} {S : QS} (hM : MR V S) (h18 : S.1 48 18 = b2 wd) (hk : wd = true → MkOk V S ∧ ∀ m, m < 1024 → S.1 63 m = 0) :
    ∃ S1, f_X6_goes (nI set) (iv w) S = some (b2 (decide (0 < nW V set w)), S1) ∧ Fh S S1 ∧ S1.2 48 = lN (nW V set w) ∧ (∀ r, r < 6 → ∀ u, -50 ≤ u → u ≤ 50 → Flag (S1.1 61 (cx r u)) (Sn V set w r u)) ∧ (wd = true → ∀ m, m < 1024 → Flag (S1.1 63 m) (∃ a b p, TW V set w a b p ∧ KM V a b p m)) := by
  obtain ⟨s1, e1, f1, g1⟩ := r_lets (set := set) hV hM
  have hM1 := hM.fr f1 (by decide)
  obtain ⟨s2, e2, f2, g2, g3⟩ := r_counts (set := set) (w := w) hV hM1 hw (fun r hr u h1 h2 => (g1 r hr u h1 h2).1)
  have hM2 := hM1.fr f2 (by decide)
  obtain ⟨s3, hs3⟩ : ∃ s3, s3 = setL 48 0 s2 := ⟨_, rfl⟩
  have e3 : s3.1 = s2.1 := by rw [hs3]; rfl
  have k12 : ∀ k, k ∉ [60, 61, 62] → s2.1 k = S.1 k := fun k hk2 => by
    simp only [List.mem_cons, List.not_mem_nil, or_false, not_or] at hk2
    rw [f2.1 k (by simp; omega), f1.1 k (by simp; omega)]
  have hG : GM V set w wd s3 := by
    refine ⟨hM2.kp (fun k _ _ => by rw [e3]) (by rw [e3]) (by rw [e3]), ?_, ?_, fun z => ?_⟩
    · rw [e3]; exact g2
    · rw [e3, k12 48 (by decide)]; exact h18
    · exact (hk z).1.fr (by rw [e3, k12 65 (by decide)]) (by rw [e3, k12 66 (by decide)])
  have e61 : s3.1 61 = s1.1 61 := by rw [e3, f2.1 61 (by decide)]
  have hA : AccM V wd (fun _ _ _ => False) 0 s3 := by
    refine ⟨by rw [hs3]; exact sl_eq _ _ _, fun u h1 h2 => ?_, fun z m hm => ?_⟩
    · rw [e61]
      exact ⟨Or.inr ⟨(g1 1 (by decide) u h1 h2).2, fun ⟨_, _, q⟩ => q⟩, Or.inr ⟨(g1 4 (by decide) u h1 h2).2, fun ⟨_, _, q⟩ => q⟩, Or.inr ⟨(g1 2 (by decide) u h1 h2).2, fun ⟨_, _, q⟩ => q⟩, Or.inr ⟨(g1 5 (by decide) u h1 h2).2, fun ⟨_, _, _, q, _⟩ => q⟩, (g1 0 (by decide) u h1 h2).2, (g1 3 (by decide) u h1 h2).2⟩
    · refine Or.inr ⟨?_, fun ⟨_, _, _, q, _⟩ => q⟩
      rw [e3, k12 63 (by decide)]
      exact (hk z).2 m hm
  obtain ⟨s4, e4, f4, A4⟩ := r_loopA hV hG hA
  have hM4 : MR V s4 := hG.1.fg f4
  have e60 : s4.1 60 = s2.1 60 := by rw [f4.1 60 (by decide) (by decide), e3]
  obtain ⟨s5, e5, f5, g5, g5'⟩ := r_firstsCar (set := set) (c := 0) hV hw hM4 (by decide) (fun f h1 h2 => by rw [e60]; exact g3 0 (by decide) (by decide) f h1 h2) (P := fun v => ∃ b p, TW V set w v b p) (fun v h1 h2 => (A4.2.1 v h1 h2).1) (fun f h1 h2 => (A4.2.1 f h1 h2).2.2.2.2.1)
  obtain ⟨s6, e6, f6, g6, g6'⟩ := r_firstsCar (set := set) (c := 1) hV hw (hM4.fr f5 (by decide)) (by decide) (fun f h1 h2 => by rw [f5.1 60 (by decide), e60]; exact g3 3 (by decide) (by decide) f h1 h2) (P := fun v => ∃ a p, TW V set w a v p) (fun v h1 h2 => by rw [g5' 4 (by decide) v h1 h2]; exact (A4.2.1 v h1 h2).2.1) (fun f h1 h2 => by rw [g5' 3 (by decide) f h1 h2]; exact (A4.2.1 f h1 h2).2.2.2.2.2)
  have l6 : s6.2 48 = lN (nW V set w) := by rw [f6.2 48 (by decide), f5.2 48 (by decide)]; exact A4.1
  have hnl := nW_lt (V := V) (set := set) (w := w)
  refine ⟨s6, ?_, ⟨fun k hk2 => ?_, fun k hk2 => ?_⟩, l6, fun r hr u h1 h2 => ?_, fun z m hm => ?_⟩
  · have e7 : lp_X6_goes_336 (iv w) FU 0 s4 = some s6 := by
      show lp_X6_goes_336 (iv w) (1099 + 1) 0 s4 = _
      rw [lp_X6_goes_336, if_neg (by decide), show (0 : Int32) = iv ((0 : Nat) : Int) from rfl, e5, ob]
      show lp_X6_goes_336 (iv w) (1098 + 1) (iv ((0 : Nat) : Int) + 1) s5 = _
      rw [lp_X6_goes_336, if_neg (by decide), show iv ((0 : Nat) : Int) + 1 = iv ((1 : Nat) : Int) from by decide, e6, ob]
      show lp_X6_goes_336 (iv w) (1097 + 1) (iv ((1 : Nat) : Int) + 1) s6 = _
      rw [lp_X6_goes_336, if_pos (by decide)]
    unfold f_X6_goes
    rw [e1, ob, e2, ob]
    show (lp_X6_goes_18 FU (-50) (setL 48 0 s2)).bind _ = _
    rw [← hs3, e4, ob, e7, ob, l6]
    by_cases c : nW V set w = 0
    · rw [if_pos ((lN_le0 (by omega)).mpr c), c]
      rfl
    · rw [if_neg (fun z => c ((lN_le0 (by omega)).mp z)), decide_eq_true (Nat.pos_of_ne_zero c)]
      rfl
  · simp only [List.mem_cons, List.not_mem_nil, or_false, not_or] at hk2
    rw [f6.1 k (by simp; omega), f5.1 k (by simp; omega), f4.1 k (by omega) (by omega), e3]
    exact k12 k (by simp; omega)
  · simp only [List.mem_cons, List.not_mem_nil, or_false, not_or] at hk2
    rw [f6.2 k (by simp; omega), f5.2 k (by simp; omega), f4.2 k (by omega) (by omega), hs3, sl_ne (by omega), f2.2 k (by simp; omega), f1.2 k (by simp; omega)]
  · rcases (show r = 0 ∨ r = 1 ∨ r = 2 ∨ r = 3 ∨ r = 4 ∨ r = 5 by omega) with rfl | rfl | rfl | rfl | rfl | rfl
    · rw [g6' 0 (by decide) u h1 h2]
      exact g5 u h1 h2
    · rw [g6' 1 (by decide) u h1 h2, g5' 1 (by decide) u h1 h2]
      exact (A4.2.1 u h1 h2).1
    · rw [g6' 2 (by decide) u h1 h2, g5' 2 (by decide) u h1 h2]
      exact (A4.2.1 u h1 h2).2.2.1
    · exact g6 u h1 h2
    · rw [g6' 4 (by decide) u h1 h2, g5' 4 (by decide) u h1 h2]
      exact (A4.2.1 u h1 h2).2.1
    · rw [g6' 5 (by decide) u h1 h2, g5' 5 (by decide) u h1 h2]
      exact (A4.2.1 u h1 h2).2.2.2.1
  · rw [f6.1 63 (by decide), f5.1 63 (by decide)]
    exact A4.2.2 z m hm
