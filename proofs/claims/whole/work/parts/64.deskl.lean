/-! FIRST is seen where AT is -/
theorem s_seeIn {V : Vw} (hV : VOk V) {set : Nat} {w : Int} {c k : Nat} {S : QS} (hc : CF V set w c k S) {v : Int} (hv : -50 ≤ v ∧ v ≤ 50) (hs : S.1 (k + 6) (ix v) = 1) {Q : Int → Prop} (hQ : ∀ f, -50 ≤ f → f ≤ 50 → Flag (S.1 (k + 3) (ix f)) (Q f)) :
    ∃ S1, lp_X0_seeFirsts_24 k (iv v) FU (iv (if 0 ≤ v then v else -v)) S = some S1 ∧ Fr [k + 3] S S1 ∧ ∀ f, -50 ≤ f → f ≤ 50 → Flag (S1.1 (k + 3) (ix f)) (Q f ∨ fq V set w c f v = true) := by
  have b1 := sL_b hV w c false
  have b3 := sH_b hV w c false
  obtain ⟨v0, hv0⟩ : ∃ v0, v0 = if 0 ≤ v then v else -v := ⟨_, rfl⟩
  have hv1 : 0 ≤ v0 ∧ v0 ≤ 50 ∧ v ≤ v0 ∧ -v ≤ v0 ∧ (v0 = v ∨ v0 = -v) := by rw [hv0]; split <;> omega
  rw [← hv0]
  have main := up_loop (fun fuel p (s : QS) => lp_X0_seeFirsts_24 k (iv v) fuel p s) (fun p s => Fr [k + 3] S s ∧ ∀ f, -50 ≤ f → f ≤ 50 → Flag (s.1 (k + 3) (ix f)) (Q f ∨ ∃ q, v0 ≤ q ∧ q < p ∧ fq V set w c (ff v q) v = true ∧ f = ff v q)) v0 50
    (fun fuel p s h3 h4 hI => by
      obtain ⟨i1, i2⟩ := hI
      have hpr : -50 ≤ p ∧ p ≤ 50 := by omega
      obtain ⟨c5, c6, -, -, -, cF⟩ := hc.fr (i1.1 k (by simp)) (i1.1 (k + 2) (by simp))
      have e6 : s.1 (k + 4 + 2) (ix v) = 1 := by rw [i1.1 (k + 4 + 2) (by simp)]; exact hs
      have hT := s_takenA (k := k) (S := s) hv hpr c5 c6 (by omega) (by omega)
      have hFQ := fq_hi (V := V) (set := set) (w := w) (c := c) (v := v) (p := p) (by omega) (by omega)
      have hff := ff_b (v := v) hpr
      have hFv := cF (ff v p) hff.1 hff.2
      have hpq := pq_le hV (3 * c) (ff v p)
      have head : lp_X0_seeFirsts_24 k (iv v) (fuel + 1) (iv p) s = if fq V set w c (ff v p) v = true then lp_X0_seeFirsts_24 k (iv v) fuel (iv (p + 1)) (setF (k + 1 + 2) (ix (ff v p)) 1 s) else lp_X0_seeFirsts_24 k (iv v) fuel (iv (p + 1)) s := by
        rw [lp_X0_seeFirsts_24, s_isSeen hv, e6, if_neg (by decide : ¬ (1 : Int32) = 0), ob, if_neg (by decide : ¬ (1 : Int32) = 0), if_neg (hi50 h4), hT, ob, iv_one]
        cases ht : (decide (sL V w c false ≤ 51 * (p * p - v * v)) && decide (51 * (p * p - v * v) ≤ sH V w c false)) with
        | false =>
          rw [if_pos (by decide), if_neg]
          rw [hFQ, ht, Bool.and_false]
          decide
        | true =>
          rw [if_neg (by decide), s_firstFor (by omega), ob, show (if 0 ≤ v then p else -p) = ff v p from rfl, s_isOpen hff, ob, show s.1 (k + 1 + 1) (ix (ff v p)) = s.1 (k + 2) (ix (ff v p)) from rfl, hFv, hFQ, ht, Bool.and_true]
          cases hl : lq V set (3 * c) (ff v p) with
          | false => rw [if_neg (by decide : ¬ (false = true)), if_pos rfl, if_pos rfl, if_neg (by decide : ¬ (false = true))]
          | true => rw [if_pos (rfl : true = true), if_neg (iv_nm1 (by omega)), if_neg (by decide), ob, s_see hff, ob, if_pos (rfl : true = true)]
      by_cases g : fq V set w c (ff v p) v = true
      · refine ⟨setF (k + 1 + 2) (ix (ff v p)) 1 s, ?_, i1.tr (Fr.set (by simp)), fun f h1 h2 => ?_⟩
        · show lp_X0_seeFirsts_24 k (iv v) (fuel + 1) (iv p) s = _
          rw [head, if_pos g]
        · by_cases e : f = ff v p
          · subst e
            exact Or.inl ⟨st_eq _ _ _ _, Or.inr ⟨p, h3, by omega, g, rfl⟩⟩
          · have e9 : (setF (k + 1 + 2) (ix (ff v p)) 1 s).1 (k + 3) (ix f) = s.1 (k + 3) (ix f) := st_nej (ix_ne h1 hff.1 e)
            rw [e9]
            refine (i2 f h1 h2).cg ?_
            constructor
            · rintro (q | ⟨q, q1, q2, q3, q4⟩)
              · exact Or.inl q
              · exact Or.inr ⟨q, q1, by omega, q3, q4⟩
            · rintro (q | ⟨q, q1, q2, q3, q4⟩)
              · exact Or.inl q
              · by_cases z : q = p
                · subst z
                  exact absurd q4 e
                · exact Or.inr ⟨q, q1, by omega, q3, q4⟩
      · refine ⟨s, ?_, i1, fun f h1 h2 => (i2 f h1 h2).cg ?_⟩
        · show lp_X0_seeFirsts_24 k (iv v) (fuel + 1) (iv p) s = _
          rw [head, if_neg g]
        · constructor
          · rintro (q | ⟨q, q1, q2, q3, q4⟩)
            · exact Or.inl q
            · exact Or.inr ⟨q, q1, by omega, q3, q4⟩
          · rintro (q | ⟨q, q1, q2, q3, q4⟩)
            · exact Or.inl q
            · by_cases z : q = p
              · subst z
                exact absurd q3 g
              · exact Or.inr ⟨q, q1, by omega, q3, q4⟩)
    (51 - v0).toNat FU v0 S (by omega) (by omega) (by show _ < 1100; omega) ⟨Fr.rf, fun f h1 h2 => (hQ f h1 h2).cg ⟨Or.inl, fun z => z.elim id (fun ⟨q, q1, q2, _⟩ => by omega)⟩⟩
  obtain ⟨s1, f1, e1, i1, i2⟩ := main
  refine ⟨s1, ?_, i1, fun f h1 h2 => (i2 f h1 h2).cg ?_⟩
  · have e2 : lp_X0_seeFirsts_24 k (iv v) FU (iv v0) S = lp_X0_seeFirsts_24 k (iv v) (f1 + 1) (iv (50 + 1)) s1 := e1
    have e6 : s1.1 (k + 4 + 2) (ix v) = 1 := by rw [i1.1 (k + 4 + 2) (by simp)]; exact hs
    rw [e2, show (50 : Int) + 1 = 51 by rfl, lp_X0_seeFirsts_24, s_isSeen hv, e6, if_neg (by decide : ¬ (1 : Int32) = 0), ob, if_neg (by decide : ¬ (1 : Int32) = 0), if_pos gt50]
  · constructor
    · rintro (q | ⟨q, q1, q2, q3, q4⟩)
      · exact Or.inl q
      · rw [q4]
        exact Or.inr q3
    · rintro (q | q)
      · exact Or.inl q
      · have hffi : ff v (ff v f) = f := by unfold ff; split <;> omega
        have hb := ff_b (v := v) (p := f) ⟨h1, h2⟩
        refine Or.inr ⟨ff v f, ?_, by omega, by rw [hffi]; exact q, hffi.symm⟩
        rcases Int.lt_or_le (ff v f) v0 with z | z
        · have := fq_low hV (set := set) (w := w) (c := c) hv hb.1 (p := ff v f) (by omega)
          rw [hffi, q] at this
          cases this
        · exact z
theorem s_seeFirsts {V : Vw} (hV : VOk V) {set : Nat} {w : Int} {c k : Nat} {S : QS} (hc : CF V set w c k S) {bo to : Int} (hb : S.1 (k + 4) 2 = iv bo) (ht : S.1 (k + 4) 3 = iv to) (b3 : -50 ≤ bo) (b4 : bo ≤ 51) (b5 : -51 ≤ to) (b6 : to ≤ 50) {P : Int → Prop}
    (hP : ∀ u, -50 ≤ u → u ≤ 50 → Flag (S.1 (k + 6) (ix u)) (P u)) (hin : ∀ u, -50 ≤ u → u ≤ 50 → P u → bo ≤ u ∧ u ≤ to) (h0 : ∀ f, -50 ≤ f → f ≤ 50 → S.1 (k + 3) (ix f) = 0) :
    ∃ S1, f_X0_seeFirsts k S = some S1 ∧ Fr [k + 3] S S1 ∧ ∀ f, -50 ≤ f → f ≤ 50 → Flag (S1.1 (k + 3) (ix f)) (∃ u, (-50 ≤ u ∧ u ≤ 50) ∧ P u ∧ fq V set w c f u = true) := by
  unfold f_X0_seeFirsts
  by_cases hle : bo ≤ to
  · have main := up_loop (fun fuel a (s : QS) => lp_X0_seeFirsts_8 k fuel a s) (fun a s => Fr [k + 3] S s ∧ ∀ f, -50 ≤ f → f ≤ 50 → Flag (s.1 (k + 3) (ix f)) (∃ u, ((-50 ≤ u ∧ u ≤ 50) ∧ u < a) ∧ P u ∧ fq V set w c f u = true)) bo to
      (fun fuel a s h3 h4 hI => by
        obtain ⟨i1, i2⟩ := hI
        have ha : -50 ≤ a ∧ a ≤ 50 := by omega
        have hc1 := hc.fr (i1.1 k (by simp)) (i1.1 (k + 2) (by simp))
        have e3 : s.1 (k + 4) 3 = iv to := by rw [i1.1 (k + 4) (by simp)]; exact ht
        have e6 : s.1 (k + 6) (ix a) = S.1 (k + 6) (ix a) := by rw [i1.1 (k + 6) (by simp)]
        rcases hP a ha.1 ha.2 with ⟨q1, q2⟩ | ⟨q1, q2⟩
        · obtain ⟨s1, e1, f1, g1⟩ := s_seeIn hV hc1 ha (by rw [e6]; exact q1) i2
          refine ⟨s1, ?_, i1.tr f1, fun f h1 h2 => (g1 f h1 h2).cg ?_⟩
          · show lp_X0_seeFirsts_8 k (fuel + 1) (iv a) s = lp_X0_seeFirsts_8 k fuel (iv (a + 1)) s1
            rw [lp_X0_seeFirsts_8, e3, if_neg (n_lt (a := to) (b := a) h4), iv_abs ha, e1, ob, iv_one]
          · constructor
            · rintro (⟨u, ⟨p1, p2⟩, p3, p4⟩ | p)
              · exact ⟨u, ⟨p1, by omega⟩, p3, p4⟩
              · exact ⟨a, ⟨ha, by omega⟩, q2, p⟩
            · rintro ⟨u, ⟨p1, p2⟩, p3, p4⟩
              by_cases z : u = a
              · subst z
                exact Or.inr p4
              · exact Or.inl ⟨u, ⟨p1, by omega⟩, p3, p4⟩
        · refine ⟨s, ?_, i1, fun f h1 h2 => (i2 f h1 h2).cg ?_⟩
          · show lp_X0_seeFirsts_8 k (fuel + 1) (iv a) s = lp_X0_seeFirsts_8 k fuel (iv (a + 1)) s
            have e7 : s.1 (k + 4 + 2) (ix a) = 0 := by rw [show s.1 (k + 4 + 2) (ix a) = s.1 (k + 6) (ix a) from rfl, e6]; exact q1
            have e8 : lp_X0_seeFirsts_24 k (iv a) FU (iv (if 0 ≤ a then a else -a)) s = some s := by
              rw [show FU = 1099 + 1 from rfl, lp_X0_seeFirsts_24, s_isSeen ha, e7, if_pos rfl, ob, if_pos rfl]
            rw [lp_X0_seeFirsts_8, e3, if_neg (n_lt (a := to) (b := a) h4), iv_abs ha, e8, ob, iv_one]
          · constructor
            · rintro ⟨u, ⟨p1, p2⟩, p3, p4⟩
              exact ⟨u, ⟨p1, by omega⟩, p3, p4⟩
            · rintro ⟨u, ⟨p1, p2⟩, p3, p4⟩
              by_cases z : u = a
              · subst z
                exact absurd p3 q2
              · exact ⟨u, ⟨p1, by omega⟩, p3, p4⟩)
      (to + 1 - bo).toNat FU bo S (by omega) (by omega) (by show _ < 1100; omega) ⟨Fr.rf, fun f h1 h2 => Or.inr ⟨h0 f h1 h2, fun ⟨u, ⟨p1, p2⟩, p3, _⟩ => by have := hin u p1.1 p1.2 p3; omega⟩⟩
    obtain ⟨s1, f1, e1, i1, i2⟩ := main
    refine ⟨s1, ?_, i1, fun f h1 h2 => (i2 f h1 h2).cg ?_⟩
    · have e2 : lp_X0_seeFirsts_8 k FU (iv bo) S = lp_X0_seeFirsts_8 k (f1 + 1) (iv (to + 1)) s1 := e1
      have e3 : s1.1 (k + 4) 3 = iv to := by rw [i1.1 (k + 4) (by simp)]; exact ht
      rw [hb, e2, lp_X0_seeFirsts_8, e3, if_pos (y_lt (a := to) (b := to + 1) (by omega))]
    · constructor
      · rintro ⟨u, ⟨p1, p2⟩, p3, p4⟩
        exact ⟨u, p1, p3, p4⟩
      · rintro ⟨u, p1, p3, p4⟩
        have := hin u p1.1 p1.2 p3
        exact ⟨u, ⟨p1, by omega⟩, p3, p4⟩
  · refine ⟨S, ?_, Fr.rf, fun f h1 h2 => Or.inr ⟨h0 f h1 h2, fun ⟨u, p1, p3, _⟩ => by have := hin u p1.1 p1.2 p3; omega⟩⟩
    rw [hb, show FU = 1099 + 1 from rfl, lp_X0_seeFirsts_8, ht, if_pos (y_lt (a := to) (b := bo) (by omega))]
