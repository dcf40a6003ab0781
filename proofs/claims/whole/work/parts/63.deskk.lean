/-! all AT of car 0 -/
def TT (V : Vw) (set : Nat) (w L G a k b : Int) : Prop := (-50 ≤ a ∧ a ≤ 50) ∧ 0 < nq V set w 0 a ∧ (1 ≤ k ∧ k ≤ 101) ∧ Tq V set w L G a k b
def Nq (V : Vw) (set : Nat) (w L G a : Int) : Nat := fb_sm (fun i => Hq V set w L G a ((i : Int) + 1)) 101
theorem Nq_0 {V : Vw} {set : Nat} {w L G a : Int} (h : nq V set w 0 a = 0) : Nq V set w L G a = 0 := fb_sm_0 (fun i hi => by
  unfold Hq
  rw [h, Nat.mul_zero]
  split <;> rfl)
theorem s_mainloop {V : Vw} (hV : VOk V) {set : Nat} {w L G : Int} (hL : 1 ≤ L ∧ L ≤ 100) (hG : 1 ≤ G ∧ G ≤ 100) {S : QS} (hM : Md V set w L G S) (hA : Acc V set w L G (fun _ _ _ => False) 0 S) :
    ∃ S1, lp_X1_reckon_77 FU (S.1 30 2) S = some S1 ∧ Fr [25, 32, 35, 43, 46] S S1 ∧ Md V set w L G S1 ∧ Acc V set w L G (TT V set w L G) (sm (Nq V set w L G)) S1 := by
  obtain ⟨-, -, t0, -, ⟨bo, to, b1, b2, b3, b4, b5, b6, b7⟩, -, -, -⟩ := id hM
  have opn : ∀ (s : QS), Fr [25, 32, 35, 43, 46] S s → ∀ a, -50 ≤ a → a ≤ 50 → (s.1 31 (ix a) ≠ -1 ↔ 0 < nq V set w 0 a) := fun s hf a h1 h2 => by
    rw [hf.1 31 (by decide)]
    exact ((t0 a h1 h2).1.ne).trans PA_ex
  have inb : ∀ a, -50 ≤ a → a ≤ 50 → 0 < nq V set w 0 a → bo ≤ a ∧ a ≤ to := fun a h1 h2 h3 => b7 a h1 h2 ((opn S Fr.rf a h1 h2).mpr h3)
  by_cases hle : bo ≤ to
  · have main := up_loop (fun fuel a (s : QS) => lp_X1_reckon_77 fuel a s) (fun a s => Fr [25, 32, 35, 43, 46] S s ∧ Md V set w L G s ∧ Acc V set w L G (fun a2 k2 b2 => a2 < a ∧ TT V set w L G a2 k2 b2) (smv (Nq V set w L G) a) s) bo to
      (fun fuel a s h3 h4 hI => by
        obtain ⟨i1, i2, i3⟩ := hI
        have ha : -50 ≤ a ∧ a ≤ 50 := by omega
        have hS := smv_s (Nq V set w L G) (v := a) ha.1
        have e3 : s.1 30 3 = iv to := by rw [i1.1 30 (by decide)]; exact b2
        have head : lp_X1_reckon_77 (fuel + 1) (iv a) s = if s.1 31 (ix a) = -1 then lp_X1_reckon_77 fuel (iv (a + 1)) s else (f_X1_pushFrom (iv a) s).bind fun S23 => lp_X1_reckon_77 fuel (iv (a + 1)) S23 := by
          rw [lp_X1_reckon_77, e3, if_neg (n_lt (a := to) (b := a) h4), s_isOpen ha, ob, iv_one]
          show (if (if s.1 31 (ix a) = -1 then (0 : Int32) else 1) = 0 then _ else _) = _
          by_cases c : s.1 31 (ix a) = -1
          · rw [if_pos c, if_pos rfl, if_pos c]
          · rw [if_neg c, if_neg (by decide), if_neg c]
        by_cases c : s.1 31 (ix a) = -1
        · have hz : ¬ 0 < nq V set w 0 a := fun z => ((opn s i1 a ha.1 ha.2).mpr z) c
          refine ⟨s, ?_, i1, i2, ?_⟩
          · show lp_X1_reckon_77 (fuel + 1) (iv a) s = lp_X1_reckon_77 fuel (iv (a + 1)) s
            rw [head, if_pos c]
          · rw [hS, Nq_0 (by omega), Nat.add_zero]
            refine i3.cg (fun a2 k2 b2 => ?_)
            constructor
            · rintro ⟨q, q2⟩
              exact ⟨by omega, q2⟩
            · rintro ⟨q, q2⟩
              refine ⟨?_, q2⟩
              rcases Int.lt_or_le a2 a with z | z
              · exact z
              · have e : a2 = a := by omega
                rw [e] at q2
                exact absurd q2.2.1 hz
        · have hz : 0 < nq V set w 0 a := (opn s i1 a ha.1 ha.2).mp c
          obtain ⟨s1, e1, f1, g1, g2⟩ := s_pushFrom hV hL hG ha i2 c i3
          refine ⟨s1, ?_, i1.tr f1, g1, ?_⟩
          · show lp_X1_reckon_77 (fuel + 1) (iv a) s = lp_X1_reckon_77 fuel (iv (a + 1)) s1
            rw [head, if_neg c, e1, ob]
          · rw [hS]
            refine Acc.cg g2 (fun a2 k2 b2 => ?_)
            constructor
            · rintro (⟨q, q2⟩ | ⟨rfl, q2, q3⟩)
              · exact ⟨by omega, q2⟩
              · exact ⟨by omega, ha, hz, q2, q3⟩
            · rintro ⟨q, q2⟩
              by_cases z : a2 = a
              · subst z
                exact Or.inr ⟨rfl, q2.2.2.1, q2.2.2.2⟩
              · exact Or.inl ⟨by omega, q2⟩)
      (to + 1 - bo).toNat FU bo S (by omega) (by omega) (by show _ < 1100; omega) ⟨Fr.rf, hM, by
        rw [smv_z (fun a h1 h2 => Nq_0 (by
          rcases Nat.eq_zero_or_pos (nq V set w 0 a) with z | z
          · exact z
          · have := inb a h1 (by omega) z
            omega))]
        refine hA.cg (fun a2 k2 b2 => ?_)
        constructor
        · exact False.elim
        · rintro ⟨q, q2, q3, -⟩
          have := inb a2 q2.1 q2.2 q3
          omega⟩
    obtain ⟨s1, f1, e1, i1, i2, i3⟩ := main
    refine ⟨s1, ?_, i1, i2, ?_⟩
    · have e2 : lp_X1_reckon_77 FU (iv bo) S = lp_X1_reckon_77 (f1 + 1) (iv (to + 1)) s1 := e1
      have e3 : s1.1 30 3 = iv to := by rw [i1.1 30 (by decide)]; exact b2
      rw [b1, e2, lp_X1_reckon_77, e3, if_pos (y_lt (a := to) (b := to + 1) (by omega))]
    · rw [← smv_up (v := to + 1) (by omega) (by omega) (fun a h1 h2 => Nq_0 (by
        rcases Nat.eq_zero_or_pos (nq V set w 0 a) with z | z
        · exact z
        · have := inb a (by omega) h2 z
          omega))]
      refine i3.cg (fun a2 k2 b2 => ?_)
      constructor
      · exact fun q => q.2
      · intro q
        have := inb a2 q.1.1 q.1.2 q.2.1
        exact ⟨by omega, q⟩
  · have no : ∀ a, -50 ≤ a → a ≤ 50 → nq V set w 0 a = 0 := fun a h1 h2 => by
      rcases Nat.eq_zero_or_pos (nq V set w 0 a) with z | z
      · exact z
      · have := inb a h1 h2 z
        omega
    refine ⟨S, ?_, Fr.rf, hM, ?_⟩
    · rw [b1, show FU = 1099 + 1 from rfl, lp_X1_reckon_77, b2, if_pos (y_lt (a := to) (b := bo) (by omega))]
    · have e : sm (Nq V set w L G) = 0 := smv_z (fun a h1 h2 => Nq_0 (no a h1 (by omega)))
      rw [e]
      refine hA.cg (fun a2 k2 b2 => ?_)
      constructor
      · exact False.elim
      · rintro ⟨q2, q3, -⟩
        rw [no a2 q2.1 q2.2] at q3
        omega
