/-! THE DESK: a car settled -/
def Bnd (S : QS) (k : Nat) : Prop := ∃ bo to : Int, S.1 k 2 = iv bo ∧ S.1 k 3 = iv to ∧ -50 ≤ bo ∧ bo ≤ 51 ∧ -51 ≤ to ∧ to ≤ 50 ∧ ∀ u, -50 ≤ u → u ≤ 50 → S.1 (k + 1) (ix u) ≠ -1 → bo ≤ u ∧ u ≤ to
theorem Bnd.fr {S S1 : QS} {k : Nat} (h : Bnd S k) (h1 : S1.1 k = S.1 k) (h2 : S1.1 (k + 1) = S.1 (k + 1)) : Bnd S1 k := by
  unfold Bnd at h ⊢
  rw [h1, h2]
  exact h
/-- a car's places once it is settled -/
def Set1 (V : Vw) (set : Nat) (w : Int) (c k : Nat) (u : Int) (S : QS) : Prop := MinP (S.1 (k + 5) (ix u)) (PA V set w c u) ∧ (S.1 (k + 5) (ix u) ≠ -1 → S.1 (k + 10) (ix u) = iv (nq V set w c u : Int)) ∧ S.1 (k + 8) (ix u) = if aq V set w c u then iv (pq V (3 * c + 2) u : Int) else -1
theorem Set1.fr {V : Vw} {set : Nat} {w : Int} {c k : Nat} {u : Int} {S S1 : QS} (h : Set1 V set w c k u S) (h1 : S1.1 (k + 5) (ix u) = S.1 (k + 5) (ix u)) (h2 : S1.1 (k + 10) (ix u) = S.1 (k + 10) (ix u)) (h3 : S1.1 (k + 8) (ix u) = S.1 (k + 8) (ix u)) : Set1 V set w c k u S1 := by
  unfold Set1 at h ⊢
  rw [h1, h2, h3]
  exact h
theorem s_after {V : Vw} (hV : VOk V) {set : Nat} {w : Int} {c k : Nat} {S : QS} (hc : CF V set w c k S) {v : Int} (hv : -50 ≤ v ∧ v ≤ 50) (hp : S.1 (k + 8) (ix v) = if lq V set (3 * c + 2) v then iv (pq V (3 * c + 2) v : Int) else -1) :
    ∃ S1, ((if (S.1 k 9) = 0 then (some S) else ((f_X0_isTakenBehind k (iv v) S).bind fun v6 => if v6 = 0 then ((f_X3_setPrice (k + 7) (iv v) (-1) S).bind fun S8 => some S8) else (some S))) : Option QS) = some S1 ∧ Fr [k + 8] S S1 ∧ (∀ u, -50 ≤ u → u ≠ v → S1.1 (k + 8) (ix u) = S.1 (k + 8) (ix u)) ∧ S1.1 (k + 8) (ix v) = if aq V set w c v then iv (pq V (3 * c + 2) v : Int) else -1 := by
  obtain ⟨-, -, c7, c8, c9, -⟩ := hc
  have b1 := sL_b hV w c true
  have b3 := sH_b hV w c true
  rw [c9, s_takenB hv c7 c8 (by omega) (by omega), ob]
  by_cases n0 : sN V w c true = 0
  · refine ⟨S, ?_, Fr.rf, fun u _ _ => rfl, ?_⟩
    · rw [if_pos (b2_0.mpr (by simp [n0]))]
    · rw [hp]
      have e : aq V set w c v = lq V set (3 * c + 2) v := by
        unfold aq tkB
        rw [decide_eq_true n0, Bool.true_or, Bool.and_true]
      rw [e]
  · rw [if_neg (b2_n.mpr (by simp [n0]))]
    have e : aq V set w c v = (lq V set (3 * c + 2) v && (decide (sL V w c true ≤ 51 * v * v) && decide (51 * v * v ≤ sH V w c true))) := by
      unfold aq tkB
      rw [decide_eq_false n0, Bool.false_or]
    cases ht : (decide (sL V w c true ≤ 51 * v * v) && decide (51 * v * v ≤ sH V w c true)) with
    | true =>
      refine ⟨S, by rw [if_neg (by decide)], Fr.rf, fun u _ _ => rfl, ?_⟩
      rw [hp, e, ht, Bool.and_true]
    | false =>
      refine ⟨setF (k + 8) (ix v) (-1) S, ?_, Fr.set (by simp), fun u hu hne => st_nej (ix_ne hu hv.1 hne), ?_⟩
      · rw [if_pos (by decide), s_setPrice hv, ob]
      · rw [st_eq, e, ht, Bool.and_false]
        rfl
theorem s_settle {V : Vw} (hV : VOk V) {set : Nat} {w : Int} {c k : Nat} {S : QS} (hc : CF V set w c k S)
    (hA : ∀ v, -50 ≤ v → v ≤ 50 → S.1 (k + 5) (ix v) = if lq V set (3 * c + 1) v then iv (pq V (3 * c + 1) v : Int) else -1) (hB : ∀ v, -50 ≤ v → v ≤ 50 → S.1 (k + 8) (ix v) = if lq V set (3 * c + 2) v then iv (pq V (3 * c + 2) v : Int) else -1) :
    ∃ S1, f_X0_settle k S = some S1 ∧ Fr [k + 4, k + 5, k + 7, k + 8, k + 10] S S1 ∧ (S1.1 (k + 4) 0 = S.1 (k + 4) 0 ∧ S1.1 (k + 4) 1 = S.1 (k + 4) 1 ∧ S1.1 (k + 7) 0 = S.1 (k + 7) 0 ∧ S1.1 (k + 7) 1 = S.1 (k + 7) 1) ∧
      (∀ u, -50 ≤ u → u ≤ 50 → Set1 V set w c k u S1) ∧ Bnd S1 (k + 4) ∧ Bnd S1 (k + 7) := by
  have main := loop50 (fun fuel v s => lp_X0_settle_3 k fuel v s) id (fun v s => Fr [k + 5, k + 8, k + 10] S s ∧ (∀ u, -50 ≤ u → u < v → Set1 V set w c k u s) ∧ ∀ u, v ≤ u → -50 ≤ u → s.1 (k + 5) (ix u) = S.1 (k + 5) (ix u) ∧ s.1 (k + 8) (ix u) = S.1 (k + 8) (ix u))
    (fun fuel s => by
      show lp_X0_settle_3 k (fuel + 1) (iv 51) s = some s
      rw [lp_X0_settle_3, if_pos gt50])
    (fun fuel v s h3 h4 hI => by
      obtain ⟨i1, i2, i3⟩ := hI
      have hv : -50 ≤ v ∧ v ≤ 50 := ⟨h3, h4⟩
      have hc1 : CF V set w c k s := hc.fr (i1.1 k (by simp)) (i1.1 (k + 2) (by simp))
      obtain ⟨s1, e1, f1, g1, g2⟩ := s_after hV hc1 hv (by rw [(i3 v (Int.le_refl v) h3).2]; exact hB v h3 h4)
      have hc2 : CF V set w c k s1 := hc1.fr (f1.1 k (by simp)) (f1.1 (k + 2) (by simp))
      have e5 : s1.1 (k + 5) = s.1 (k + 5) := f1.1 (k + 5) (by simp)
      have e10 : s1.1 (k + 10) = s.1 (k + 10) := f1.1 (k + 10) (by simp)
      have e5v : s1.1 (k + 5) (ix v) = if lq V set (3 * c + 1) v then iv (pq V (3 * c + 1) v : Int) else -1 := by rw [e5, (i3 v (Int.le_refl v) h3).1]; exact hA v h3 h4
      have hpq := pq_le hV (3 * c + 1) v
      cases hl : lq V set (3 * c + 1) v with
      | false =>
        rw [hl] at e5v
        have e5w : s1.1 (k + 4 + 1) (ix v) = -1 := e5v
        refine ⟨s1, ?_, i1.tr (f1.mono (by simp)), fun u hu1 hu2 => ?_, fun u hu1 hu2 => ?_⟩
        · show lp_X0_settle_3 k (fuel + 1) (iv v) s = lp_X0_settle_3 k fuel (iv (v + 1)) s1
          rw [lp_X0_settle_3, if_neg (hi50 h4), e1, ob, s_isOpen hv, e5w, if_pos rfl, ob, if_pos rfl, iv_one]
        · by_cases cu : u = v
          · subst cu
            refine ⟨?_, fun z => absurd e5v z, g2⟩
            rw [show s1.1 (k + 5) (ix u) = -1 from e5v]
            exact MinP.none (fun x hx => by
              unfold PA at hx
              rw [hl] at hx
              exact absurd hx.1 (by decide))
          · exact (i2 u hu1 (by omega)).fr (by rw [e5]) (by rw [e10]) (g1 u hu1 cu)
        · exact ⟨by rw [e5]; exact (i3 u (by omega) hu2).1, by rw [g1 u hu2 (by omega)]; exact (i3 u (by omega) hu2).2⟩
      | true =>
        rw [hl] at e5v
        have e5w : s1.1 (k + 4 + 1) (ix v) = iv (pq V (3 * c + 1) v : Int) := e5v
        obtain ⟨y, hy, ey⟩ := s_join hV hc2 hv hl e5v
        refine ⟨setF (k + 5) (ix v) y (setF (k + 10) (ix v) (iv (nq V set w c v : Int)) s1), ?_, ((i1.tr (f1.mono (by simp))).tr (Fr.set (by simp))).tr (Fr.set (by simp)), fun u hu1 hu2 => ?_, fun u hu1 hu2 => ?_⟩
        · show lp_X0_settle_3 k (fuel + 1) (iv v) s = lp_X0_settle_3 k fuel (iv (v + 1)) _
          rw [lp_X0_settle_3, if_neg (hi50 h4), e1, ob, s_isOpen hv, e5w, if_neg (iv_nm1 (by omega)), ob, if_neg (by decide), ey, ob, iv_one]
        · by_cases cu : u = v
          · subst cu
            refine ⟨by rw [st_eq]; exact hy, fun _ => by rw [st_nek (by omega), st_eq], ?_⟩
            rw [st_nek (by omega), st_nek (by omega)]
            exact g2
          · have hn := ix_ne hu1 h3 cu
            exact (i2 u hu1 (by omega)).fr (by rw [st_nej hn, st_nek (by omega), e5]) (by rw [st_nek (by omega), st_nej hn, e10]) (by rw [st_nek (by omega), st_nek (by omega)]; exact g1 u hu1 cu)
        · have hn := ix_ne hu2 h3 (by omega : u ≠ v)
          exact ⟨by rw [st_nej hn, st_nek (by omega), e5]; exact (i3 u (by omega) hu2).1, by rw [st_nek (by omega), st_nek (by omega), g1 u hu2 (by omega)]; exact (i3 u (by omega) hu2).2⟩)
    S ⟨Fr.rf, fun u hu1 hu2 => by omega, fun u _ _ => ⟨rfl, rfl⟩⟩
  obtain ⟨s1, e1, i1, i2, -⟩ := main
  obtain ⟨s2, e2, f2, j1, j2, j3⟩ := s_bound (k := k + 4) (S := s1)
  obtain ⟨s3, e3, f3, l1, l2, l3⟩ := s_bound (k := k + 7) (S := s2)
  have hb1 : Bnd s2 (k + 4) := by
    obtain ⟨bo, to, p1, p2, p3, p4, p5, p6, p7⟩ := j3
    exact ⟨bo, to, p1, p2, p3, p4, p5, p6, fun u h1 h2 h3 => p7 u h1 h2 (by rw [← f2.1 (k + 4 + 1) (by simp)]; exact h3)⟩
  have hb2 : Bnd s3 (k + 7) := by
    obtain ⟨bo, to, p1, p2, p3, p4, p5, p6, p7⟩ := l3
    exact ⟨bo, to, p1, p2, p3, p4, p5, p6, fun u h1 h2 h3 => p7 u h1 h2 (by rw [← f3.1 (k + 7 + 1) (by simp)]; exact h3)⟩
  refine ⟨s3, ?_, ((i1.mono (by simp)).tr (f2.mono (by simp))).tr (f3.mono (by simp)), ⟨?_, ?_, ?_, ?_⟩, fun u hu1 hu2 => ?_, hb1.fr (f3.1 _ (by simp)) (f3.1 _ (by simp)), hb2⟩
  · unfold f_X0_settle
    rw [c_m50]
    have e1 : lp_X0_settle_3 k FU (iv (-50)) S = some s1 := e1
    rw [e1, ob, e2, ob, e3, ob]
  · rw [f3.1 (k + 4) (by simp), j1, i1.1 (k + 4) (by simp)]
  · rw [f3.1 (k + 4) (by simp), j2, i1.1 (k + 4) (by simp)]
  · rw [l1, f2.1 (k + 7) (by simp), i1.1 (k + 7) (by simp)]
  · rw [l2, f2.1 (k + 7) (by simp), i1.1 (k + 7) (by simp)]
  · exact (i2 u hu1 (by omega)).fr (by rw [f3.1 (k + 5) (by simp), f2.1 (k + 5) (by simp)]) (by rw [f3.1 (k + 10) (by simp), f2.1 (k + 10) (by simp)]) (by rw [f3.1 (k + 8) (by simp), f2.1 (k + 8) (by simp)])
