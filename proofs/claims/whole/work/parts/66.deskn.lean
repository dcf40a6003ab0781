/-! the desk reckons -/
def rowOf (c j : Nat) : Nat := 3 * c + j / 3
theorem pz_0 {V : Vw} {set r : Nat} {S : QS} (h : ∀ u, -50 ≤ u → u ≤ 50 → S.1 (kp r + 1) (ix u) = if vLo V r ≤ u ∧ u ≤ vHi V r then 0 else -1) : Pz V set 0 r S := by
  intro u h1 h2
  rw [h u h1 h2]
  have e : ltN V set r u 0 = (decide (vLo V r ≤ u) && decide (u ≤ vHi V r)) := by
    unfold ltN
    rw [show allB (fun t => !(tB V r u t && set.testBit t)) 0 = true from rfl, Bool.and_true]
  rw [e]
  by_cases c : vLo V r ≤ u ∧ u ≤ vHi V r
  · rw [if_pos c, decide_eq_true c.1, decide_eq_true c.2, if_pos (by decide)]
    rfl
  · rw [if_neg c, if_neg]
    intro z
    simp only [Bool.and_eq_true, decide_eq_true_eq] at z
    exact c z
theorem cl_hyp {V : Vw} (hV : VOk V) {S : QS} (hD : DR V S) {c : Nat} (hc : c < 2) : (∀ j, -1000 ≤ (if j < 9 then vLo V (rowOf c j) else 0) ∧ (if j < 9 then vLo V (rowOf c j) else 0) ≤ 1000 ∧ -1000 ≤ (if j < 9 then vHi V (rowOf c j) else 0) ∧ (if j < 9 then vHi V (rowOf c j) else 0) ≤ 1000) ∧
    ∀ j, j = 1 ∨ j = 4 ∨ j = 7 → S.1 (26 + 11 * c + j) 0 = iv (if j < 9 then vLo V (rowOf c j) else 0) ∧ S.1 (26 + 11 * c + j) 1 = iv (if j < 9 then vHi V (rowOf c j) else 0) := by
  refine ⟨fun j => ?_, fun j hj => ?_⟩
  · by_cases h : j < 9
    · have := hV.2.1 (rowOf c j) (by unfold rowOf; omega)
      rw [if_pos h, if_pos h]
      omega
    · rw [if_neg h, if_neg h]
      omega
  · have h := hD.2.1 (rowOf c j) (by unfold rowOf; omega)
    have e : kp (rowOf c j) = 26 + 11 * c + j := by
      rcases (show c = 0 ∨ c = 1 by omega) with rfl | rfl <;> rcases hj with rfl | rfl | rfl <;> rfl
    rw [e] at h
    rw [if_pos (by omega), if_pos (by omega)]
    exact h
theorem s_ct {V : Vw} (hV : VOk V) {set : Nat} (hset : set < 1024) {w : Int} (hw : -1 ≤ w ∧ w ≤ 100) {S : QS} (hD : DR V S) :
    ∃ S1, ct_X5_reckon_24 (nI set) (iv w) S = some S1 ∧ Dk S S1 ∧ (∀ k, 48 ≤ k → S1.1 k = S.1 k ∧ S1.2 k = S.2 k) ∧ Res V set w S1 ∧ S1.1 0 5 = 1 ∧ S1.1 0 6 = nI set ∧ S1.1 0 7 = iv w := by
  obtain ⟨hb0, hs0⟩ := cl_hyp hV hD (c := 0) (by decide)
  obtain ⟨s1, e1, f1, g1, a5, a6, a7, a8, a9, p1⟩ := s_carclear (k := 26) (S := S) hb0 hs0
  have k1 : ∀ j, j ∉ [26, 28, 29, 31, 32, 34, 35] → s1.1 j = S.1 j := fun j hj => f1.1 j hj
  have d1 : Dk S s1 := Dk.of2 f1 (by decide) g1 (by rw [k1 37 (by decide)])
  obtain ⟨hb1, hs1⟩ := cl_hyp hV (hD.dk hV d1) (c := 1) (by decide)
  obtain ⟨s2, e2, f2, g2, b5, b6, b7, b8, b9, p2⟩ := s_carclear (k := 37) (S := s1) hb1 hs1
  have k2 : ∀ j, j ∉ [37, 39, 40, 42, 43, 45, 46] → s2.1 j = s1.1 j := fun j hj => f2.1 j hj
  have d2 : Dk s1 s2 := Dk.of2 f2 (by decide) (by rw [k2 26 (by decide)]) g2
  have hD2 := (hD.dk hV d1).dk hV d2
  have hPz : ∀ r, r < 6 → Pz V set 0 r s2 := fun r hr => pz_0 (fun u h1 h2 => by
    rcases (show r = 0 ∨ r = 1 ∨ r = 2 ∨ r = 3 ∨ r = 4 ∨ r = 5 by omega) with rfl | rfl | rfl | rfl | rfl | rfl
    · rw [show kp 0 + 1 = 28 from rfl, k2 28 (by decide)]; exact (p1 1 (by decide) u h1 h2).1
    · rw [show kp 1 + 1 = 31 from rfl, k2 31 (by decide)]; exact (p1 4 (by decide) u h1 h2).1
    · rw [show kp 2 + 1 = 34 from rfl, k2 34 (by decide)]; exact (p1 7 (by decide) u h1 h2).1
    · exact (p2 1 (by decide) u h1 h2).1
    · exact (p2 4 (by decide) u h1 h2).1
    · exact (p2 7 (by decide) u h1 h2).1)
  have hz2 : ∀ k, k ∈ [29, 32, 35, 40, 43, 46] → ∀ v, -50 ≤ v → v ≤ 50 → s2.1 k (ix v) = 0 := fun k hk v h1 h2 => by
    simp only [List.mem_cons, List.not_mem_nil, or_false] at hk
    rcases hk with rfl | rfl | rfl | rfl | rfl | rfl
    · rw [k2 29 (by decide)]; exact (p1 1 (by decide) v h1 h2).2
    · rw [k2 32 (by decide)]; exact (p1 4 (by decide) v h1 h2).2
    · rw [k2 35 (by decide)]; exact (p1 7 (by decide) v h1 h2).2
    · exact (p2 1 (by decide) v h1 h2).2
    · exact (p2 4 (by decide) v h1 h2).2
    · exact (p2 7 (by decide) v h1 h2).2
  obtain ⟨s3, e3, f3, hPz3⟩ := s_tales hV hset hD2 hPz
  have k3 : ∀ j, j ∉ [28, 31, 34, 39, 42, 45] → s3.1 j = s2.1 j := fun j hj => f3.1 j hj
  have d3 : Dk s2 s3 := Dk.of f3 (by decide)
  have hD3 := hD2.dk hV d3
  have ss0 : SS V w 0 26 0 s3 := by
    have e : s3.1 26 = s1.1 26 := by rw [k3 26 (by decide), k2 26 (by decide)]
    exact ⟨by rw [e]; exact a5, by rw [e]; exact a6, by rw [e]; exact a7, by rw [e]; exact a8, by rw [e]; exact a9⟩
  have ss1 : SS V w 1 37 0 s3 := by
    have e : s3.1 37 = s2.1 37 := by rw [k3 37 (by decide)]
    exact ⟨by rw [e]; exact b5, by rw [e]; exact b6, by rw [e]; exact b7, by rw [e]; exact b8, by rw [e]; exact b9⟩
  obtain ⟨s4, e4, f4, g4, h40, h41⟩ := s_skids hV hw hD3 ss0 ss1
  have k4 : ∀ j, j ∉ [26, 37] → s4.1 j = s3.1 j := fun j hj => f4.1 j hj
  have d4 : Dk s3 s4 := Dk.of2 f4 (by decide) g4.1 g4.2
  have hD4 := hD3.dk hV d4
  have price : ∀ r, r < 6 → ∀ u, -50 ≤ u → u ≤ 50 → s4.1 (kp r + 1) (ix u) = if lq V set r u then iv (pq V r u : Int) else -1 := fun r hr u h1 h2 => by
    rw [k4 (kp r + 1) (by have := kp_cases hr; simp <;> omega)]
    exact hPz3 r hr u h1 h2
  have hR : Ready V set w s4 := ⟨hD4.1, ⟨h40.1, h40.2.1, h40.2.2.1, h40.2.2.2.1, h40.2.2.2.2, fun f h1 h2 => price 0 (by decide) f h1 h2⟩, ⟨h41.1, h41.2.1, h41.2.2.1, h41.2.2.2.1, h41.2.2.2.2, fun f h1 h2 => price 3 (by decide) f h1 h2⟩,
    fun v h1 h2 => ⟨price 1 (by decide) v h1 h2, price 2 (by decide) v h1 h2, price 4 (by decide) v h1 h2, price 5 (by decide) v h1 h2⟩, fun k hk v h1 h2 => by
      have e : s4.1 k = s2.1 k := by
        simp only [List.mem_cons, List.not_mem_nil, or_false] at hk
        rcases hk with rfl | rfl | rfl | rfl | rfl | rfl <;> rw [k4 _ (by decide), k3 _ (by decide)]
      rw [e]
      exact hz2 k hk v h1 h2⟩
  obtain ⟨s5, e5, f5, g5, r5⟩ := s_reckon1 hV hR
  have k5 : ∀ j, j ∉ [25, 29, 30, 31, 32, 33, 34, 35, 36, 40, 41, 42, 43, 44, 45, 46, 47] → s5.1 j = s4.1 j := fun j hj => f5.1 j hj
  have d5 : Dk s4 s5 := ⟨by rw [k5 0 (by decide)], by rw [k5 0 (by decide)], fun k h1 h2 => f5.1 k (by simp <;> omega), ⟨by rw [k5 26 (by decide)], by rw [k5 37 (by decide)]⟩, g5⟩
  obtain ⟨s6, hs6⟩ : ∃ s6, s6 = setF 0 7 (iv w) (setF 0 6 (nI set) (setF 0 5 1 s5)) := ⟨_, rfl⟩
  have k6 : ∀ j, j ≠ 0 → s6.1 j = s5.1 j := fun j hj => by rw [hs6, st_nek hj, st_nek hj, st_nek hj]
  have l6 : s6.2 = s5.2 := by rw [hs6]; rfl
  have d6 : Dk s5 s6 := by
    refine ⟨by rw [hs6, st_nej (by decide), st_nej (by decide), st_nej (by decide)], by rw [hs6, st_nej (by decide), st_nej (by decide), st_nej (by decide)], fun k h1 h2 => k6 k (by omega), ⟨by rw [k6 26 (by decide)], by rw [k6 37 (by decide)]⟩, fun r hr => ?_⟩
    have := kp_cases hr
    rw [k6 (kp r) (by omega)]
    exact ⟨rfl, rfl⟩
  refine ⟨s6, ?_, ((((d1.tr d2).tr d3).tr d4).tr d5).tr d6, fun k hk => ⟨?_, ?_⟩, ⟨⟨?_, ?_, fun u h1 h2 => ?_⟩, fun f h1 h2 => ?_, fun f h1 h2 => ?_⟩, ?_, ?_, ?_⟩
  · unfold ct_X5_reckon_24
    rw [e1, ob, e2, ob, e3, ob, e4, ob, e5, ob, stZ_ok (Or.inr rfl), ob, hs6]
    rfl
  · rw [k6 k (by omega), f5.1 k (by simp <;> omega), f4.1 k (by simp <;> omega), f3.1 k (by simp <;> omega), f2.1 k (by simp <;> omega), f1.1 k (by simp <;> omega)]
  · rw [l6, f5.2 k (by simp <;> omega), f4.2 k (by simp <;> omega), f3.2 k (by simp <;> omega), f2.2 k (by simp <;> omega), f1.2 k (by simp <;> omega)]
  · rw [l6]
    exact r5.1.1
  · rw [k6 25 (by decide)]
    exact r5.1.2.1
  · rw [k6 32 (by decide), k6 35 (by decide), k6 43 (by decide), k6 46 (by decide)]
    exact r5.1.2.2 u h1 h2
  · rw [k6 29 (by decide)]
    exact r5.2.1 f h1 h2
  · rw [k6 40 (by decide)]
    exact r5.2.2 f h1 h2
  · rw [hs6, st_nej (by decide), st_nej (by decide), st_eq]
  · rw [hs6, st_nej (by decide), st_eq]
  · rw [hs6, st_eq]
