/-! the meeting reckoned -/
def qL (V : Vw) : Int := (((vM V 1).toNat / Nat.gcd (vM V 1).toNat (vM V 0).toNat : Nat) : Int)
def qG (V : Vw) : Int := (((vM V 0).toNat / Nat.gcd (vM V 0).toNat (vM V 1).toNat : Nat) : Int)
theorem share_b {m o : Nat} (hm : 1 ≤ m ∧ m ≤ 100) : 1 ≤ ((m / Nat.gcd m o : Nat) : Int) ∧ ((m / Nat.gcd m o : Nat) : Int) ≤ 100 := by
  have h1 : Nat.gcd m o ∣ m := Nat.gcd_dvd_left m o
  have h2 : 0 < Nat.gcd m o := Nat.gcd_pos_of_pos_left o (by omega)
  have h3 : Nat.gcd m o ≤ m := Nat.le_of_dvd (by omega) h1
  have h4 : 1 ≤ m / Nat.gcd m o := (Nat.one_le_div_iff h2).mpr h3
  have h5 : m / Nat.gcd m o ≤ m := Nat.div_le_self _ _
  omega
/-- the prices and what is seen before the meeting is reckoned -/
def Ready (V : Vw) (set : Nat) (w : Int) (S : QS) : Prop := (S.1 26 0 = iv (vM V 0) ∧ S.1 37 0 = iv (vM V 1)) ∧ CF V set w 0 26 S ∧ CF V set w 1 37 S ∧
  (∀ v, -50 ≤ v → v ≤ 50 → (S.1 31 (ix v) = if lq V set 1 v then iv (pq V 1 v : Int) else -1) ∧ (S.1 34 (ix v) = if lq V set 2 v then iv (pq V 2 v : Int) else -1) ∧ (S.1 42 (ix v) = if lq V set 4 v then iv (pq V 4 v : Int) else -1) ∧ (S.1 45 (ix v) = if lq V set 5 v then iv (pq V 5 v : Int) else -1)) ∧
  ∀ k, k ∈ [29, 32, 35, 40, 43, 46] → ∀ v, -50 ≤ v → v ≤ 50 → S.1 k (ix v) = 0
/-- what the desk shows once it has reckoned -/
def Res (V : Vw) (set : Nat) (w : Int) (S : QS) : Prop := Acc V set w (qL V) (qG V) (TT V set w (qL V) (qG V)) (sm (Nq V set w (qL V) (qG V))) S ∧
  (∀ f, -50 ≤ f → f ≤ 50 → Flag (S.1 29 (ix f)) (∃ u, (-50 ≤ u ∧ u ≤ 50) ∧ (∃ k b, TT V set w (qL V) (qG V) u k b) ∧ fq V set w 0 f u = true)) ∧
  ∀ f, -50 ≤ f → f ≤ 50 → Flag (S.1 40 (ix f)) (∃ u, (-50 ≤ u ∧ u ≤ 50) ∧ (∃ a k, TT V set w (qL V) (qG V) a k u) ∧ fq V set w 1 f u = true)
theorem s_reckon1 {V : Vw} (hV : VOk V) {set : Nat} {w : Int} {S : QS} (hR : Ready V set w S) :
    ∃ S1, f_X1_reckon S = some S1 ∧ Fr [25, 29, 30, 31, 32, 33, 34, 35, 36, 40, 41, 42, 43, 44, 45, 46, 47] S S1 ∧ (∀ r, r < 6 → S1.1 (kp r) 0 = S.1 (kp r) 0 ∧ S1.1 (kp r) 1 = S.1 (kp r) 1) ∧ Res V set w S1 := by
  obtain ⟨⟨m0, m1⟩, hc0, hc1, hp, hz⟩ := hR
  have M0 := hV.1 0 (by decide)
  have M1 := hV.1 1 (by decide)
  obtain ⟨s0, hs0⟩ : ∃ s0, s0 = setF 25 5 (iv (qG V)) (setF 25 4 (iv (qL V)) (setF 25 3 (-1) (setL 25 0 S))) := ⟨_, rfl⟩
  have f0 : Fr [25] S s0 := by
    rw [hs0]
    exact (((Fr.setL (by simp)).tr (Fr.set (by simp))).tr (Fr.set (by simp))).tr (Fr.set (by simp))
  have k0 : ∀ j, j ≠ 25 → s0.1 j = S.1 j := fun j hj => f0.1 j (nm1 hj)
  have hL : 1 ≤ qL V ∧ qL V ≤ 100 := share_b (by omega)
  have hG : 1 ≤ qG V ∧ qG V ≤ 100 := share_b (by omega)
  obtain ⟨s1, e1, f1, g1, a1, bn1, bn2⟩ := s_settle hV (c := 0) (k := 26) (S := s0) (hc0.fr (k0 26 (by decide)) (k0 28 (by decide))) (fun v h1 h2 => by rw [k0 31 (by decide)]; exact (hp v h1 h2).1) (fun v h1 h2 => by rw [k0 34 (by decide)]; exact (hp v h1 h2).2.1)
  have k1 : ∀ j, j ∉ [30, 31, 33, 34, 36] → s1.1 j = s0.1 j := fun j hj => f1.1 j hj
  obtain ⟨s2, e2, f2, g2, a2, bn3, bn4⟩ := s_settle hV (c := 1) (k := 37) (S := s1) (hc1.fr (by rw [k1 37 (by decide), k0 37 (by decide)]) (by rw [k1 39 (by decide), k0 39 (by decide)])) (fun v h1 h2 => by rw [k1 42 (by decide), k0 42 (by decide)]; exact (hp v h1 h2).2.2.1) (fun v h1 h2 => by rw [k1 45 (by decide), k0 45 (by decide)]; exact (hp v h1 h2).2.2.2)
  have k2 : ∀ j, j ∉ [41, 42, 44, 45, 47] → s2.1 j = s1.1 j := fun j hj => f2.1 j hj
  have l2 : s2.2 25 = lN 0 := by rw [f2.2 25 (by decide), f1.2 25 (by decide), hs0]; rfl
  have c3 : s2.1 25 3 = -1 := by rw [k2 25 (by decide), k1 25 (by decide), hs0, st_nej (by decide), st_nej (by decide), st_eq]
  have c4 : s2.1 25 4 = iv (qL V) := by rw [k2 25 (by decide), k1 25 (by decide), hs0, st_nej (by decide), st_eq]
  have c5 : s2.1 25 5 = iv (qG V) := by rw [k2 25 (by decide), k1 25 (by decide), hs0, st_eq]
  have hM : Md V set w (qL V) (qG V) s2 := ⟨c4, c5, fun u h1 h2 => (a1 u h1 h2).fr (by rw [k2 (26 + 5) (by decide)]) (by rw [k2 (26 + 10) (by decide)]) (by rw [k2 (26 + 8) (by decide)]), a2, bn1.fr (k2 30 (by decide)) (k2 31 (by decide)), bn2.fr (k2 33 (by decide)) (k2 34 (by decide)), bn3, bn4⟩
  have z2 : ∀ k, k ∈ [29, 32, 35, 40, 43, 46] → ∀ v, -50 ≤ v → v ≤ 50 → s2.1 k (ix v) = 0 := fun k hk v h1 h2 => by
    have e : s2.1 k = S.1 k := by
      simp only [List.mem_cons, List.not_mem_nil, or_false] at hk
      rcases hk with rfl | rfl | rfl | rfl | rfl | rfl <;> rw [k2 _ (by decide), k1 _ (by decide), k0 _ (by decide)]
    rw [e]
    exact hz k hk v h1 h2
  have hA : Acc V set w (qL V) (qG V) (fun _ _ _ => False) 0 s2 := ⟨l2, by rw [c3]; exact MinP.none (fun x ⟨_, _, _, q, _⟩ => q), fun u h1 h2 => ⟨Or.inr ⟨z2 32 (by decide) u h1 h2, fun ⟨_, _, q⟩ => q⟩, Or.inr ⟨z2 35 (by decide) u h1 h2, fun ⟨_, _, _, q, _⟩ => q⟩, Or.inr ⟨z2 43 (by decide) u h1 h2, fun ⟨_, _, q⟩ => q⟩, Or.inr ⟨z2 46 (by decide) u h1 h2, fun ⟨_, _, _, q, _⟩ => q⟩⟩⟩
  obtain ⟨s3, e3, f3, hM3, hA3⟩ := s_mainloop hV hL hG hM hA
  have k3 : ∀ j, j ∉ [25, 32, 35, 43, 46] → s3.1 j = s2.1 j := fun j hj => f3.1 j hj
  obtain ⟨m4, m5, t0, t1, ⟨bo, to, b1, b2, b3, b4, b5, b6, b7⟩, -, ⟨bo2, to2, d1, d2, d3, d4, d5, d6, d7⟩, -⟩ := id hM3
  obtain ⟨s4, e4, f4, g4⟩ := s_seeFirsts hV (c := 0) (k := 26) (S := s3) (hc0.fr (by rw [k3 26 (by decide), k2 26 (by decide), k1 26 (by decide), k0 26 (by decide)]) (by rw [k3 28 (by decide), k2 28 (by decide), k1 28 (by decide), k0 28 (by decide)])) b1 b2 b3 b4 b5 b6
    (P := fun u => ∃ k b, TT V set w (qL V) (qG V) u k b) (fun u h1 h2 => (hA3.2.2 u h1 h2).1) (fun u h1 h2 ⟨k, b, q⟩ => b7 u h1 h2 ((t0 u h1 h2).1.ne.mpr (PA_ex.mpr q.2.1))) (fun f h1 h2 => by rw [show s3.1 (26 + 3) = s3.1 29 from rfl, k3 29 (by decide)]; exact z2 29 (by decide) f h1 h2)
  have k4 : ∀ j, j ≠ 29 → s4.1 j = s3.1 j := fun j hj => f4.1 j (nm1 hj)
  obtain ⟨s5, e5, f5, g5⟩ := s_seeFirsts hV (c := 1) (k := 37) (S := s4) (hc1.fr (by rw [k4 37 (by decide), k3 37 (by decide), k2 37 (by decide), k1 37 (by decide), k0 37 (by decide)]) (by rw [k4 39 (by decide), k3 39 (by decide), k2 39 (by decide), k1 39 (by decide), k0 39 (by decide)])) (by rw [k4 (37 + 4) (by decide)]; exact d1) (by rw [k4 (37 + 4) (by decide)]; exact d2) d3 d4 d5 d6
    (P := fun u => ∃ a k, TT V set w (qL V) (qG V) a k u) (fun u h1 h2 => by rw [k4 (37 + 6) (by decide)]; exact (hA3.2.2 u h1 h2).2.2.1) (fun u h1 h2 ⟨a, k, q⟩ => d7 u h1 h2 ((t1 u h1 h2).1.ne.mpr (PA_ex.mpr (by
      have h4 := q.2.2.2.2.2
      simp only [Bool.and_eq_true] at h4
      have h5 := h4.2
      unfold okq at h5
      simp only [Bool.and_eq_true, decide_eq_true_eq] at h5
      exact h5.1)))) (fun f h1 h2 => by rw [show s4.1 (37 + 3) = s4.1 40 from rfl, k4 40 (by decide), k3 40 (by decide)]; exact z2 40 (by decide) f h1 h2)
  have k5 : ∀ j, j ≠ 40 → s5.1 j = s4.1 j := fun j hj => f5.1 j (nm1 hj)
  have fl : ∀ j, j ≠ 29 → j ≠ 40 → s5.1 j = s3.1 j := fun j h1 h2 => by rw [k5 j h2, k4 j h1]
  refine ⟨s5, ?_, ?_, fun r hr => ?_, ⟨?_, ?_, fun f h1 h2 => ?_⟩, fun f h1 h2 => ?_, fun f h1 h2 => ?_⟩
  · unfold f_X1_reckon
    show (f_X1_lowestShare (S.1 37 0) (S.1 26 0)).bind _ = _
    have q1 : f_X1_lowestShare (iv (vM V 1)) (iv (vM V 0)) = some (iv (qL V)) := by
      have h := s_share (m := (vM V 1).toNat) (o := (vM V 0).toNat) (by omega) (by omega)
      rw [Int.toNat_of_nonneg (by omega), Int.toNat_of_nonneg (by omega)] at h
      exact h
    have q2 : f_X1_lowestShare (iv (vM V 0)) (iv (vM V 1)) = some (iv (qG V)) := by
      have h := s_share (m := (vM V 0).toNat) (o := (vM V 1).toNat) (by omega) (by omega)
      rw [Int.toNat_of_nonneg (by omega), Int.toNat_of_nonneg (by omega)] at h
      exact h
    rw [m0, m1, q1, ob]
    show (f_X1_lowestShare ((setF 25 4 (iv (qL V)) (setF 25 3 (-1) (setL 25 0 S))).1 26 0) ((setF 25 4 (iv (qL V)) (setF 25 3 (-1) (setL 25 0 S))).1 37 0)).bind _ = _
    rw [st_nek (by decide), st_nek (by decide), st_nek (by decide), st_nek (by decide), sl_1, m0, m1, q2, ob]
    show (f_X0_settle 26 (setF 25 5 (iv (qG V)) (setF 25 4 (iv (qL V)) (setF 25 3 (-1) (setL 25 0 S))))).bind _ = _
    rw [← hs0, e1, ob, e2, ob, e3, ob, e4, ob, e5, ob]
  · exact (((((f0.mono (by simp)).tr (f1.mono (by simp))).tr (f2.mono (by simp))).tr (f3.mono (by simp))).tr (f4.mono (by simp))).tr (f5.mono (by simp))
  · rcases (show r = 0 ∨ r = 1 ∨ r = 2 ∨ r = 3 ∨ r = 4 ∨ r = 5 by omega) with rfl | rfl | rfl | rfl | rfl | rfl
    · rw [show kp 0 = 27 from rfl, fl 27 (by decide) (by decide), k3 27 (by decide), k2 27 (by decide), k1 27 (by decide), k0 27 (by decide)]
      exact ⟨rfl, rfl⟩
    · rw [show kp 1 = 30 from rfl, fl 30 (by decide) (by decide), k3 30 (by decide), k2 30 (by decide), ← k0 30 (by decide)]
      exact ⟨g1.1, g1.2.1⟩
    · rw [show kp 2 = 33 from rfl, fl 33 (by decide) (by decide), k3 33 (by decide), k2 33 (by decide), ← k0 33 (by decide)]
      exact ⟨g1.2.2.1, g1.2.2.2⟩
    · rw [show kp 3 = 38 from rfl, fl 38 (by decide) (by decide), k3 38 (by decide), k2 38 (by decide), k1 38 (by decide), k0 38 (by decide)]
      exact ⟨rfl, rfl⟩
    · rw [show kp 4 = 41 from rfl, fl 41 (by decide) (by decide), k3 41 (by decide), ← k0 41 (by decide), ← k1 41 (by decide)]
      exact ⟨g2.1, g2.2.1⟩
    · rw [show kp 5 = 44 from rfl, fl 44 (by decide) (by decide), k3 44 (by decide), ← k0 44 (by decide), ← k1 44 (by decide)]
      exact ⟨g2.2.2.1, g2.2.2.2⟩
  · rw [f5.2 25 (by decide), f4.2 25 (by decide)]
    exact hA3.1
  · rw [fl 25 (by decide) (by decide)]
    exact hA3.2.1
  · rw [fl 32 (by decide) (by decide), fl 35 (by decide) (by decide), fl 43 (by decide) (by decide), fl 46 (by decide) (by decide)]
    exact hA3.2.2 f h1 h2
  · rw [k5 29 (by decide)]
    exact g4 f h1 h2
  · exact g5 f h1 h2
