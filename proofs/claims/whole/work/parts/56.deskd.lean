/-! THE DESK: a car cleared, a skid added -/
theorem s_carclear {k : Nat} {S : QS} {lo hi : Nat → Int} (hb : ∀ j, -1000 ≤ lo j ∧ lo j ≤ 1000 ∧ -1000 ≤ hi j ∧ hi j ≤ 1000) (hS : ∀ j, j = 1 ∨ j = 4 ∨ j = 7 → S.1 (k + j) 0 = iv (lo j) ∧ S.1 (k + j) 1 = iv (hi j)) :
    ∃ S1, f_X0_clear k S = some S1 ∧ Fr [k, k + 2, k + 3, k + 5, k + 6, k + 8, k + 9] S S1 ∧ S1.1 k 0 = S.1 k 0 ∧ S1.1 k 5 = 0 ∧ S1.1 k 6 = 0 ∧ S1.1 k 7 = 0 ∧ S1.1 k 8 = 0 ∧ S1.1 k 9 = 0 ∧
      ∀ j, j = 1 ∨ j = 4 ∨ j = 7 → ∀ u, -50 ≤ u → u ≤ 50 → S1.1 (k + j + 1) (ix u) = (if lo j ≤ u ∧ u ≤ hi j then 0 else -1) ∧ S1.1 (k + j + 2) (ix u) = 0 := by
  obtain ⟨s1, e1, f1, g1⟩ := s_clear (k := k + 1) (S := S) (hS 1 (Or.inl rfl)).1 (hS 1 (Or.inl rfl)).2 ⟨(hb 1).1, (hb 1).2.1⟩ ⟨(hb 1).2.2.1, (hb 1).2.2.2⟩
  obtain ⟨s2, e2, f2, g2⟩ := s_clear (k := k + 4) (S := s1) (by rw [f1.1 (k + 4) (by simp)]; exact (hS 4 (Or.inr (Or.inl rfl))).1) (by rw [f1.1 (k + 4) (by simp)]; exact (hS 4 (Or.inr (Or.inl rfl))).2) ⟨(hb 4).1, (hb 4).2.1⟩ ⟨(hb 4).2.2.1, (hb 4).2.2.2⟩
  obtain ⟨s3, e3, f3, g3⟩ := s_clear (k := k + 7) (S := s2) (by rw [f2.1 (k + 7) (by simp), f1.1 (k + 7) (by simp)]; exact (hS 7 (Or.inr (Or.inr rfl))).1) (by rw [f2.1 (k + 7) (by simp), f1.1 (k + 7) (by simp)]; exact (hS 7 (Or.inr (Or.inr rfl))).2) ⟨(hb 7).1, (hb 7).2.1⟩ ⟨(hb 7).2.2.1, (hb 7).2.2.2⟩
  obtain ⟨s4, hs4⟩ : ∃ s4, s4 = setF k 9 0 (setF k 8 0 (setF k 7 0 (setF k 6 0 (setF k 5 0 s3)))) := ⟨_, rfl⟩
  have fk : ∀ j, j ≠ k → s4.1 j = s3.1 j := fun j hj => by rw [hs4, st_nek hj, st_nek hj, st_nek hj, st_nek hj, st_nek hj]
  have f4 : Fr [k] s3 s4 := ⟨fun j hj => fk j (fun z => hj (by simp [z])), fun j hj => by rw [hs4]; rfl⟩
  refine ⟨s4, ?_, (((f1.mono (by simp)).tr (f2.mono (by simp))).tr (f3.mono (by simp))).tr (f4.mono (by simp)), ?_, ?_, ?_, ?_, ?_, ?_, ?_⟩
  · unfold f_X0_clear
    rw [e1, ob, e2, ob, e3, ob, hs4]
    show (stZ k 9 0 (setF k 8 0 (setF k 7 0 (setF k 6 0 (setF k 5 0 s3))))).bind _ = _
    rw [stZ_ok (Or.inl rfl), ob]
  · rw [hs4, st_nej (by decide), st_nej (by decide), st_nej (by decide), st_nej (by decide), st_nej (by decide), f3.1 k (by simp <;> omega), f2.1 k (by simp <;> omega), f1.1 k (by simp <;> omega)]
  · rw [hs4, st_nej (by decide), st_nej (by decide), st_nej (by decide), st_nej (by decide), st_eq]
  · rw [hs4, st_nej (by decide), st_nej (by decide), st_nej (by decide), st_eq]
  · rw [hs4, st_nej (by decide), st_nej (by decide), st_eq]
  · rw [hs4, st_nej (by decide), st_eq]
  · rw [hs4, st_eq]
  · rintro j (rfl | rfl | rfl) u hu1 hu2
    · rw [fk (k + 1 + 1) (by omega), fk (k + 1 + 2) (by omega), f3.1 (k + 1 + 1) (by simp), f3.1 (k + 1 + 2) (by simp), f2.1 (k + 1 + 1) (by simp), f2.1 (k + 1 + 2) (by simp)]
      exact g1 u hu1 hu2
    · rw [fk (k + 4 + 1) (by omega), fk (k + 4 + 2) (by omega), f3.1 (k + 4 + 1) (by simp), f3.1 (k + 4 + 2) (by simp)]
      exact g2 u hu1 hu2
    · rw [fk (k + 7 + 1) (by omega), fk (k + 7 + 2) (by omega)]
      exact g3 u hu1 hu2
/-- a car's sums -/
def Sums (k : Nat) (al ag bl bg : Int) (bn : Bool) (S : QS) : Prop := S.1 k 5 = iv al ∧ S.1 k 6 = iv ag ∧ S.1 k 7 = iv bl ∧ S.1 k 8 = iv bg ∧ S.1 k 9 = b2 bn
theorem s_add {k t : Nat} {al ag bl bg lo hi : Int} {bn b : Bool} {S : QS} (hk : t ≠ k) (h : Sums k al ag bl bg bn S) (hb : S.1 t 1 = b2 b) (hl : S.1 t 2 = iv lo) (hh : S.1 t 3 = iv hi) :
    ∃ S1, f_X0_add k t S = some S1 ∧ Fr [k] S S1 ∧ S1.1 k 0 = S.1 k 0 ∧ Sums k (if b then al else al + lo) (if b then ag else ag + hi) (if b then bl + lo else bl) (if b then bg + hi else bg) (bn || b) S1 := by
  obtain ⟨h5, h6, h7, h8, h9⟩ := h
  unfold f_X0_add
  cases b with
  | false =>
    refine ⟨setF k 6 (iv (ag + hi)) (setF k 5 (iv (al + lo)) S), ?_, (Fr.set (by simp)).tr (Fr.set (by simp)), by rw [st_nej (by decide), st_nej (by decide)], ?_, ?_, ?_, ?_, ?_⟩
    · rw [if_pos (by rw [hb]; rfl)]
      show some (setF k 6 _ _) = _
      rw [st_nej (by decide), st_nek hk, h5, h6, hl, hh, iv_add, iv_add]
    · rw [st_nej (by decide), st_eq]; rfl
    · rw [st_eq]; rfl
    · rw [st_nej (by decide), st_nej (by decide)]; exact h7
    · rw [st_nej (by decide), st_nej (by decide)]; exact h8
    · rw [st_nej (by decide), st_nej (by decide), Bool.or_false]; exact h9
  | true =>
    refine ⟨setF k 9 1 (setF k 8 (iv (bg + hi)) (setF k 7 (iv (bl + lo)) S)), ?_, ((Fr.set (by simp)).tr (Fr.set (by simp))).tr (Fr.set (by simp)), by rw [st_nej (by decide), st_nej (by decide), st_nej (by decide)], ?_, ?_, ?_, ?_, ?_⟩
    · rw [if_neg (by rw [hb]; decide)]
      show (stZ k 9 1 (setF k 8 _ _)).bind _ = _
      rw [stZ_ok (Or.inr rfl), ob, st_nej (by decide), st_nek hk, h7, h8, hl, hh, iv_add, iv_add]
    · rw [st_nej (by decide), st_nej (by decide), st_nej (by decide)]; exact h5
    · rw [st_nej (by decide), st_nej (by decide), st_nej (by decide)]; exact h6
    · rw [st_nej (by decide), st_nej (by decide), st_eq]; rfl
    · rw [st_nej (by decide), st_eq]; rfl
    · rw [st_eq, Bool.or_true]; rfl
/-! what the desk was told, by its places -/
def kp (r : Nat) : Nat := 27 + 3 * (r % 3) + 11 * (r / 3)
def DR (V : Vw) (S : QS) : Prop := (S.1 26 0 = iv (vM V 0) ∧ S.1 37 0 = iv (vM V 1)) ∧ (∀ r, r < 6 → S.1 (kp r) 0 = iv (vLo V r) ∧ S.1 (kp r) 1 = iv (vHi V r)) ∧ S.1 0 2 = iv (vNs V : Int) ∧ S.1 0 3 = iv (vNt V : Int) ∧
  (∀ s, s < vNs V → S.1 (2 + s) 0 = iv (kCar V s : Int) ∧ S.1 (2 + s) 1 = b2 (kBeh V s) ∧ S.1 (2 + s) 2 = iv (kLo V s) ∧ S.1 (2 + s) 3 = iv (kHi V s) ∧ S.1 (2 + s) 4 = b2 (kOn V s)) ∧
  ∀ t, t < vNt V → S.1 (15 + t) 0 = iv ((tRow V t / 3 : Nat) : Int) ∧ S.1 (15 + t) 1 = iv ((tRow V t % 3 : Nat) : Int) ∧ S.1 (15 + t) 2 = iv (tLo V t) ∧ S.1 (15 + t) 3 = iv (tHi V t)
/-- the places that keep what was told -/
def Dk (S S1 : QS) : Prop := S1.1 0 2 = S.1 0 2 ∧ S1.1 0 3 = S.1 0 3 ∧ (∀ k, 1 ≤ k → k ≤ 24 → S1.1 k = S.1 k) ∧ (S1.1 26 0 = S.1 26 0 ∧ S1.1 37 0 = S.1 37 0) ∧ ∀ r, r < 6 → S1.1 (kp r) 0 = S.1 (kp r) 0 ∧ S1.1 (kp r) 1 = S.1 (kp r) 1
theorem Dk.tr {S S1 S2 : QS} (h : Dk S S1) (h2 : Dk S1 S2) : Dk S S2 := ⟨h2.1.trans h.1, h2.2.1.trans h.2.1, fun k a b => (h2.2.2.1 k a b).trans (h.2.2.1 k a b), ⟨h2.2.2.2.1.1.trans h.2.2.2.1.1, h2.2.2.2.1.2.trans h.2.2.2.1.2⟩, fun r hr => ⟨(h2.2.2.2.2 r hr).1.trans (h.2.2.2.2 r hr).1, (h2.2.2.2.2 r hr).2.trans (h.2.2.2.2 r hr).2⟩⟩
theorem Dk.rf {S : QS} : Dk S S := ⟨rfl, rfl, fun _ _ _ => rfl, ⟨rfl, rfl⟩, fun _ _ => ⟨rfl, rfl⟩⟩
theorem kp_cases {r : Nat} (h : r < 6) : kp r = 27 ∨ kp r = 30 ∨ kp r = 33 ∨ kp r = 38 ∨ kp r = 41 ∨ kp r = 44 := by
  rcases (show r = 0 ∨ r = 1 ∨ r = 2 ∨ r = 3 ∨ r = 4 ∨ r = 5 by omega) with rfl | rfl | rfl | rfl | rfl | rfl <;> decide
/-- nothing told stands at these places -/
theorem Dk.of {P : List Nat} {S S1 : QS} (h : Fr P S S1) (hP : ∀ k, k ∈ P → 25 ≤ k ∧ k ≠ 26 ∧ k ≠ 37 ∧ k ≠ 27 ∧ k ≠ 30 ∧ k ≠ 33 ∧ k ≠ 38 ∧ k ≠ 41 ∧ k ≠ 44) : Dk S S1 := by
  have ne : ∀ k, (k < 25 ∨ k = 26 ∨ k = 37 ∨ k = 27 ∨ k = 30 ∨ k = 33 ∨ k = 38 ∨ k = 41 ∨ k = 44) → S1.1 k = S.1 k := fun k hk => h.1 k (fun z => by have := hP k z; omega)
  refine ⟨by rw [ne 0 (by omega)], by rw [ne 0 (by omega)], fun k h1 h2 => ne k (by omega), ⟨by rw [ne 26 (by omega)], by rw [ne 37 (by omega)]⟩, fun r hr => ?_⟩
  have := kp_cases hr
  rw [ne (kp r) (by omega)]
  exact ⟨rfl, rfl⟩
theorem DR.dk {V : Vw} {S S1 : QS} (hV : VOk V) (h : DR V S) (hd : Dk S S1) : DR V S1 := by
  obtain ⟨h1, h2, h3, h4, h5, h6⟩ := h
  have n1 := hV.2.2.1
  have n2 := hV.2.2.2.2.1
  refine ⟨⟨hd.2.2.2.1.1.trans h1.1, hd.2.2.2.1.2.trans h1.2⟩, fun r hr => ⟨(hd.2.2.2.2 r hr).1.trans (h2 r hr).1, (hd.2.2.2.2 r hr).2.trans (h2 r hr).2⟩, hd.1.trans h3, hd.2.1.trans h4, fun s hs => ?_, fun t ht => ?_⟩
  · rw [hd.2.2.1 (2 + s) (by omega) (by omega)]
    exact h5 s hs
  · rw [hd.2.2.1 (15 + t) (by omega) (by omega)]
    exact h6 t ht
