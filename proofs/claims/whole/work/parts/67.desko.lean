/-! the desk reckons, or knows it still -/
def Cache (V : Vw) (S : QS) : Prop := S.1 0 5 = 0 ∨ (S.1 0 5 = 1 ∧ ∃ (set : Nat) (w : Int), set < 1024 ∧ (-1 ≤ w ∧ w ≤ 100) ∧ S.1 0 6 = nI set ∧ S.1 0 7 = iv w ∧ Res V set w S)
theorem s_reckon5 {V : Vw} (hV : VOk V) {set : Nat} (hset : set < 1024) {w : Int} (hw : -1 ≤ w ∧ w ≤ 100) {S : QS} (hD : DR V S) (hC : Cache V S) :
    ∃ S1, f_X5_reckon (nI set) (iv w) S = some S1 ∧ Dk S S1 ∧ (∀ k, 48 ≤ k → S1.1 k = S.1 k ∧ S1.2 k = S.2 k) ∧ Res V set w S1 ∧ Cache V S1 := by
  have anew : f_X5_reckon (nI set) (iv w) S = ct_X5_reckon_24 (nI set) (iv w) S → ∃ S1, f_X5_reckon (nI set) (iv w) S = some S1 ∧ Dk S S1 ∧ (∀ k, 48 ≤ k → S1.1 k = S.1 k ∧ S1.2 k = S.2 k) ∧ Res V set w S1 ∧ Cache V S1 := fun he => by
    obtain ⟨S1, e1, d1, k1, r1, c5, c6, c7⟩ := s_ct hV hset hw hD
    exact ⟨S1, he.trans e1, d1, k1, r1, Or.inr ⟨c5, set, w, hset, hw, c6, c7, r1⟩⟩
  rcases hC with h0 | ⟨h1, set2, w2, q1, q2, q3, q4, q5⟩
  · refine anew ?_
    unfold f_X5_reckon
    rw [if_pos h0]
  · by_cases e : set = set2
    · by_cases e2 : w = w2
      · subst e
        subst e2
        refine ⟨S, ?_, Dk.rf, fun _ _ => ⟨rfl, rfl⟩, q5, Or.inr ⟨h1, set, w, q1, q2, q3, q4, q5⟩⟩
        unfold f_X5_reckon
        rw [h1, if_neg (by decide), if_pos q3.symm, if_pos q4.symm]
      · refine anew ?_
        unfold f_X5_reckon
        rw [h1, if_neg (by decide), q4, if_neg (n_eq e2)]
        split <;> rfl
    · refine anew ?_
      unfold f_X5_reckon
      rw [h1, if_neg (by decide), q3, if_neg (fun z => e ((nI_eq (by omega) (by omega)).mp z))]
theorem DR.kept {V : Vw} (hV : VOk V) {S S1 : QS} (h : DR V S) (hk : ∀ k, k < 48 → S1.1 k = S.1 k) : DR V S1 := h.dk hV ⟨by rw [hk 0 (by omega)], by rw [hk 0 (by omega)], fun k h1 h2 => hk k (by omega), ⟨by rw [hk 26 (by omega)], by rw [hk 37 (by omega)]⟩, fun r hr => by
  have := kp_cases hr
  rw [hk (kp r) (by omega)]
  exact ⟨rfl, rfl⟩⟩
theorem Res.kept {V : Vw} {set : Nat} {w : Int} {S S1 : QS} (h : Res V set w S) (hk : ∀ k, k < 48 → S1.1 k = S.1 k) (hl : S1.2 25 = S.2 25) : Res V set w S1 := by
  unfold Res Acc at h ⊢
  rw [hk 25 (by omega), hk 29 (by omega), hk 32 (by omega), hk 35 (by omega), hk 40 (by omega), hk 43 (by omega), hk 46 (by omega), hl]
  exact h
theorem Cache.kept {V : Vw} {S S1 : QS} (h : Cache V S) (hk : ∀ k, k < 48 → S1.1 k = S.1 k) (hl : S1.2 25 = S.2 25) : Cache V S1 := by
  unfold Cache at h ⊢
  rw [hk 0 (by omega)]
  exact h.imp id (fun ⟨q1, set, w, q2, q3, q4, q5, q6⟩ => ⟨q1, set, w, q2, q3, q4, q5, q6.kept hk hl⟩)
