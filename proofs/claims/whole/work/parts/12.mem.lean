/-! THE PICTURE: 68 places (the desk, its rows, skids, tales, the meeting, two cars with three speeds each, the model and its rows, the law's own row); a state is what the places hold in ints, and in longs. What refers to what never changes. -/
def qkds : List Nat := [5, 9, 2, 2, 2, 2, 2, 2, 2, 2, 2, 2, 2, 2, 10, 4, 4, 4, 4, 4, 4, 4, 4, 4, 4, 1, 0, 3, 7, 8, 3, 7, 8, 3, 7, 8, 7, 0, 3, 7, 8, 3, 7, 8, 3, 7, 8, 7, 6, 7, 7, 8, 7, 7, 8, 7, 7, 7, 7, 7, 8, 8, 7, 8, 8, 7, 7, 11]
def qns : List Nat := [0, 12, 0, 0, 0, 0, 0, 0, 0, 0, 0, 0, 0, 0, 10, 0, 0, 0, 0, 0, 0, 0, 0, 0, 0, 0, 0, 0, 101, 101, 0, 101, 101, 0, 101, 101, 101, 0, 0, 101, 101, 0, 101, 101, 0, 101, 101, 101, 0, 2, 12, 12, 12, 12, 12, 6, 6, 10, 10, 10, 606, 606, 202, 1024, 206848, 20402, 202, 1]
def qk (k : Nat) : Nat := qkds.getD k 12
def qn (k : Nat) : Nat := qns.getD k 0
theorem qk_lt {k c : Nat} (h : qk k = c) (hc : c < 12) : k < 68 := by
  rcases Nat.lt_or_ge k 68 with q | q
  · exact q
  · have e : qk k = 12 := by
      unfold qk
      rw [List.getD_eq_getElem?_getD, List.getElem?_eq_none (show qkds.length ≤ k from q)]
      rfl
    omega
theorem q_sp {k : Nat} (h : qk k = 3) : qk (k + 1) = 7 ∧ qn (k + 1) = 101 ∧ qk (k + 2) = 8 ∧ qn (k + 2) = 101 := (show ∀ k, k < 68 → qk k = 3 → qk (k + 1) = 7 ∧ qn (k + 1) = 101 ∧ qk (k + 2) = 8 ∧ qn (k + 2) = 101 by decide +kernel) k (qk_lt h (by decide)) h
theorem q_car {k : Nat} (h : qk k = 0) : qk (k + 1) = 3 ∧ qk (k + 4) = 3 ∧ qk (k + 7) = 3 ∧ qk (k + 10) = 7 ∧ qn (k + 10) = 101 := (show ∀ k, k < 68 → qk k = 0 → qk (k + 1) = 3 ∧ qk (k + 4) = 3 ∧ qk (k + 7) = 3 ∧ qk (k + 10) = 7 ∧ qn (k + 10) = 101 by decide +kernel) k (qk_lt h (by decide)) h
theorem q_skid {j : Nat} (h : j < 12) : qk (2 + j) = 2 := (show ∀ j, j < 12 → qk (2 + j) = 2 by decide +kernel) j h
theorem q_tale {j : Nat} (h : j < 10) : qk (15 + j) = 4 := (show ∀ j, j < 10 → qk (15 + j) = 4 by decide +kernel) j h
/-- what stands at a place -/
def cel (ca : Nat → ClassId) (ad : Nat → Nat) (k : Nat) (r : Nat → Int32) (M : Nat → Int64) : va_E :=
  if qk k = 0 then .inr (0, [.int (r 0), .ref (ad (k + 1)), .ref (ad (k + 4)), .ref (ad (k + 7)), .ref (ad (k + 10)), .int (r 5), .int (r 6), .int (r 7), .int (r 8), .int (r 9)])
  else if qk k = 1 then .inr (1, [.ref (ad 26), .ref (ad 37), .long (M k), .int (r 3), .int (r 4), .int (r 5)])
  else if qk k = 2 then .inr (2, [.int (r 0), .int (r 1), .int (r 2), .int (r 3), .int (r 4)])
  else if qk k = 3 then .inr (3, [.int (r 0), .int (r 1), .int (r 2), .int (r 3), .ref (ad (k + 1)), .ref (ad (k + 2))])
  else if qk k = 4 then .inr (4, [.int (r 0), .int (r 1), .int (r 2), .int (r 3)])
  else if qk k = 5 then .inr (5, [.ref (ad 1), .ref (ad 14), .int (r 2), .int (r 3), .ref (ad 25), .int (r 5), .int (r 6), .int (r 7)])
  else if qk k = 6 then .inr (6, [.int (r 0), .ref (ad 49), .ref (ad 50), .ref (ad 51), .ref (ad 52), .ref (ad 53), .ref (ad 54), .int (r 7), .ref (ad 55), .ref (ad 56), .ref (ad 57), .ref (ad 58), .ref (ad 59), .int (r 13), .ref (ad 60), .ref (ad 61), .ref (ad 62), .long (M k), .int (r 18), .ref (ad 63), .ref (ad 64), .ref (ad 65), .ref (ad 66)])
  else if qk k = 7 then .inl (ca 0, qn k, .inl r)
  else if qk k = 8 then .inl (ca 1, qn k, .inl r)
  else if qk k = 9 then .inl (ca 2, qn k, .inr (.inr (.inr (.inr (fun j => some (ad (2 + j)))))))
  else if qk k = 10 then .inl (ca 3, qn k, .inr (.inr (.inr (.inr (fun j => some (ad (15 + j)))))))
  else .inl (ca 4, qn k, .inr (.inl (fun j => M (k + j))))
section
variable {ca : Nat → ClassId} {ad : Nat → Nat} {k : Nat} {r : Nat → Int32} {M : Nat → Int64}
theorem cel_0 (h : qk k = 0) : cel ca ad k r M = .inr (0, [.int (r 0), .ref (ad (k + 1)), .ref (ad (k + 4)), .ref (ad (k + 7)), .ref (ad (k + 10)), .int (r 5), .int (r 6), .int (r 7), .int (r 8), .int (r 9)]) := by simp [cel, h]
theorem cel_1 (h : qk k = 1) : cel ca ad k r M = .inr (1, [.ref (ad 26), .ref (ad 37), .long (M k), .int (r 3), .int (r 4), .int (r 5)]) := by simp [cel, h]
theorem cel_2 (h : qk k = 2) : cel ca ad k r M = .inr (2, [.int (r 0), .int (r 1), .int (r 2), .int (r 3), .int (r 4)]) := by simp [cel, h]
theorem cel_3 (h : qk k = 3) : cel ca ad k r M = .inr (3, [.int (r 0), .int (r 1), .int (r 2), .int (r 3), .ref (ad (k + 1)), .ref (ad (k + 2))]) := by simp [cel, h]
theorem cel_4 (h : qk k = 4) : cel ca ad k r M = .inr (4, [.int (r 0), .int (r 1), .int (r 2), .int (r 3)]) := by simp [cel, h]
theorem cel_5 (h : qk k = 5) : cel ca ad k r M = .inr (5, [.ref (ad 1), .ref (ad 14), .int (r 2), .int (r 3), .ref (ad 25), .int (r 5), .int (r 6), .int (r 7)]) := by simp [cel, h]
theorem cel_6 (h : qk k = 6) : cel ca ad k r M = .inr (6, [.int (r 0), .ref (ad 49), .ref (ad 50), .ref (ad 51), .ref (ad 52), .ref (ad 53), .ref (ad 54), .int (r 7), .ref (ad 55), .ref (ad 56), .ref (ad 57), .ref (ad 58), .ref (ad 59), .int (r 13), .ref (ad 60), .ref (ad 61), .ref (ad 62), .long (M k), .int (r 18), .ref (ad 63), .ref (ad 64), .ref (ad 65), .ref (ad 66)]) := by simp [cel, h]
theorem cel_7 (h : qk k = 7) : cel ca ad k r M = .inl (ca 0, qn k, .inl r) := by simp [cel, h]
theorem cel_8 (h : qk k = 8) : cel ca ad k r M = .inl (ca 1, qn k, .inl r) := by simp [cel, h]
theorem cel_9 (h : qk k = 9) : cel ca ad k r M = .inl (ca 2, qn k, .inr (.inr (.inr (.inr (fun j => some (ad (2 + j))))))) := by simp [cel, h]
theorem cel_10 (h : qk k = 10) : cel ca ad k r M = .inl (ca 3, qn k, .inr (.inr (.inr (.inr (fun j => some (ad (15 + j))))))) := by simp [cel, h]
theorem cel_11 (h : qk k = 11) : cel ca ad k r M = .inl (ca 4, qn k, .inr (.inl (fun j => M (k + j)))) := by simp [cel, h]
theorem cel_ob (h : qk k < 7) : ∃ fs, cel ca ad k r M = .inr (qk k, fs) := by
  rcases (show qk k = 0 ∨ qk k = 1 ∨ qk k = 2 ∨ qk k = 3 ∨ qk k = 4 ∨ qk k = 5 ∨ qk k = 6 by omega) with q | q | q | q | q | q | q
  · exact ⟨_, by rw [cel_0 q, q]⟩
  · exact ⟨_, by rw [cel_1 q, q]⟩
  · exact ⟨_, by rw [cel_2 q, q]⟩
  · exact ⟨_, by rw [cel_3 q, q]⟩
  · exact ⟨_, by rw [cel_4 q, q]⟩
  · exact ⟨_, by rw [cel_5 q, q]⟩
  · exact ⟨_, by rw [cel_6 q, q]⟩
end
def wd (ca : Nat → ClassId) (ad : Nat → Nat) (S : QS) : va_W := (List.range 68).map (fun k => (ad k, cel ca ad k (S.1 k) S.2))
theorem wd_at {ca : Nat → ClassId} {ad : Nat → Nat} {S : QS} {k : Nat} (h : k < 68) : (wd ca ad S)[k]? = some (ad k, cel ca ad k (S.1 k) S.2) := by simp [wd, h]
theorem wd_len {ca : Nat → ClassId} {ad : Nat → Nat} {S : QS} : (wd ca ad S).length = 68 := by simp [wd]
theorem wd_inv {ca : Nat → ClassId} {ad : Nat → Nat} {S : QS} {k : Nat} {q : Nat × va_E} (h : (wd ca ad S)[k]? = some q) : k < 68 ∧ q = (ad k, cel ca ad k (S.1 k) S.2) := by
  have hk : k < 68 := by
    have := (List.getElem?_eq_some_iff.mp h).1
    rw [wd_len] at this
    exact this
  exact ⟨hk, (Option.some.inj ((wd_at hk).symm.trans h)).symm⟩
def Inj (ad : Nat → Nat) : Prop := ∀ i j, i < 68 → j < 68 → ad i = ad j → i = j
def Aq (ad : Nat → Nat) (sz : Nat) : Nat → Prop := fun q => (∃ k, k < 68 ∧ q = ad k) ∨ sz ≤ q
theorem Aq_in {ad : Nat → Nat} {sz k : Nat} (h : k < 68) : Aq ad sz (ad k) := Or.inl ⟨k, h, rfl⟩
theorem Aq_up {ad : Nat → Nat} {sz q : Nat} (h : sz ≤ q) : Aq ad sz q := Or.inr h
theorem Aq_mono {ad : Nat → Nat} {sz sz2 : Nat} (h : sz ≤ sz2) : ∀ q, Aq ad sz2 q → Aq ad sz q := fun q hq => hq.elim Or.inl (fun z => Or.inr (Nat.le_trans h z))
theorem wd_D {ca : Nat → ClassId} {ad : Nat → Nat} {S : QS} {sz : Nat} (hj : Inj ad) : va_D (Aq ad sz) (wd ca ad S) := by
  refine ⟨fun i j p q hi hj2 e => ?_, fun k q hk => ?_⟩
  · obtain ⟨h1, rfl⟩ := wd_inv hi
    obtain ⟨h2, rfl⟩ := wd_inv hj2
    exact hj i j h1 h2 e
  · obtain ⟨h1, rfl⟩ := wd_inv hk
    exact Aq_in h1
theorem wd_setV {ca : Nat → ClassId} {ad : Nat → Nat} {S : QS} {k : Nat} {r : Nat → Int32} {e : va_E} (hk : k < 68) (he : cel ca ad k r S.2 = e) : (wd ca ad S).set k (ad k, e) = wd ca ad (va_up S.1 k r, S.2) := by
  apply List.ext_getElem?
  intro i
  subst he
  by_cases h : i = k
  · subst h
    rw [List.getElem?_set_self (by rw [wd_len]; exact hk), wd_at hk]
    show _ = some (ad i, cel ca ad i (va_up S.1 i r i) S.2)
    rw [va_up_self]
  · rw [List.getElem?_set_ne (Ne.symm h)]
    rcases Nat.lt_or_ge i 68 with q | q
    · rw [wd_at q, wd_at q]
      show _ = some (ad i, cel ca ad i (va_up S.1 k r i) S.2)
      rw [va_up_ne _ _ h]
    · rw [List.getElem?_eq_none (by rw [wd_len]; exact q), List.getElem?_eq_none (by rw [wd_len]; exact q)]
theorem qk_one {i : Nat} (h : i < 68) : (qk i = 1 → i = 25) ∧ (qk i = 6 → i = 48) ∧ (qk i = 11 → i = 67) := (show ∀ i, i < 68 → (qk i = 1 → i = 25) ∧ (qk i = 6 → i = 48) ∧ (qk i = 11 → i = 67) by decide +kernel) i h
theorem cel_M {ca : Nat → ClassId} {ad : Nat → Nat} {i k : Nat} {r : Nat → Int32} {M : Nat → Int64} {x : Int64} (hi : i < 68) (hk : k < 68) (h : i ≠ k) : cel ca ad i r (va_up M k x) = cel ca ad i r M := by
  have h2 : ∀ j, 68 ≤ j → va_up M k x j = M j := fun j hj => va_up_ne _ _ (by omega)
  have h3 : va_up M k x i = M i := va_up_ne _ _ h
  by_cases h11 : qk i = 11
  · rw [cel_11 h11, cel_11 h11]
    have e : (fun j => va_up M k x (i + j)) = fun j => M (i + j) := by
      funext j
      have := (qk_one hi).2.2 h11
      by_cases hj : j = 0
      · subst hj; exact h3
      · exact h2 _ (by omega)
    rw [e]
  · have hh : qk i < 12 := (show ∀ i, i < 68 → qk i < 12 by decide +kernel) i hi
    rcases (show qk i = 0 ∨ qk i = 1 ∨ qk i = 2 ∨ qk i = 3 ∨ qk i = 4 ∨ qk i = 5 ∨ qk i = 6 ∨ qk i = 7 ∨ qk i = 8 ∨ qk i = 9 ∨ qk i = 10 by omega) with q | q | q | q | q | q | q | q | q | q | q
    · rw [cel_0 q, cel_0 q]
    · rw [cel_1 q, cel_1 q, h3]
    · rw [cel_2 q, cel_2 q]
    · rw [cel_3 q, cel_3 q]
    · rw [cel_4 q, cel_4 q]
    · rw [cel_5 q, cel_5 q]
    · rw [cel_6 q, cel_6 q, h3]
    · rw [cel_7 q, cel_7 q]
    · rw [cel_8 q, cel_8 q]
    · rw [cel_9 q, cel_9 q]
    · rw [cel_10 q, cel_10 q]
theorem wd_setM {ca : Nat → ClassId} {ad : Nat → Nat} {S : QS} {k : Nat} {x : Int64} {e : va_E} (hk : k < 68) (he : cel ca ad k (S.1 k) (va_up S.2 k x) = e) : (wd ca ad S).set k (ad k, e) = wd ca ad (S.1, va_up S.2 k x) := by
  apply List.ext_getElem?
  intro i
  subst he
  by_cases h : i = k
  · subst h
    rw [List.getElem?_set_self (by rw [wd_len]; exact hk), wd_at hk]
  · rw [List.getElem?_set_ne (Ne.symm h)]
    rcases Nat.lt_or_ge i 68 with q | q
    · rw [wd_at q, wd_at q, cel_M q hk h]
    · rw [List.getElem?_eq_none (by rw [wd_len]; exact q), List.getElem?_eq_none (by rw [wd_len]; exact q)]
