/-! THE PURE PICTURE: what each method does to the places -/
abbrev QS : Type := (Nat → Nat → Int32) × (Nat → Int64)
def FU : Nat := 1100
/-! the pure steps -/
def rdA (k n : Nat) (i : Int32) (S : QS) : Option Int32 := if ¬ (i < 0 ∨ n ≤ i.toNatClampNeg) then some (S.1 k i.toNatClampNeg) else none
def setF (k j : Nat) (x : Int32) (S : QS) : QS := (va_up S.1 k (upd (S.1 k) j x), S.2)
def setL (k : Nat) (x : Int64) (S : QS) : QS := (S.1, va_up S.2 k x)
def wrA (k n : Nat) (i x : Int32) (S : QS) : Option QS := if ¬ (i < 0 ∨ n ≤ i.toNatClampNeg) then some (setF k i.toNatClampNeg x S) else none
def zb (x : Int32) : Option Int32 := if x = 0 ∨ x = 1 then some x else none
def wrZ (k n : Nat) (i x : Int32) (S : QS) : Option QS := if ¬ (i < 0 ∨ n ≤ i.toNatClampNeg) ∧ (x = 0 ∨ x = 1) then some (setF k i.toNatClampNeg x S) else none
def stF (k j : Nat) (x : Int32) (S : QS) : Option QS := some (setF k j x S)
def stZ (k j : Nat) (x : Int32) (S : QS) : Option QS := if x = 0 ∨ x = 1 then some (setF k j x S) else none
def stL (k : Nat) (x : Int64) (S : QS) : Option QS := some (setL k x S)
def rdQ (b n : Nat) (i : Int32) : Option Nat := if ¬ (i < 0 ∨ n ≤ i.toNatClampNeg) then some (b + i.toNatClampNeg) else none
def dvI (x y : Int32) : Option Int32 := if ¬ y = 0 then some (x / y) else none
def rmI (x y : Int32) : Option Int32 := if ¬ y = 0 then some (x - x / y * y) else none
/-- a call that may throw: what it throws goes on -/
def bx {α β : Type} (o : Option ((String × QS) ⊕ α)) (f : α → Option ((String × QS) ⊕ β)) : Option ((String × QS) ⊕ β) := match o with
  | none => none
  | some (.inl e) => some (.inl e)
  | some (.inr a) => f a
/-- a call that may throw, and what its handlers do -/
def bh {α β : Type} (o : Option ((String × QS) ⊕ α)) (h : String → QS → Option β) (f : α → Option β) : Option β := match o with
  | none => none
  | some (.inl e) => h e.1 e.2
  | some (.inr a) => f a
theorem bd_e {α β : Type} {o : Option α} {f : α → Option β} {y : β} (h : o.bind f = some y) : ∃ x, o = some x ∧ f x = some y := by
  cases o with
  | none => simp at h
  | some x => exact ⟨x, rfl, h⟩
theorem bx_e {α β : Type} {o : Option ((String × QS) ⊕ α)} {f : α → Option ((String × QS) ⊕ β)} {y : (String × QS) ⊕ β} (h : bx o f = some y) : ∃ x, o = some x := by
  cases o with
  | none => simp [bx] at h
  | some x => exact ⟨x, rfl⟩
theorem bx_l {α β : Type} {o : Option ((String × QS) ⊕ α)} {f : α → Option ((String × QS) ⊕ β)} {y : (String × QS) ⊕ β} {x : (String × QS) ⊕ α} {e : String × QS} (h : bx o f = some y) (hx : o = some x) (he : x = .inl e) : .inl e = y := by
  subst hx; subst he
  exact Option.some.inj h
theorem bx_r {α β : Type} {o : Option ((String × QS) ⊕ α)} {f : α → Option ((String × QS) ⊕ β)} {y : (String × QS) ⊕ β} {x : (String × QS) ⊕ α} {a : α} (h : bx o f = some y) (hx : o = some x) (he : x = .inr a) : f a = some y := by
  subst hx; subst he
  exact h
theorem bh_e {α β : Type} {o : Option ((String × QS) ⊕ α)} {g : String → QS → Option β} {f : α → Option β} {y : β} (h : bh o g f = some y) : ∃ x, o = some x := by
  cases o with
  | none => simp [bh] at h
  | some x => exact ⟨x, rfl⟩
theorem bh_l {α β : Type} {o : Option ((String × QS) ⊕ α)} {g : String → QS → Option β} {f : α → Option β} {y : β} {x : (String × QS) ⊕ α} {e : String × QS} (h : bh o g f = some y) (hx : o = some x) (he : x = .inl e) : g e.1 e.2 = some y := by
  subst hx; subst he
  exact h
theorem bh_r {α β : Type} {o : Option ((String × QS) ⊕ α)} {g : String → QS → Option β} {f : α → Option β} {y : β} {x : (String × QS) ⊕ α} {a : α} (h : bh o g f = some y) (hx : o = some x) (he : x = .inr a) : f a = some y := by
  subst hx; subst he
  exact h
theorem if_t {α : Sort _} {c : Prop} [Decidable c] {a b x : α} (h : c) (e : (if c then a else b) = x) : a = x := by rw [if_pos h] at e; exact e
theorem if_f {α : Sort _} {c : Prop} [Decidable c] {a b x : α} (h : ¬ c) (e : (if c then a else b) = x) : b = x := by rw [if_neg h] at e; exact e
theorem q_in {x : Int32} {k n : Nat} {i : Int32} {S : QS} (h : rdA k n i S = some x) : vp_in i n ∧ x = S.1 k i.toNatClampNeg := by
  unfold rdA at h
  by_cases c : ¬ (i < 0 ∨ n ≤ i.toNatClampNeg)
  · rw [if_pos c] at h
    exact ⟨c, (Option.some.inj h).symm⟩
  · rw [if_neg c] at h
    cases h
theorem q_inQ {b n x : Nat} {i : Int32} (h : rdQ b n i = some x) : vp_in i n ∧ i.toNatClampNeg < n ∧ x = b + i.toNatClampNeg := by
  unfold rdQ at h
  by_cases c : ¬ (i < 0 ∨ n ≤ i.toNatClampNeg)
  · rw [if_pos c] at h
    exact ⟨c, Nat.not_le.mp (fun z => c (Or.inr z)), (Option.some.inj h).symm⟩
  · rw [if_neg c] at h
    cases h
theorem q_wr {k n : Nat} {i x : Int32} {S S1 : QS} (h : wrA k n i x S = some S1) : vp_in i n ∧ S1 = setF k i.toNatClampNeg x S := by
  unfold wrA at h
  by_cases c : ¬ (i < 0 ∨ n ≤ i.toNatClampNeg)
  · rw [if_pos c] at h
    exact ⟨c, (Option.some.inj h).symm⟩
  · rw [if_neg c] at h
    cases h
theorem q_wrZ {k n : Nat} {i x : Int32} {S S1 : QS} (h : wrZ k n i x S = some S1) : vp_in i n ∧ vp_nar .boolean x = x ∧ S1 = setF k i.toNatClampNeg x S := by
  unfold wrZ at h
  by_cases c : ¬ (i < 0 ∨ n ≤ i.toNatClampNeg) ∧ (x = 0 ∨ x = 1)
  · rw [if_pos c] at h
    exact ⟨c.1, by rcases c.2 with e | e <;> subst e <;> decide, (Option.some.inj h).symm⟩
  · rw [if_neg c] at h
    cases h
theorem q_zb {x y : Int32} (h : zb x = some y) : (x = 0 ∨ x = 1) ∧ y = x := by
  unfold zb at h
  by_cases c : x = 0 ∨ x = 1
  · rw [if_pos c] at h
    exact ⟨c, (Option.some.inj h).symm⟩
  · rw [if_neg c] at h
    cases h
theorem q_stZ {k j : Nat} {x : Int32} {S S1 : QS} (h : stZ k j x S = some S1) : (x = 0 ∨ x = 1) ∧ S1 = setF k j x S := by
  unfold stZ at h
  by_cases c : x = 0 ∨ x = 1
  · rw [if_pos c] at h
    exact ⟨c, (Option.some.inj h).symm⟩
  · rw [if_neg c] at h
    cases h
theorem q_dv {x y z : Int32} (h : dvI x y = some z) : ¬ y = 0 ∧ z = x / y := by
  unfold dvI at h
  by_cases c : ¬ y = 0
  · rw [if_pos c] at h
    exact ⟨c, (Option.some.inj h).symm⟩
  · rw [if_neg c] at h
    cases h
theorem q_rm {x y z : Int32} (h : rmI x y = some z) : ¬ y = 0 ∧ z = x - x / y * y := by
  unfold rmI at h
  by_cases c : ¬ y = 0
  · rw [if_pos c] at h
    exact ⟨c, (Option.some.inj h).symm⟩
  · rw [if_neg c] at h
    cases h
theorem q_nz {x : Int32} (h : x = 0 ∨ x = 1) : narrow .boolean (.int x) = .int x := by
  rcases h with e | e <;> subst e <;> rfl
theorem q_fz {x : Int32} (h : x = 0 ∨ x = 1) : fits .boolean (.int x) = true := by
  rcases h with e | e <;> subst e <;> rfl
def f_X3_setPrice (k : Nat) (a1 : Int32) (a2 : Int32) (S : QS) : Option QS :=
if a1 < (-50) then (some S)
else (if 50 < a1 then (some S)
else ((wrA (k + 1) 101 (a1 - (-50)) a2 S).bind fun S1 =>
some S1))
def lp_X3_clear_3 (k : Nat) : Nat → Int32 → QS → Option QS
  | 0, _, _ => none
  | fuel + 1, v1, S2 => (if 50 < v1 then (some S2)
else (((if v1 < (S2.1 k 0) then (some (-1))
else (if v1 ≤ (S2.1 k 1) then (some 0)
else (some (-1)))) : Option (Int32)).bind fun q3 =>
(f_X3_setPrice k v1 q3 S2).bind fun S5 =>
(wrZ (k + 2) 101 (v1 - (-50)) 0 S5).bind fun S6 =>
lp_X3_clear_3 k fuel (v1 + 1) S6))
def f_X3_clear (k : Nat) (S : QS) : Option QS :=
lp_X3_clear_3 k FU (-50) S
def f_X3_priceOf (k : Nat) (a1 : Int32) (S : QS) : Option Int32 :=
if a1 < (-50) then (some (-1))
else (if a1 ≤ 50 then ((rdA (k + 1) 101 (a1 - (-50)) S).bind fun v1 =>
some v1)
else (some (-1)))
def f_X3_isOpen (k : Nat) (a1 : Int32) (S : QS) : Option Int32 :=
(f_X3_priceOf k a1 S).bind fun v2 =>
if v2 = (-1) then (some 0)
else (some 1)
def lp_X3_hear_3 (k : Nat) (t1 : Nat) (a2 : Int32) : Nat → Int32 → QS → Option QS
  | 0, _, _ => none
  | fuel + 1, v1, S2 => (if 50 < v1 then (some S2)
else (((if v1 < (S2.1 t1 2) then (some 0)
else (if (S2.1 t1 3) < v1 then (some 0)
else (some 1))) : Option (Int32)).bind fun q3 =>
if q3 = 0 then ((f_X3_isOpen k v1 S2).bind fun v5 =>
if v5 = 0 then (lp_X3_hear_3 k t1 a2 fuel (v1 + 1) S2)
else (((if a2 = (-1) then (some (-1))
else ((f_X3_priceOf k v1 S2).bind fun v8 =>
some (v8 + a2))) : Option (Int32)).bind fun q6 =>
(f_X3_setPrice k v1 q6 S2).bind fun S10 =>
lp_X3_hear_3 k t1 a2 fuel (v1 + 1) S10))
else (lp_X3_hear_3 k t1 a2 fuel (v1 + 1) S2)))
def f_X3_hear (k : Nat) (t1 : Nat) (a2 : Int32) (S : QS) : Option QS :=
lp_X3_hear_3 k t1 a2 FU (-50) S
def lp_X3_bound_15 (k : Nat) : Nat → Int32 → QS → Option QS
  | 0, _, _ => none
  | fuel + 1, v5, S6 => (if 50 < v5 then (some S6)
else ((f_X3_isOpen k v5 S6).bind fun v8 =>
if v8 = 0 then (lp_X3_bound_15 k fuel (v5 + 1) S6)
else ((stF k 2 (if v5 < (S6.1 k 2) then v5 else (S6.1 k 2)) S6).bind fun S9 =>
(stF k 3 v5 S9).bind fun S11 =>
lp_X3_bound_15 k fuel (v5 + 1) S11)))
def f_X3_bound (k : Nat) (S : QS) : Option QS :=
(stF k 2 51 S).bind fun S1 =>
(stF k 3 (-51) S1).bind fun S3 =>
lp_X3_bound_15 k FU (-50) S3
def f_X3_see (k : Nat) (a1 : Int32) (S : QS) : Option QS :=
if a1 < (-50) then (some S)
else (if 50 < a1 then (some S)
else ((wrZ (k + 2) 101 (a1 - (-50)) 1 S).bind fun S1 =>
some S1))
def f_X3_isSeen (k : Nat) (a1 : Int32) (S : QS) : Option Int32 :=
if a1 < (-50) then (some 0)
else (if 50 < a1 then (some 0)
else ((rdA (k + 2) 101 (a1 - (-50)) S).bind fun v1 =>
if v1 = 0 then (some 0)
else (some 1)))
def lp_X3_leastSeen_3 (k : Nat) (S : QS) : Nat → Int32 → Option Int32
  | 0, _ => none
  | fuel + 1, v1 => (if 50 ≤ v1 then (some 50)
else ((f_X3_isSeen k v1 S).bind fun v3 =>
if v3 = 0 then (lp_X3_leastSeen_3 k S fuel (v1 + 1))
else (some v1)))
def f_X3_leastSeen (k : Nat) (S : QS) : Option Int32 :=
lp_X3_leastSeen_3 k S FU (-50)
def lp_X3_greatestSeen_3 (k : Nat) (S : QS) : Nat → Int32 → Option Int32
  | 0, _ => none
  | fuel + 1, v1 => (if v1 ≤ (-50) then (some (-50))
else ((f_X3_isSeen k v1 S).bind fun v3 =>
if v3 = 0 then (lp_X3_greatestSeen_3 k S fuel (v1 + (-1)))
else (some v1)))
def f_X3_greatestSeen (k : Nat) (S : QS) : Option Int32 :=
lp_X3_greatestSeen_3 k S FU 50
def f_X5_cheaper (a1 : Int32) (a2 : Int32) : Option Int32 :=
if a1 = (-1) then (some a2)
else (if a1 ≤ a2 then (some a1)
else (some a2))
def f_X0_pick (k : Nat) (a1 : Int32) (S : QS) : Option Nat :=
if a1 = 0 then (some (k + 1))
else (if a1 = 1 then (some (k + 4))
else (some (k + 7)))
def f_X0_clear (k : Nat) (S : QS) : Option QS :=
(f_X3_clear (k + 1) S).bind fun S2 =>
(f_X3_clear (k + 4) S2).bind fun S4 =>
(f_X3_clear (k + 7) S4).bind fun S6 =>
(stF k 5 0 S6).bind fun S7 =>
(stF k 6 0 S7).bind fun S9 =>
(stF k 7 0 S9).bind fun S11 =>
(stF k 8 0 S11).bind fun S13 =>
(stZ k 9 0 S13).bind fun S15 =>
some S15
def f_X0_add (k : Nat) (t1 : Nat) (S : QS) : Option QS :=
if (S.1 t1 1) = 0 then ((stF k 5 ((S.1 k 5) + (S.1 t1 2)) S).bind fun S1 =>
(stF k 6 ((S1.1 k 6) + (S1.1 t1 3)) S1).bind fun S3 =>
some S3)
else ((stF k 7 ((S.1 k 7) + (S.1 t1 2)) S).bind fun S5 =>
(stF k 8 ((S5.1 k 8) + (S5.1 t1 3)) S5).bind fun S7 =>
(stZ k 9 1 S7).bind fun S9 =>
some S9)
def f_X0_isTakenBehind (k : Nat) (a1 : Int32) (S : QS) : Option Int32 :=
if ((51 * a1) * a1) < (S.1 k 7) then (some 0)
else (if (S.1 k 8) < ((51 * a1) * a1) then (some 0)
else (some 1))
def f_X0_isTakenAhead (k : Nat) (a1 : Int32) (a2 : Int32) (S : QS) : Option Int32 :=
if (((51 * a1) * a1) - ((51 * a2) * a2)) < (S.1 k 5) then (some 0)
else (if (S.1 k 6) < (((51 * a1) * a1) - ((51 * a2) * a2)) then (some 0)
else (some 1))
def f_X0_firstFor (a1 : Int32) (a2 : Int32) : Option Int32 :=
if 0 ≤ a2 then (some a1)
else (some (-a1))
def lp_X0_joinFirsts_10 (k : Nat) (a1 : Int32) (S : QS) : Nat → Int32 → Int32 → Int32 → Option (Int32 × Int32)
  | 0, _, _, _ => none
  | fuel + 1, v1, v2, v3 => (if 50 < v3 then (some (v1, v2))
else ((f_X0_isTakenAhead k v3 a1 S).bind fun v6 =>
((if v6 = 0 then (some (-1))
else ((f_X0_firstFor v3 a1).bind fun v9 =>
(f_X3_priceOf (k + 1) v9 S).bind fun v11 =>
some v11)) : Option (Int32)).bind fun q7 =>
if q7 = (-1) then (lp_X0_joinFirsts_10 k a1 S fuel v1 v2 (v3 + 1))
else ((f_X5_cheaper v2 q7).bind fun v13 =>
lp_X0_joinFirsts_10 k a1 S fuel (v1 + 1) v13 (v3 + 1))))
def f_X0_joinFirsts (k : Nat) (a1 : Int32) (S : QS) : Option QS :=
(lp_X0_joinFirsts_10 k a1 S FU 0 (-1) (if 0 ≤ a1 then a1 else 0 - a1)).bind fun q4 =>
((if a1 < (-50) then (some S)
else (if 50 < a1 then (some S)
else ((wrA (k + 10) 101 (a1 - (-50)) q4.1 S).bind fun S15 =>
some S15))) : Option (QS)).bind fun q14 =>
((if q4.2 = (-1) then (some (-1))
else ((f_X3_priceOf (k + 4) a1 q14).bind fun v19 =>
some (v19 + q4.2))) : Option (Int32)).bind fun q17 =>
(f_X3_setPrice (k + 4) a1 q17 q14).bind fun S21 =>
some S21
def lp_X0_settle_3 (k : Nat) : Nat → Int32 → QS → Option (QS)
  | 0, _, _ => none
  | fuel + 1, v1, S2 => (if 50 < v1 then (some S2)
else (((if (S2.1 k 9) = 0 then (some S2)
else ((f_X0_isTakenBehind k v1 S2).bind fun v6 =>
if v6 = 0 then ((f_X3_setPrice (k + 7) v1 (-1) S2).bind fun S8 =>
some S8)
else (some S2))) : Option (QS)).bind fun q4 =>
(f_X3_isOpen (k + 4) v1 q4).bind fun v10 =>
if v10 = 0 then (lp_X0_settle_3 k fuel (v1 + 1) q4)
else ((f_X0_joinFirsts k v1 q4).bind fun S12 =>
lp_X0_settle_3 k fuel (v1 + 1) S12)))
def f_X0_settle (k : Nat) (S : QS) : Option QS :=
(lp_X0_settle_3 k FU (-50) S).bind fun q3 =>
(f_X3_bound (k + 4) q3).bind fun S14 =>
(f_X3_bound (k + 7) S14).bind fun S16 =>
some S16
def f_X0_firstCount (k : Nat) (a1 : Int32) (S : QS) : Option Int32 :=
if a1 < (-50) then (some 0)
else (if a1 ≤ 50 then ((rdA (k + 10) 101 (a1 - (-50)) S).bind fun v1 =>
some v1)
else (some 0))
def lp_X0_seeFirsts_24 (k : Nat) (v1 : Int32) : Nat → Int32 → QS → Option (QS)
  | 0, _, _ => none
  | fuel + 1, v3, S4 => ((f_X3_isSeen (k + 4) v1 S4).bind fun v7 =>
if v7 = 0 then (some S4)
else (if 50 < v3 then (some S4)
else ((f_X0_isTakenAhead k v3 v1 S4).bind fun v9 =>
if v9 = 0 then (lp_X0_seeFirsts_24 k v1 fuel (v3 + 1) S4)
else ((f_X0_firstFor v3 v1).bind fun v11 =>
(f_X3_isOpen (k + 1) v11 S4).bind fun v13 =>
if v13 = 0 then (lp_X0_seeFirsts_24 k v1 fuel (v3 + 1) S4)
else ((f_X0_firstFor v3 v1).bind fun v15 =>
(f_X3_see (k + 1) v15 S4).bind fun S17 =>
lp_X0_seeFirsts_24 k v1 fuel (v3 + 1) S17)))))
def lp_X0_seeFirsts_8 (k : Nat) : Nat → Int32 → QS → Option QS
  | 0, _, _ => none
  | fuel + 1, v1, S2 => (if (S2.1 (k + 4) 3) < v1 then (some S2)
else ((lp_X0_seeFirsts_24 k v1 FU (if 0 ≤ v1 then v1 else 0 - v1) S2).bind fun q5 =>
lp_X0_seeFirsts_8 k fuel (v1 + 1) q5))
def f_X0_seeFirsts (k : Nat) (S : QS) : Option QS :=
lp_X0_seeFirsts_8 k FU (S.1 (k + 4) 2) S
def f_X1_pick (a1 : Int32) (S : QS) : Option Nat :=
if a1 = 0 then (some 26)
else (some 37)
def lp_X1_lowestShare_3 (a1 : Int32) (a2 : Int32) : Nat → Int32 → Option Int32
  | 0, _ => none
  | fuel + 1, v1 => (if v1 ≤ 1 then (some a1)
else ((rmI a1 v1).bind fun v2 =>
if v2 = 0 then ((rmI a2 v1).bind fun v3 =>
if v3 = 0 then ((dvI a1 v1).bind fun v4 =>
some v4)
else (lp_X1_lowestShare_3 a1 a2 fuel (v1 + (-1))))
else (lp_X1_lowestShare_3 a1 a2 fuel (v1 + (-1)))))
def f_X1_lowestShare (a1 : Int32) (a2 : Int32) : Option Int32 :=
lp_X1_lowestShare_3 a1 a2 FU 100
def lp_X1_meet_122 (a2 : Int32) (S : QS) (v6 : Int32) : Nat → Int64 → Int32 → Int32 → QS → Option (Int64 × Int32 × QS)
  | 0, _, _, _, _ => none
  | fuel + 1, w8, v9, v10, S11 => (if v6 < v10 then (some (w8, v9, S11))
else ((rdA 42 101 (v10 - (-50)) S11).bind fun v13 =>
(rdA 45 101 ((v10 + (a2 * (S.1 25 5))) - (-50)) S11).bind fun v15 =>
if v13 = (-1) then (lp_X1_meet_122 a2 S v6 fuel w8 v9 (v10 + 1) S11)
else (if v15 = (-1) then (lp_X1_meet_122 a2 S v6 fuel w8 v9 (v10 + 1) S11)
else ((rdA 47 101 (v10 - (-50)) S11).bind fun v17 =>
(f_X5_cheaper v9 (v13 + v15)).bind fun v20 =>
(wrZ 43 101 (v10 - (-50)) 1 S11).bind fun S21 =>
(wrZ 46 101 ((v10 + (a2 * (S.1 25 5))) - (-50)) 1 S21).bind fun S23 =>
lp_X1_meet_122 a2 S v6 fuel (w8 + v17.toInt64) v20 (v10 + 1) S23))))
def f_X1_meet (a1 : Int32) (a2 : Int32) (S : QS) : Option QS :=
(some (if (a1 - (a2 * ((S.1 25 4) + (S.1 25 5)))) < (if (S.1 41 2) < ((S.1 44 2) - (a2 * (S.1 25 5))) then ((S.1 44 2) - (a2 * (S.1 25 5))) else (S.1 41 2)) then (if (S.1 41 2) < ((S.1 44 2) - (a2 * (S.1 25 5))) then ((S.1 44 2) - (a2 * (S.1 25 5))) else (S.1 41 2)) else (a1 - (a2 * ((S.1 25 4) + (S.1 25 5)))))).bind fun v1 =>
(dvI ((a2 * ((S.1 25 4) + (S.1 25 5))) + 1) 2).bind fun v3 =>
(some (if (if ((S.1 44 3) - (a2 * (S.1 25 5))) < (S.1 41 3) then ((S.1 44 3) - (a2 * (S.1 25 5))) else (S.1 41 3)) < (a1 - v3) then (if ((S.1 44 3) - (a2 * (S.1 25 5))) < (S.1 41 3) then ((S.1 44 3) - (a2 * (S.1 25 5))) else (S.1 41 3)) else (a1 - v3))).bind fun v4 =>
(some (if (50 - (a2 * (S.1 25 5))) < v4 then (50 - (a2 * (S.1 25 5))) else v4)).bind fun v6 =>
(lp_X1_meet_122 a2 S v6 FU 0 (-1) (if v1 < (-50) then (-50) else v1) S).bind fun q12 =>
if (lg_cmp q12.1 0) ≤ 0 then (some q12.2.2)
else ((f_X3_see 30 a1 q12.2.2).bind fun S26 =>
(f_X3_see 33 (a1 - (a2 * (q12.2.2.1 25 4))) S26).bind fun S28 =>
(f_X0_firstCount 26 a1 S28).bind fun v30 =>
(stL 25 ((S28.2 25) + (q12.1 * v30.toInt64)) S28).bind fun S31 =>
(f_X3_priceOf 30 a1 S31).bind fun v34 =>
(f_X3_priceOf 33 (a1 - (a2 * (q12.2.2.1 25 4))) S31).bind fun v36 =>
(f_X5_cheaper (S31.1 25 3) ((q12.2.1 + v34) + v36)).bind fun v38 =>
(stF 25 3 v38 S31).bind fun S39 =>
some S39)
def lp_X1_pushFrom_2 (a1 : Int32) : Nat → Int32 → QS → Option QS
  | 0, _, _ => none
  | fuel + 1, v1, S2 => (if 101 < v1 then (some S2)
else (if (a1 - (v1 * (S2.1 25 4))) < (S2.1 33 2) then (some S2)
else ((f_X3_isOpen 33 (a1 - (v1 * (S2.1 25 4))) S2).bind fun v4 =>
if v4 = 0 then (lp_X1_pushFrom_2 a1 fuel (v1 + 1) S2)
else ((f_X1_meet a1 v1 S2).bind fun S6 =>
lp_X1_pushFrom_2 a1 fuel (v1 + 1) S6))))
def f_X1_pushFrom (a1 : Int32) (S : QS) : Option QS :=
lp_X1_pushFrom_2 a1 FU 1 S
def lp_X1_reckon_77  : Nat → Int32 → QS → Option (QS)
  | 0, _, _ => none
  | fuel + 1, v17, S18 => (if (S18.1 30 3) < v17 then (some S18)
else ((f_X3_isOpen 30 v17 S18).bind fun v21 =>
if v21 = 0 then (lp_X1_reckon_77 fuel (v17 + 1) S18)
else ((f_X1_pushFrom v17 S18).bind fun S23 =>
lp_X1_reckon_77 fuel (v17 + 1) S23)))
def f_X1_reckon (S : QS) : Option QS :=
(stL 25 0 S).bind fun S1 =>
(stF 25 3 (-1) S1).bind fun S3 =>
(f_X1_lowestShare (S3.1 37 0) (S3.1 26 0)).bind fun v6 =>
(stF 25 4 v6 S3).bind fun S7 =>
(f_X1_lowestShare (S7.1 26 0) (S7.1 37 0)).bind fun v10 =>
(stF 25 5 v10 S7).bind fun S11 =>
(f_X0_settle 26 S11).bind fun S14 =>
(f_X0_settle 37 S14).bind fun S16 =>
(lp_X1_reckon_77 FU (S16.1 30 2) S16).bind fun q19 =>
(f_X0_seeFirsts 26 q19).bind fun S25 =>
(f_X0_seeFirsts 37 S25).bind fun S27 =>
some S27
def f_J6_bitCount_0f7a4 (a1 : Int32) : Option Int32 :=
(some (a1 - ((((a1 : Int32).toUInt32 >>> ((1 : Int32).toUInt32 &&& Int32.toUInt32 31)).toInt32) &&& 1431655765))).bind fun v1 =>
(some ((v1 &&& 858993459) + ((((v1 : Int32).toUInt32 >>> ((2 : Int32).toUInt32 &&& Int32.toUInt32 31)).toInt32) &&& 858993459))).bind fun v3 =>
(some ((v3 + (((v3 : Int32).toUInt32 >>> ((4 : Int32).toUInt32 &&& Int32.toUInt32 31)).toInt32)) &&& 252645135)).bind fun v5 =>
(some (v5 + (((v5 : Int32).toUInt32 >>> ((8 : Int32).toUInt32 &&& Int32.toUInt32 31)).toInt32))).bind fun v7 =>
(some (v7 + (((v7 : Int32).toUInt32 >>> ((16 : Int32).toUInt32 &&& Int32.toUInt32 31)).toInt32))).bind fun v9 =>
some (v9 &&& 63)
def f_X6_in (a1 : Int32) (a2 : Int32) (a3 : Int32) : Option Int32 :=
if a1 < a2 then (some 0)
else (if a3 < a1 then (some 0)
else (some 1))
def f_X6_noCar (a1 : Int32) : Option Int32 :=
(f_X6_in a1 0 1).bind fun v2 =>
if v2 = 0 then (some 1)
else (some 0)
def f_X6_noSpeed (a1 : Int32) (a2 : Int32) : Option Int32 :=
(f_X6_noCar a1).bind fun v2 =>
if v2 = 0 then ((f_X6_in a2 0 2).bind fun v4 =>
if v4 = 0 then (some 1)
else (some 0))
else (some 1)
def f_X6_noSpan (a1 : Int32) (a2 : Int32) : Option Int32 :=
if a1 < (-50) then (some 1)
else (if a2 < a1 then (some 1)
else (if a2 ≤ 50 then (some 0)
else (some 1)))
def f_X6_throwsIf (a1 : Int32) (a2 : Int32) (S : QS) : Option (Int32 × QS) :=
if a1 = 0 then ((zb a1).bind fun v1 =>
some (v1, S))
else ((stF 48 0 a2 S).bind fun S3 =>
(zb a1).bind fun v5 =>
some (v5, S3))
def f_X6_thrown (S : QS) : Option Int32 :=
some (S.1 48 0)
def f_X6_cell (a1 : Int32) (a2 : Int32) : Option Int32 :=
some (((101 * a1) + a2) + 50)
def lp_X6_falses_5 (a1 : Int32) (a2 : Int32) (S : QS) : Nat → Int32 → Int32 → Option Int32
  | 0, _, _ => none
  | fuel + 1, v1, v2 => (if (S.1 48 13) ≤ v2 then (some v1)
else ((rdA 57 10 v2 S).bind fun v3 =>
((if v3 = a1 then ((rdA 58 10 v2 S).bind fun v6 =>
(rdA 59 10 v2 S).bind fun v8 =>
(f_X6_in a2 v6 v8).bind fun v11 =>
if v11 = 0 then (some (1 <<< (v2 &&& 31)))
else (some 0))
else (some 0)) : Option (Int32)).bind fun q5 =>
lp_X6_falses_5 a1 a2 S fuel (v1 ||| q5) (v2 + 1)))
def f_X6_falses (a1 : Int32) (a2 : Int32) (S : QS) : Option Int32 :=
lp_X6_falses_5 a1 a2 S FU 0 0
def lp_X6_lets_11 (a1 : Int32) (v1 : Int32) : Nat → Int32 → QS → Option (QS)
  | 0, _, _ => none
  | fuel + 1, v3, S4 => (if 50 < v3 then (some S4)
else ((f_X6_cell v1 v3).bind fun v7 =>
(rdA 55 6 v1 S4).bind fun v8 =>
(rdA 56 6 v1 S4).bind fun v10 =>
(f_X6_in v3 v8 v10).bind fun v13 =>
((if v13 = 0 then (some 0)
else ((f_X6_falses v1 v3 S4).bind fun v16 =>
if (v16 &&& a1) = 0 then (some 1)
else (some 0))) : Option (Int32)).bind fun q14 =>
(wrZ 60 606 v7 q14 S4).bind fun S17 =>
(f_X6_cell v1 v3).bind fun v20 =>
(wrZ 61 606 v20 0 S17).bind fun S21 =>
lp_X6_lets_11 a1 v1 fuel (v3 + 1) S21))
def lp_X6_lets_2 (a1 : Int32) : Nat → Int32 → QS → Option QS
  | 0, _, _ => none
  | fuel + 1, v1, S2 => (if 6 ≤ v1 then (some S2)
else ((lp_X6_lets_11 a1 v1 FU (-50) S2).bind fun q5 =>
lp_X6_lets_2 a1 fuel (v1 + 1) q5))
def f_X6_lets (a1 : Int32) (S : QS) : Option QS :=
lp_X6_lets_2 a1 FU 0 S
def lp_X6_takes_12 (a1 : Int32) (a2 : Int32) (a4 : Int32) (S : QS) : Nat → Int32 → Int32 → Int32 → Int32 → Option (Int32 × Int32 × Int32)
  | 0, _, _, _, _ => none
  | fuel + 1, v1, v2, v3, v4 => (if (S.1 48 7) ≤ v4 then (some (v1, v2, v3))
else ((rdA 50 12 v4 S).bind fun v6 =>
if v6 = a1 then ((rdA 51 12 v4 S).bind fun v8 =>
if v8 = a2 then ((rdA 54 12 v4 S).bind fun v10 =>
if v10 = 0 then (if v4 = a4 then (lp_X6_takes_12 a1 a2 a4 S fuel v1 v2 v3 (v4 + 1))
else ((rdA 52 12 v4 S).bind fun v12 =>
(rdA 53 12 v4 S).bind fun v14 =>
lp_X6_takes_12 a1 a2 a4 S fuel (v1 + v12) (v2 + v14) (v3 + 1) (v4 + 1)))
else (lp_X6_takes_12 a1 a2 a4 S fuel v1 v2 v3 (v4 + 1)))
else (lp_X6_takes_12 a1 a2 a4 S fuel v1 v2 v3 (v4 + 1)))
else (lp_X6_takes_12 a1 a2 a4 S fuel v1 v2 v3 (v4 + 1))))
def ct_X6_takes_105 (a3 : Int32) (q5 : Int32 × Int32 × Int32) : Option Int32 :=
(f_X6_in a3 q5.1 q5.2.1).bind fun v17 =>
if v17 = 0 then (some 0)
else (some 1)
def f_X6_takes (a1 : Int32) (a2 : Int32) (a3 : Int32) (a4 : Int32) (S : QS) : Option Int32 :=
(lp_X6_takes_12 a1 a2 a4 S FU 0 0 0 0).bind fun q5 =>
if a2 = 0 then (ct_X6_takes_105 a3 q5)
else (if q5.2.2 = 0 then (some 1)
else (ct_X6_takes_105 a3 q5))
def f_X6_isFirst (a1 : Int32) (a2 : Int32) (a3 : Int32) (a4 : Int32) (S : QS) : Option Int32 :=
((if a3 ≤ 0 then (if 0 ≤ a3 then (if a2 < 0 then (some 0)
else (some 1))
else (if 0 ≤ a2 then (some 0)
else (some 1)))
else (if a2 ≤ 0 then (some 0)
else (some 1))) : Option (Int32)).bind fun q1 =>
if q1 = 0 then (some 0)
else ((f_X6_cell (3 * a1) a2).bind fun v3 =>
(rdA 60 606 v3 S).bind fun v4 =>
if v4 = 0 then (some 0)
else ((f_X6_takes a1 0 (51 * ((a2 * a2) - (a3 * a3))) a4 S).bind fun v7 =>
if v7 = 0 then (some 0)
else (some 1)))
def lp_X6_counts_23 (a1 : Int32) (v1 : Int32) (v3 : Int32) (S4 : QS) : Nat → Int32 → Int32 → Option (Int32)
  | 0, _, _ => none
  | fuel + 1, v6, v7 => (if 50 < v7 then (some v6)
else ((f_X6_cell ((3 * v1) + 1) v3).bind fun v10 =>
(rdA 60 606 v10 S4).bind fun v11 =>
if v11 = 0 then (some v6)
else ((f_X6_isFirst v1 v7 v3 a1 S4).bind fun v14 =>
((if v14 = 0 then (some 0)
else (some 1)) : Option (Int32)).bind fun q15 =>
lp_X6_counts_23 a1 v1 v3 S4 fuel (v6 + q15) (v7 + 1))))
def lp_X6_counts_10 (a1 : Int32) (v1 : Int32) : Nat → Int32 → QS → Option (QS)
  | 0, _, _ => none
  | fuel + 1, v3, S4 => (if 50 < v3 then (some S4)
else ((lp_X6_counts_23 a1 v1 v3 S4 FU 0 (-50)).bind fun q8 =>
(wrA 62 202 (((101 * v1) + v3) + 50) q8 S4).bind fun S16 =>
(f_X6_cell ((3 * v1) + 2) v3).bind fun v19 =>
(rdA 60 606 v19 S16).bind fun v20 =>
((if v20 = 0 then (some 0)
else ((f_X6_takes v1 1 ((51 * v3) * v3) a1 S16).bind fun v24 =>
if v24 = 0 then (some 0)
else (some 1))) : Option (Int32)).bind fun q22 =>
(wrZ 60 606 v19 q22 S16).bind fun S25 =>
lp_X6_counts_10 a1 v1 fuel (v3 + 1) S25))
def lp_X6_counts_2 (a1 : Int32) : Nat → Int32 → QS → Option QS
  | 0, _, _ => none
  | fuel + 1, v1, S2 => (if 2 ≤ v1 then (some S2)
else ((lp_X6_counts_10 a1 v1 FU (-50) S2).bind fun q5 =>
lp_X6_counts_2 a1 fuel (v1 + 1) q5))
def f_X6_counts (a1 : Int32) (S : QS) : Option QS :=
lp_X6_counts_2 a1 FU 0 S
def lp_X6_masks_33 (a1 : Int32) (a2 : Int32) (a3 : Int32) (v1 : Int32) : Nat → Int32 → QS → Option (QS)
  | 0, _, _ => none
  | fuel + 1, v5, S6 => ((rdA 66 202 ((101 + a2) + 50) S6).bind fun v8 =>
if v8 ≤ v5 then (some S6)
else ((rdA 65 20402 ((101 * (a1 + 50)) + v1) S6).bind fun v10 =>
(rdA 65 20402 ((101 * ((101 + a2) + 50)) + v5) S6).bind fun v12 =>
(wrZ 63 1024 ((v10 ||| v12) ||| a3) 1 S6).bind fun S14 =>
lp_X6_masks_33 a1 a2 a3 v1 fuel (v5 + 1) S14))
def lp_X6_masks_18 (a1 : Int32) (a2 : Int32) (a3 : Int32) : Nat → Int32 → QS → Option QS
  | 0, _, _ => none
  | fuel + 1, v1, S2 => ((rdA 66 202 (a1 + 50) S2).bind fun v3 =>
if v3 ≤ v1 then (some S2)
else ((lp_X6_masks_33 a1 a2 a3 v1 FU 0 S2).bind fun q7 =>
lp_X6_masks_18 a1 a2 a3 fuel (v1 + 1) q7))
def f_X6_masks (a1 : Int32) (a2 : Int32) (a3 : Int32) (S : QS) : Option QS :=
lp_X6_masks_18 a1 a2 a3 FU 0 S
def f_X6_mass (a1 : Int32) (a2 : Int32) (S : QS) : Option QS :=
(stF 48 0 0 S).bind fun S1 =>
(f_X6_noCar a1).bind fun v4 =>
(f_X6_throwsIf v4 1 S1).bind fun q6 =>
if q6.1 = 0 then ((f_X6_in a2 1 100).bind fun v8 =>
((if v8 = 0 then (some 1)
else (some 0)) : Option (Int32)).bind fun q9 =>
(f_X6_throwsIf q9 2 q6.2).bind fun q11 =>
if q11.1 = 0 then ((wrA 49 2 a1 a2 q11.2).bind fun S12 =>
some S12)
else (some q11.2))
else (some q6.2)
def f_X6_drop (a1 : Int32) (a2 : Int32) (S : QS) : Option (Int32 × QS) :=
(stF 48 0 0 S).bind fun S1 =>
(f_X6_in a1 0 ((S1.1 48 7) - 1)).bind fun v4 =>
((if v4 = 0 then (some 1)
else (some 0)) : Option (Int32)).bind fun q5 =>
(f_X6_throwsIf q5 1 S1).bind fun q7 =>
if q7.1 = 0 then ((rdA 54 12 a1 q7.2).bind fun v8 =>
(wrZ 54 12 a1 a2 q7.2).bind fun S10 =>
if v8 = a2 then (some (0, S10))
else (some (1, S10)))
else (some (0, q7.2))
def f_X6_sure (a1 : Int32) (a2 : Int32) (a3 : Int32) (a4 : Int32) (S : QS) : Option QS :=
(stF 48 0 0 S).bind fun S1 =>
(f_X6_noSpeed a1 a2).bind fun v4 =>
(f_X6_throwsIf v4 1 S1).bind fun q6 =>
if q6.1 = 0 then ((f_X6_noSpan a3 a4).bind fun v8 =>
(f_X6_throwsIf v8 2 q6.2).bind fun q10 =>
if q10.1 = 0 then ((wrA 55 6 ((3 * a1) + a2) a3 q10.2).bind fun S11 =>
(wrA 56 6 ((3 * a1) + a2) a4 S11).bind fun S13 =>
some S13)
else (some q10.2))
else (some q6.2)
def f_X6_hush (S : QS) : Option (Int32 × QS) :=
(stF 48 0 0 S).bind fun S1 =>
(stF 48 13 0 S1).bind fun S3 =>
some ((S1.1 48 13), S3)
def f_X6_all (S : QS) : Option Int32 :=
some ((1 <<< ((S.1 48 13) &&& 31)) - 1)
def f_X6_look (a1 : Int32) (a2 : Int32) (S : QS) : Option (Int32 × QS) :=
(stF 48 0 0 S).bind fun S1 =>
(f_X6_in a1 0 ((S1.1 48 7) - 1)).bind fun v4 =>
((if v4 = 0 then (some 1)
else (some 0)) : Option (Int32)).bind fun q5 =>
(f_X6_throwsIf q5 1 S1).bind fun q7 =>
if q7.1 = 0 then (if a2 = 0 then ((rdA 50 12 a1 q7.2).bind fun v8 =>
some (v8, q7.2))
else (if a2 = 1 then ((rdA 51 12 a1 q7.2).bind fun v10 =>
if v10 = 0 then (some (0, q7.2))
else (some (1, q7.2)))
else (if a2 = 2 then ((rdA 52 12 a1 q7.2).bind fun v12 =>
some (v12, q7.2))
else (if a2 = 3 then ((rdA 53 12 a1 q7.2).bind fun v14 =>
some (v14, q7.2))
else (if a2 = 4 then ((rdA 54 12 a1 q7.2).bind fun v16 =>
if v16 = 0 then (some (1, q7.2))
else (some (0, q7.2)))
else ((stF 48 0 2 q7.2).bind fun S18 =>
some (0, S18)))))))
else (some (0, q7.2))
def lp_X6_count_51 (S1 : QS) : Nat → Int32 → Int32 → Option (Int32 × QS)
  | 0, _, _ => none
  | fuel + 1, v3, v4 => (if (S1.1 48 7) ≤ v4 then (some (v3, S1))
else ((rdA 54 12 v4 S1).bind fun v5 =>
((if v5 = 0 then (some 1)
else (some 0)) : Option (Int32)).bind fun q7 =>
lp_X6_count_51 S1 fuel (v3 + q7) (v4 + 1)))
def f_X6_count (a1 : Int32) (S : QS) : Option (Int32 × QS) :=
(stF 48 0 0 S).bind fun S1 =>
if a1 = 0 then (some ((S1.1 48 7), S1))
else (if a1 = 1 then (lp_X6_count_51 S1 FU 0 0)
else (if a1 = 2 then (some ((S1.1 48 13), S1))
else (if a1 = 3 then ((rdA 49 2 (a1 - 3) S1).bind fun v8 =>
some (v8, S1))
else (if a1 = 4 then ((rdA 49 2 (a1 - 3) S1).bind fun v10 =>
some (v10, S1))
else (some ((-1), S1))))))
def f_X6_skid (a1 : Int32) (a2 : Int32) (a3 : Int32) (a4 : Int32) (a5 : Int32) (a6 : Int32) (S : QS) : Option (Int32 × QS) :=
(stF 48 0 0 S).bind fun S1 =>
(f_X6_noCar a1).bind fun v4 =>
(f_X6_throwsIf v4 1 S1).bind fun q6 =>
if q6.1 = 0 then (((if a3 < 0 then (some 1)
else (if a4 < a3 then (some 1)
else (if 2000 < a4 then (some 1)
else (if a5 < 0 then (some 1)
else (if a6 < a5 then (some 1)
else (if a6 ≤ 150 then (some 0)
else (some 1))))))) : Option (Int32)).bind fun q7 =>
(f_X6_throwsIf q7 2 q6.2).bind fun q9 =>
if q9.1 = 0 then (((if (q9.2.1 48 7) = 12 then (some 1)
else (some 0)) : Option (Int32)).bind fun q10 =>
(f_X6_throwsIf q10 3 q9.2).bind fun q12 =>
if q12.1 = 0 then ((wrA 50 12 (q12.2.1 48 7) a1 q12.2).bind fun S13 =>
(wrZ 51 12 (S13.1 48 7) a2 S13).bind fun S15 =>
(wrA 52 12 (S15.1 48 7) (a3 * a5) S15).bind fun S17 =>
(wrA 53 12 (S17.1 48 7) (a4 * a6) S17).bind fun S19 =>
(stF 48 7 ((S19.1 48 7) + 1) S19).bind fun S21 =>
some (((S21.1 48 7) - 1), S21))
else (some (0, q12.2)))
else (some (0, q9.2)))
else (some (0, q6.2))
def f_X6_tale (a1 : Int32) (a2 : Int32) (a3 : Int32) (a4 : Int32) (S : QS) : Option (Int32 × QS) :=
(stF 48 0 0 S).bind fun S1 =>
(f_X6_noSpeed a1 a2).bind fun v4 =>
(f_X6_throwsIf v4 1 S1).bind fun q6 =>
if q6.1 = 0 then ((f_X6_noSpan a3 a4).bind fun v8 =>
(f_X6_throwsIf v8 2 q6.2).bind fun q10 =>
if q10.1 = 0 then (((if (q10.2.1 48 13) = 10 then (some 1)
else (some 0)) : Option (Int32)).bind fun q11 =>
(f_X6_throwsIf q11 3 q10.2).bind fun q13 =>
if q13.1 = 0 then ((wrA 57 10 (q13.2.1 48 13) ((3 * a1) + a2) q13.2).bind fun S14 =>
(wrA 58 10 (S14.1 48 13) a3 S14).bind fun S16 =>
(wrA 59 10 (S16.1 48 13) a4 S16).bind fun S18 =>
(stF 48 13 ((S18.1 48 13) + 1) S18).bind fun S20 =>
some (((S20.1 48 13) - 1), S20))
else (some (0, q13.2)))
else (some (0, q10.2)))
else (some (0, q6.2))
def lp_X6_goes_75 (v7 : Int32) (v10 : Int32) (v13 : Int32) (v15 : Int32) : Nat → Int32 → QS → Option (QS)
  | 0, _, _ => none
  | fuel + 1, v17, S18 => (if 50 < v17 then (some S18)
else ((rdA 49 2 0 S18).bind fun v20 =>
(rdA 49 2 1 S18).bind fun v22 =>
(rdA 49 2 1 S18).bind fun v24 =>
(dvI ((v20 * (v7 - v17)) + (v22 * v10)) v24).bind fun v26 =>
(rdA 49 2 1 S18).bind fun v27 =>
if (v26 * v27) = ((v20 * (v7 - v17)) + (v22 * v10)) then (if v26 < v17 then (lp_X6_goes_75 v7 v10 v13 v15 fuel (v17 + 1) S18)
else (if 50 < v26 then (lp_X6_goes_75 v7 v10 v13 v15 fuel (v17 + 1) S18)
else ((f_X6_cell 2 v17).bind fun v30 =>
(rdA 60 606 v30 S18).bind fun v31 =>
if v31 = 0 then (lp_X6_goes_75 v7 v10 v13 v15 fuel (v17 + 1) S18)
else ((f_X6_cell 5 v26).bind fun v34 =>
(rdA 60 606 v34 S18).bind fun v35 =>
if v35 = 0 then (lp_X6_goes_75 v7 v10 v13 v15 fuel (v17 + 1) S18)
else ((rdA 49 2 0 S18).bind fun v37 =>
(rdA 49 2 1 S18).bind fun v39 =>
(rdA 49 2 0 S18).bind fun v41 =>
(rdA 49 2 1 S18).bind fun v43 =>
if (((v41 * v17) * v17) + ((v43 * v26) * v26)) ≤ (((v37 * v7) * v7) + ((v39 * v10) * v10)) then ((stL 48 ((S18.2 48) + (v13.toInt64 * v15.toInt64)) S18).bind fun S45 =>
(f_X6_cell 1 v7).bind fun v48 =>
(wrZ 61 606 v48 1 S45).bind fun S49 =>
(f_X6_cell 4 v10).bind fun v52 =>
(wrZ 61 606 v52 1 S49).bind fun S53 =>
(f_X6_cell 2 v17).bind fun v56 =>
(wrZ 61 606 v56 1 S53).bind fun S57 =>
(f_X6_cell 5 v26).bind fun v60 =>
(wrZ 61 606 v60 1 S57).bind fun S61 =>
if (S61.1 48 18) = 0 then (lp_X6_goes_75 v7 v10 v13 v15 fuel (v17 + 1) S61)
else ((f_X6_falses 2 v17 S61).bind fun v64 =>
(f_X6_falses 5 v26 S61).bind fun v66 =>
(f_X6_masks v7 v10 (v64 ||| v66) S61).bind fun S68 =>
lp_X6_goes_75 v7 v10 v13 v15 fuel (v17 + 1) S68))
else (lp_X6_goes_75 v7 v10 v13 v15 fuel (v17 + 1) S18))))))
else (lp_X6_goes_75 v7 v10 v13 v15 fuel (v17 + 1) S18)))
def lp_X6_goes_28 (v7 : Int32) : Nat → Int32 → QS → Option (QS)
  | 0, _, _ => none
  | fuel + 1, v10, S11 => (if v7 ≤ v10 then (some S11)
else ((rdA 62 202 (v7 + 50) S11).bind fun v13 =>
(rdA 62 202 ((101 + v10) + 50) S11).bind fun v15 =>
if (lg_cmp (v13.toInt64 * v15.toInt64) 0) = 0 then (lp_X6_goes_28 v7 fuel (v10 + 1) S11)
else ((lp_X6_goes_75 v7 v10 v13 v15 FU (-50) S11).bind fun q19 =>
lp_X6_goes_28 v7 fuel (v10 + 1) q19)))
def lp_X6_goes_18  : Nat → Int32 → QS → Option (QS)
  | 0, _, _ => none
  | fuel + 1, v7, S8 => (if 50 < v7 then (some S8)
else ((lp_X6_goes_28 v7 FU (-50) S8).bind fun q12 =>
lp_X6_goes_18 fuel (v7 + 1) q12))
def lp_X6_goes_377 (a2 : Int32) (v70 : Int32) (v73 : Int32) : Nat → Int32 → QS → Option (QS)
  | 0, _, _ => none
  | fuel + 1, v80, S81 => (if 50 < v80 then (some S81)
else ((f_X6_isFirst v70 v80 v73 a2 S81).bind fun v84 =>
if v84 = 0 then (lp_X6_goes_377 a2 v70 v73 fuel (v80 + 1) S81)
else ((f_X6_cell (3 * v70) v80).bind fun v86 =>
(wrZ 61 606 v86 1 S81).bind fun S87 =>
lp_X6_goes_377 a2 v70 v73 fuel (v80 + 1) S87)))
def lp_X6_goes_345 (a2 : Int32) (v70 : Int32) : Nat → Int32 → QS → Option (QS)
  | 0, _, _ => none
  | fuel + 1, v73, S74 => (if 50 < v73 then (some S74)
else ((f_X6_cell ((3 * v70) + 1) v73).bind fun v77 =>
(rdA 61 606 v77 S74).bind fun v78 =>
if v78 = 0 then (lp_X6_goes_345 a2 v70 fuel (v73 + 1) S74)
else ((lp_X6_goes_377 a2 v70 v73 FU (-50) S74).bind fun q82 =>
lp_X6_goes_345 a2 v70 fuel (v73 + 1) q82)))
def lp_X6_goes_336 (a2 : Int32) : Nat → Int32 → QS → Option (QS)
  | 0, _, _ => none
  | fuel + 1, v70, S71 => (if 2 ≤ v70 then (some S71)
else ((lp_X6_goes_345 a2 v70 FU (-50) S71).bind fun q75 =>
lp_X6_goes_336 a2 fuel (v70 + 1) q75))
def f_X6_goes (a1 : Int32) (a2 : Int32) (S : QS) : Option (Int32 × QS) :=
(f_X6_lets a1 S).bind fun S2 =>
(f_X6_counts a2 S2).bind fun S4 =>
(stL 48 0 S4).bind fun S5 =>
(lp_X6_goes_18 FU (-50) S5).bind fun q9 =>
(lp_X6_goes_336 a2 FU 0 q9).bind fun q72 =>
if (lg_cmp (q72.2 48) 0) ≤ 0 then (some (0, q72))
else (some (1, q72))
def lp_X6_makes_41 (v3 : Int32) (v5 : Int32) : Nat → Int32 → QS → Option (QS)
  | 0, _, _ => none
  | fuel + 1, v10, S11 => (if (1 <<< ((S11.1 48 13) &&& 31)) ≤ v10 then (some S11)
else ((wrZ 64 206848 (((((101 * v3) + v5) + 50) <<< (10 &&& 31)) + v10) 0 S11).bind fun S13 =>
lp_X6_makes_41 v3 v5 fuel (v10 + 1) S13))
def lp_X6_makes_75 (v3 : Int32) (v5 : Int32) : Nat → Int32 → QS → Option (QS)
  | 0, _, _ => none
  | fuel + 1, v15, S16 => (if 50 < v15 then (some S16)
else ((f_X6_cell ((3 * v3) + 1) v5).bind fun v19 =>
(rdA 60 606 v19 S16).bind fun v20 =>
if v20 = 0 then (lp_X6_makes_75 v3 v5 fuel (v15 + 1) S16)
else ((f_X6_isFirst v3 v15 v5 (-1) S16).bind fun v23 =>
if v23 = 0 then (lp_X6_makes_75 v3 v5 fuel (v15 + 1) S16)
else ((f_X6_falses (3 * v3) v15 S16).bind fun v25 =>
(f_X6_falses ((3 * v3) + 1) v5 S16).bind fun v27 =>
(rdA 64 206848 (((((101 * v3) + v5) + 50) <<< (10 &&& 31)) + (v25 ||| v27)) S16).bind fun v28 =>
if v28 = 0 then ((wrZ 64 206848 (((((101 * v3) + v5) + 50) <<< (10 &&& 31)) + (v25 ||| v27)) 1 S16).bind fun S30 =>
(rdA 66 202 (((101 * v3) + v5) + 50) S30).bind fun v32 =>
(wrA 65 20402 ((101 * (((101 * v3) + v5) + 50)) + v32) (v25 ||| v27) S30).bind fun S34 =>
(rdA 66 202 (((101 * v3) + v5) + 50) S34).bind fun v36 =>
(wrA 66 202 (((101 * v3) + v5) + 50) (v36 + 1) S34).bind fun S38 =>
lp_X6_makes_75 v3 v5 fuel (v15 + 1) S38)
else (lp_X6_makes_75 v3 v5 fuel (v15 + 1) S16)))))
def lp_X6_makes_15 (v3 : Int32) : Nat → Int32 → QS → Option (QS)
  | 0, _, _ => none
  | fuel + 1, v5, S6 => (if 50 < v5 then (some S6)
else ((wrA 66 202 (((101 * v3) + v5) + 50) 0 S6).bind fun S8 =>
(lp_X6_makes_41 v3 v5 FU 0 S8).bind fun q12 =>
(lp_X6_makes_75 v3 v5 FU (-50) q12).bind fun q17 =>
lp_X6_makes_15 v3 fuel (v5 + 1) q17))
def lp_X6_makes_7  : Nat → Int32 → QS → Option QS
  | 0, _, _ => none
  | fuel + 1, v3, S4 => (if 2 ≤ v3 then (some S4)
else ((lp_X6_makes_15 v3 FU (-50) S4).bind fun q7 =>
lp_X6_makes_7 fuel (v3 + 1) q7))
def f_X6_makes (S : QS) : Option QS :=
(f_X6_lets 0 S).bind fun S2 =>
lp_X6_makes_7 FU 0 S2
def lp_X6_fewest_2  : Nat → Int32 → QS → Option (QS)
  | 0, _, _ => none
  | fuel + 1, v1, S2 => (if 1024 ≤ v1 then (some S2)
else ((wrZ 63 1024 v1 0 S2).bind fun S4 =>
lp_X6_fewest_2 fuel (v1 + 1) S4))
def lp_X6_fewest_47 (q11 : Int32 × QS) (S12 : QS) : Nat → Int32 → Int32 → Option (Int32 × QS)
  | 0, _, _ => none
  | fuel + 1, v14, v15 => (if (1 <<< ((S12.1 48 13) &&& 31)) ≤ v15 then (some (v14, S12))
else (if q11.1 = 0 then (some (v14, S12))
else ((rdA 63 1024 v15 S12).bind fun v16 =>
if v16 = 0 then (lp_X6_fewest_47 q11 S12 fuel v14 (v15 + 1))
else (if v14 < 0 then (lp_X6_fewest_47 q11 S12 fuel v15 (v15 + 1))
else ((f_J6_bitCount_0f7a4 v15).bind fun v19 =>
(f_J6_bitCount_0f7a4 v14).bind fun v21 =>
if v21 ≤ v19 then (lp_X6_fewest_47 q11 S12 fuel v14 (v15 + 1))
else (lp_X6_fewest_47 q11 S12 fuel v15 (v15 + 1)))))))
def f_X6_fewest (S : QS) : Option (Int32 × QS) :=
(lp_X6_fewest_2 FU 0 S).bind fun q3 =>
(f_X6_makes q3).bind fun S7 =>
(stZ 48 18 1 S7).bind fun S8 =>
(f_X6_goes 0 (-1) S8).bind fun q11 =>
(stZ 48 18 0 q11.2).bind fun S12 =>
lp_X6_fewest_47 q11 S12 FU (-1) 0
def f_X6_ways (S : QS) : Option (Int64 × QS) :=
(stF 48 0 0 S).bind fun S1 =>
(f_X6_goes 0 (-1) S1).bind fun q4 =>
some ((q4.2.2 48), q4.2)
def lp_X6_span_67 (a1 : Int32) (a2 : Int32) (a3 : Int32) (q14 : Int32 × QS) : Nat → Int32 → Option (Int32 × QS)
  | 0, _ => none
  | fuel + 1, v16 => ((f_X6_cell ((3 * a1) + a2) v16).bind fun v18 =>
(rdA 61 606 v18 q14.2).bind fun v19 =>
if v19 = 0 then (((if a3 = 0 then (some 1)
else (some (-1))) : Option (Int32)).bind fun q21 =>
lp_X6_span_67 a1 a2 a3 q14 fuel (v16 + q21))
else (some (v16, q14.2)))
def f_X6_span (a1 : Int32) (a2 : Int32) (a3 : Int32) (a4 : Int32) (S : QS) : Option (Int32 × QS) :=
(stF 48 0 0 S).bind fun S1 =>
(f_X6_noSpeed a1 a2).bind fun v4 =>
(f_X6_throwsIf v4 1 S1).bind fun q6 =>
if q6.1 = 0 then (((if a4 = 0 then (some 0)
else ((f_X6_all q6.2).bind fun v9 =>
some v9)) : Option (Int32)).bind fun q7 =>
(f_X6_goes q7 (-1) q6.2).bind fun q11 =>
((if q11.1 = 0 then (some 1)
else (some 0)) : Option (Int32)).bind fun q12 =>
(f_X6_throwsIf q12 2 q11.2).bind fun q14 =>
if q14.1 = 0 then (((if a3 = 0 then (some (-50))
else (some 50)) : Option (Int32)).bind fun q15 =>
lp_X6_span_67 a1 a2 a3 q14 FU q15)
else (some (0, q14.2)))
else (some (0, q6.2))
def f_X6_fit (a1 : Int32) (S : QS) : Option (Int32 × QS) :=
(stF 48 0 0 S).bind fun S1 =>
(f_X6_all S1).bind fun v4 =>
(f_X6_goes (a1 &&& v4) (-1) S1).bind fun q6 =>
(zb q6.1).bind fun v7 =>
some (v7, q6.2)
def f_X6_wrong (S : QS) : Option (Int32 × QS) :=
(stF 48 0 0 S).bind fun S1 =>
(f_X6_fewest S1).bind fun q4 =>
if 0 ≤ q4.1 then ((f_J6_bitCount_0f7a4 q4.1).bind fun v6 =>
some (v6, q4.2))
else (some ((-1), q4.2))
def f_X6_which (S : QS) : Option (Int32 × QS) :=
(stF 48 0 0 S).bind fun S1 =>
(f_X6_fewest S1).bind fun q4 =>
some (q4.1, q4.2)
def lp_X6_odds_20  : Nat → Int32 → Int32 → QS → Option (Int32 × QS)
  | 0, _, _, _ => none
  | fuel + 1, v5, v6, S7 => (if (S7.1 48 7) ≤ v6 then (some (v5, S7))
else ((rdA 54 12 v6 S7).bind fun v8 =>
((if v8 = 0 then ((f_X6_goes 0 v6 S7).bind fun q12 =>
if q12.1 = 0 then (some (0, q12.2))
else (some ((1 <<< (v6 &&& 31)), q12.2)))
else (some (0, S7))) : Option (Int32 × QS)).bind fun q10 =>
lp_X6_odds_20 fuel (v5 ||| q10.1) (v6 + 1) q10.2))
def f_X6_odds (S : QS) : Option (Int32 × QS) :=
(stF 48 0 0 S).bind fun S1 =>
(f_X6_goes 0 (-1) S1).bind fun q4 =>
if q4.1 = 0 then (lp_X6_odds_20 FU 0 0 q4.2)
else (some (0, q4.2))
def lp_X6_avoided_86 (a1 : Int32) (a2 : Int32) (a3 : Int32) (q18 : Int32 × QS) : Nat → Int32 → Int32 → Int32 → Option (Int32 × Int32)
  | 0, _, _, _ => none
  | fuel + 1, v19, v20, v21 => (if 50 < v21 then (some (v19, v20))
else ((f_X6_cell (3 * a1) v21).bind fun v24 =>
(rdA 61 606 v24 q18.2).bind fun v25 =>
if v25 = 0 then (lp_X6_avoided_86 a1 a2 a3 q18 fuel v19 v20 (v21 + 1))
else (((if (a2 * a3) < ((51 * v21) * v21) then (some 0)
else (some 1)) : Option (Int32)).bind fun q27 =>
((if v19 = 0 then (if q27 = 0 then (some 0)
else (some 1))
else (some 1)) : Option (Int32)).bind fun q28 =>
((if v20 = 0 then (some 0)
else (if q27 = 0 then (some 0)
else (some 1))) : Option (Int32)).bind fun q29 =>
lp_X6_avoided_86 a1 a2 a3 q18 fuel q28 q29 (v21 + 1))))
def f_X6_avoided (a1 : Int32) (a2 : Int32) (a3 : Int32) (S : QS) : Option (Int32 × QS) :=
(stF 48 0 0 S).bind fun S1 =>
(f_X6_noCar a1).bind fun v4 =>
(f_X6_throwsIf v4 1 S1).bind fun q6 =>
if q6.1 = 0 then ((f_X6_in a2 0 2000).bind fun v8 =>
((if v8 = 0 then (some 1)
else ((f_X6_in a3 0 150).bind fun v11 =>
if v11 = 0 then (some 1)
else (some 0))) : Option (Int32)).bind fun q9 =>
(f_X6_throwsIf q9 2 q6.2).bind fun q13 =>
if q13.1 = 0 then ((f_X6_goes 0 (-1) q13.2).bind fun q15 =>
((if q15.1 = 0 then (some 1)
else (some 0)) : Option (Int32)).bind fun q16 =>
(f_X6_throwsIf q16 3 q15.2).bind fun q18 =>
if q18.1 = 0 then ((lp_X6_avoided_86 a1 a2 a3 q18 FU 0 1 (-50)).bind fun q22 =>
if q22.2 = 0 then (if q22.1 = 0 then (some (0, q18.2))
else (some (1, q18.2)))
else (some (2, q18.2)))
else (some (0, q18.2)))
else (some (0, q13.2)))
else (some (0, q6.2))
def f_X6_can (a1 : Int32) (a2 : Int32) (a3 : Int32) (S : QS) : Option (Int32 × QS) :=
(stF 48 0 0 S).bind fun S1 =>
(f_X6_noSpeed a1 a2).bind fun v4 =>
(f_X6_throwsIf v4 1 S1).bind fun q6 =>
if q6.1 = 0 then ((f_X6_in a3 (-50) 50).bind fun v8 =>
if v8 = 0 then (some (0, q6.2))
else ((f_X6_goes 0 (-1) q6.2).bind fun q10 =>
if q10.1 = 0 then (some (0, q10.2))
else ((f_X6_cell ((3 * a1) + a2) a3).bind fun v12 =>
(rdA 61 606 v12 q10.2).bind fun v13 =>
if v13 = 0 then (some (0, q10.2))
else (some (1, q10.2)))))
else (some (0, q6.2))
def f_X5_testCar (a1 : Int32) (S : QS) : Option ((String × QS) ⊕ Unit) :=
if a1 < 0 then (some (.inl ("java/lang/IndexOutOfBoundsException", S)))
else (if a1 < 2 then (some (.inr ()))
else (some (.inl ("java/lang/IndexOutOfBoundsException", S))))
def f_X5_testSpeed (a1 : Int32) (a2 : Int32) (S : QS) : Option ((String × QS) ⊕ Unit) :=
bx (f_X5_testCar a1 S) fun _ =>
if a2 < 0 then (some (.inl ("java/lang/IndexOutOfBoundsException", S)))
else (if a2 ≤ 2 then (some (.inr ()))
else (some (.inl ("java/lang/IndexOutOfBoundsException", S))))
def f_X5_testNumber (a1 : Int32) (a2 : Int32) (a3 : Int32) (S : QS) : Option ((String × QS) ⊕ Unit) :=
if a1 < a2 then (some (.inl ("java/lang/IllegalArgumentException", S)))
else (if a1 ≤ a3 then (some (.inr ()))
else (some (.inl ("java/lang/IllegalArgumentException", S))))
def f_X5_testSpan (a1 : Int32) (a2 : Int32) (a3 : Int32) (a4 : Int32) (S : QS) : Option ((String × QS) ⊕ Unit) :=
if a1 < a3 then (some (.inl ("java/lang/IllegalArgumentException", S)))
else (if a2 < a1 then (some (.inl ("java/lang/IllegalArgumentException", S)))
else (if a2 ≤ a4 then (some (.inr ()))
else (some (.inl ("java/lang/IllegalArgumentException", S)))))
def f_X5_testWay (S : QS) : Option ((String × QS) ⊕ Unit) :=
if (lg_cmp (S.2 25) 0) = 0 then (some (.inl ("java/util/NoSuchElementException", S)))
else (some (.inr ()))
def f_X5_skidOf (a1 : Int32) (S : QS) : Option ((String × QS) ⊕ Nat) :=
if a1 < 0 then (some (.inl ("java/lang/IndexOutOfBoundsException", S)))
else (if a1 < (S.1 0 2) then ((rdQ 2 12 a1).bind fun c1 =>
some (.inr c1))
else (some (.inl ("java/lang/IndexOutOfBoundsException", S))))
def f_X5_carOf (a1 : Int32) (S : QS) : Option ((String × QS) ⊕ Nat) :=
bx (f_X5_testCar a1 S) fun _ =>
(f_X1_pick a1 S).bind fun c4 =>
some (.inr c4)
def f_X5_speedOf (a1 : Int32) (a2 : Int32) (S : QS) : Option ((String × QS) ⊕ Nat) :=
bx (f_X5_testSpeed a1 a2 S) fun _ =>
bx (f_X5_carOf a1 S) fun c4 =>
(f_X0_pick c4 a2 S).bind fun c7 =>
some (.inr c7)
def f_X5_allTales (S : QS) : Option Int32 :=
some ((1 <<< ((S.1 0 3) &&& 31)) - 1)
def lp_X5_countingSkids_4 (S : QS) : Nat → Int32 → Int32 → Option Int32
  | 0, _, _ => none
  | fuel + 1, v1, v2 => (if (S.1 0 2) ≤ v2 then (some v1)
else ((rdQ 2 12 v2).bind fun c3 =>
((if (S.1 c3 4) = 0 then (some 0)
else (some 1)) : Option (Int32)).bind fun q5 =>
lp_X5_countingSkids_4 S fuel (v1 + q5) (v2 + 1)))
def f_X5_countingSkids (S : QS) : Option Int32 :=
lp_X5_countingSkids_4 S FU 0 0
def f_X5_mass (a1 : Int32) (a2 : Int32) (S : QS) : Option ((String × QS) ⊕ QS) :=
bx (f_X5_carOf a1 S) fun c2 =>
bx (f_X5_testNumber a2 1 100 S) fun _ =>
(stF c2 0 a2 S).bind fun S6 =>
(stZ 0 5 0 S6).bind fun S8 =>
some (.inr S8)
def f_X5_skid (a1 : Int32) (a2 : Int32) (a3 : Int32) (a4 : Int32) (a5 : Int32) (a6 : Int32) (S : QS) : Option ((String × QS) ⊕ (Int32 × QS)) :=
bx (f_X5_testCar a1 S) fun _ =>
bx (f_X5_testSpan a3 a4 0 2000 S) fun _ =>
bx (f_X5_testSpan a5 a6 0 150 S) fun _ =>
if (S.1 0 2) < 12 then ((rdQ 2 12 (S.1 0 2)).bind fun c7 =>
(stF c7 0 a1 S).bind fun S9 =>
(stZ c7 1 a2 S9).bind fun S11 =>
(stF c7 2 (a3 * a5) S11).bind fun S13 =>
(stF c7 3 (a4 * a6) S13).bind fun S15 =>
(stZ c7 4 1 S15).bind fun S17 =>
(stF 0 2 ((S17.1 0 2) + 1) S17).bind fun S19 =>
(stZ 0 5 0 S19).bind fun S21 =>
some (.inr (((S21.1 0 2) - 1), S21)))
else (some (.inl ("java/lang/UnsupportedOperationException", S)))
def f_X5_drop (a1 : Int32) (a2 : Int32) (S : QS) : Option ((String × QS) ⊕ (Int32 × QS)) :=
bx (f_X5_skidOf a1 S) fun c2 =>
if (S.1 c2 4) = a2 then (((if a2 = 0 then (some 1)
else (some 0)) : Option (Int32)).bind fun q4 =>
(stZ c2 4 q4 S).bind fun S5 =>
(stZ 0 5 0 S5).bind fun S7 =>
some (.inr (1, S7)))
else (some (.inr (0, S)))
def f_X5_sure (a1 : Int32) (a2 : Int32) (a3 : Int32) (a4 : Int32) (S : QS) : Option ((String × QS) ⊕ QS) :=
bx (f_X5_speedOf a1 a2 S) fun c2 =>
bx (f_X5_testSpan a3 a4 (-50) 50 S) fun _ =>
(stF c2 0 a3 S).bind fun S6 =>
(stF c2 1 a4 S6).bind fun S8 =>
(stZ 0 5 0 S8).bind fun S10 =>
some (.inr S10)
def f_X5_tale (a1 : Int32) (a2 : Int32) (a3 : Int32) (a4 : Int32) (S : QS) : Option ((String × QS) ⊕ (Int32 × QS)) :=
bx (f_X5_testSpeed a1 a2 S) fun _ =>
bx (f_X5_testSpan a3 a4 (-50) 50 S) fun _ =>
if (S.1 0 3) < 10 then ((rdQ 15 10 (S.1 0 3)).bind fun c5 =>
(stF c5 0 a1 S).bind fun S7 =>
(stF c5 1 a2 S7).bind fun S9 =>
(stF c5 2 a3 S9).bind fun S11 =>
(stF c5 3 a4 S11).bind fun S13 =>
(stF 0 3 ((S13.1 0 3) + 1) S13).bind fun S15 =>
(stZ 0 5 0 S15).bind fun S17 =>
some (.inr (((S17.1 0 3) - 1), S17)))
else (some (.inl ("java/lang/UnsupportedOperationException", S)))
def f_X5_hush (S : QS) : Option (Int32 × QS) :=
(stF 0 3 0 S).bind fun S1 =>
(stZ 0 5 0 S1).bind fun S3 =>
some ((S.1 0 3), S3)
def f_X5_look (a1 : Int32) (a2 : Int32) (S : QS) : Option ((String × QS) ⊕ Int32) :=
bx (f_X5_skidOf a1 S) fun c2 =>
if a2 = 0 then (some (.inr (S.1 c2 0)))
else (if a2 = 1 then (if (S.1 c2 1) = 0 then (some (.inr 0))
else (some (.inr 1)))
else (if a2 = 2 then (some (.inr (S.1 c2 2)))
else (if a2 = 3 then (some (.inr (S.1 c2 3)))
else (if a2 = 4 then (if (S.1 c2 4) = 0 then (some (.inr 0))
else (some (.inr 1)))
else (some (.inl ("java/util/NoSuchElementException", S)))))))
def f_X5_count (a1 : Int32) (S : QS) : Option Int32 :=
if a1 = 0 then (some (S.1 0 2))
else (if a1 = 1 then ((f_X5_countingSkids S).bind fun v2 =>
some v2)
else (if a1 = 2 then (some (S.1 0 3))
else (if a1 = 3 then (some (S.1 26 0))
else (if a1 = 4 then (some (S.1 37 0))
else (some (-1))))))
def lp_X5_reckon_46 (a1 : Int32) : Nat → Int32 → QS → Option (QS)
  | 0, _, _ => none
  | fuel + 1, v5, S6 => (if (S6.1 0 3) ≤ v5 then (some S6)
else ((rdQ 15 10 v5).bind fun c8 =>
(f_X1_pick (S6.1 c8 0) S6).bind fun c11 =>
(f_X0_pick c11 (S6.1 c8 1) S6).bind fun c13 =>
((if (a1 &&& (1 <<< (v5 &&& 31))) = 0 then (some ((1024 : Int32) + (1 <<< (v5 &&& 31))))
else (some (-1))) : Option (Int32)).bind fun q14 =>
(f_X3_hear c13 c8 q14 S6).bind fun S16 =>
lp_X5_reckon_46 a1 fuel (v5 + 1) S16))
def lp_X5_reckon_121 (a2 : Int32) : Nat → Int32 → QS → Option (QS)
  | 0, _, _ => none
  | fuel + 1, v17, S18 => (if (S18.1 0 2) ≤ v17 then (some S18)
else ((rdQ 2 12 v17).bind fun c20 =>
if (S18.1 c20 4) = 0 then (lp_X5_reckon_121 a2 fuel (v17 + 1) S18)
else (if v17 = a2 then (lp_X5_reckon_121 a2 fuel (v17 + 1) S18)
else ((rdQ 2 12 v17).bind fun c22 =>
(f_X1_pick (S18.1 c22 0) S18).bind fun c25 =>
(rdQ 2 12 v17).bind fun c26 =>
(f_X0_add c25 c26 S18).bind fun S29 =>
lp_X5_reckon_121 a2 fuel (v17 + 1) S29))))
def ct_X5_reckon_24 (a1 : Int32) (a2 : Int32) (S : QS) : Option QS :=
(f_X0_clear 26 S).bind fun S2 =>
(f_X0_clear 37 S2).bind fun S4 =>
(lp_X5_reckon_46 a1 FU 0 S4).bind fun q7 =>
(lp_X5_reckon_121 a2 FU 0 q7).bind fun q19 =>
(f_X1_reckon q19).bind fun S31 =>
(stZ 0 5 1 S31).bind fun S32 =>
(stF 0 6 a1 S32).bind fun S34 =>
(stF 0 7 a2 S34).bind fun S36 =>
some S36
def f_X5_reckon (a1 : Int32) (a2 : Int32) (S : QS) : Option QS :=
if (S.1 0 5) = 0 then (ct_X5_reckon_24 a1 a2 S)
else (if a1 = (S.1 0 6) then (if a2 = (S.1 0 7) then (some S)
else (ct_X5_reckon_24 a1 a2 S))
else (ct_X5_reckon_24 a1 a2 S))
def f_X5_ways (S : QS) : Option (Int64 × QS) :=
(f_X5_reckon 0 (-1) S).bind fun S2 =>
some ((S2.2 25), S2)
def f_X5_span (a1 : Int32) (a2 : Int32) (a3 : Int32) (a4 : Int32) (S : QS) : Option ((String × QS) ⊕ (Int32 × QS)) :=
bx (f_X5_speedOf a1 a2 S) fun c2 =>
((if a4 = 0 then (some 0)
else ((f_X5_allTales S).bind fun v6 =>
some v6)) : Option (Int32)).bind fun q4 =>
(f_X5_reckon q4 (-1) S).bind fun S8 =>
bx (f_X5_testWay S8) fun _ =>
if a3 = 0 then ((f_X3_leastSeen c2 S8).bind fun v12 =>
some (.inr (v12, S8)))
else ((f_X3_greatestSeen c2 S8).bind fun v14 =>
some (.inr (v14, S8)))
def f_X5_fit (a1 : Int32) (S : QS) : Option (Int32 × QS) :=
(f_X5_allTales S).bind fun v2 =>
(f_X5_reckon (a1 &&& v2) (-1) S).bind fun S4 =>
if (lg_cmp (S4.2 25) 0) ≤ 0 then (some (0, S4))
else (some (1, S4))
def f_X5_wrong (S : QS) : Option (Int32 × QS) :=
(f_X5_reckon 0 (-1) S).bind fun S2 =>
if (S2.1 25 3) = (-1) then (some ((-1), S2))
else ((dvI (S2.1 25 3) 1024).bind fun v3 =>
some (v3, S2))
def f_X5_which (S : QS) : Option (Int32 × QS) :=
(f_X5_reckon 0 (-1) S).bind fun S2 =>
if (S2.1 25 3) = (-1) then (some ((-1), S2))
else ((rmI (S2.1 25 3) 1024).bind fun v3 =>
some (v3, S2))
def lp_X5_odds_24  : Nat → Int32 → Int32 → QS → Option (Int32 × QS)
  | 0, _, _, _ => none
  | fuel + 1, v3, v4, S5 => (if (S5.1 0 2) ≤ v4 then (some (v3, S5))
else ((rdQ 2 12 v4).bind fun c6 =>
if (S5.1 c6 4) = 0 then (lp_X5_odds_24 fuel v3 (v4 + 1) S5)
else ((f_X5_reckon 0 v4 S5).bind fun S9 =>
((if (lg_cmp (S9.2 25) 0) ≤ 0 then (some 0)
else (some (1 <<< (v4 &&& 31)))) : Option (Int32)).bind fun q10 =>
lp_X5_odds_24 fuel (v3 ||| q10) (v4 + 1) S9)))
def f_X5_odds (S : QS) : Option (Int32 × QS) :=
(f_X5_reckon 0 (-1) S).bind fun S2 =>
if (lg_cmp (S2.2 25) 0) ≤ 0 then (lp_X5_odds_24 FU 0 0 S2)
else (some (0, S2))
def lp_X5_avoided_46 (a2 : Int32) (a3 : Int32) (c2 : Nat) (S9 : QS) : Nat → Int32 → Int32 → Int32 → Option (Int32 × Int32)
  | 0, _, _, _ => none
  | fuel + 1, v12, v13, v14 => (if 50 < v14 then (some (v12, v13))
else ((f_X3_isSeen (c2 + 1) v14 S9).bind fun v17 =>
if v17 = 0 then (lp_X5_avoided_46 a2 a3 c2 S9 fuel v12 v13 (v14 + 1))
else (((if (a2 * a3) < ((51 * v14) * v14) then (some 0)
else (some 1)) : Option (Int32)).bind fun q18 =>
((if v12 = 0 then (some 0)
else (if q18 = 0 then (some 0)
else (some 1))) : Option (Int32)).bind fun q19 =>
((if v13 = 0 then (if q18 = 0 then (some 0)
else (some 1))
else (some 1)) : Option (Int32)).bind fun q20 =>
lp_X5_avoided_46 a2 a3 c2 S9 fuel q19 q20 (v14 + 1))))
def f_X5_avoided (a1 : Int32) (a2 : Int32) (a3 : Int32) (S : QS) : Option ((String × QS) ⊕ (Int32 × QS)) :=
bx (f_X5_carOf a1 S) fun c2 =>
bx (f_X5_testNumber a2 0 2000 S) fun _ =>
bx (f_X5_testNumber a3 0 150 S) fun _ =>
(f_X5_reckon 0 (-1) S).bind fun S9 =>
bx (f_X5_testWay S9) fun _ =>
(lp_X5_avoided_46 a2 a3 c2 S9 FU 1 0 (-50)).bind fun q15 =>
if q15.1 = 0 then (if q15.2 = 0 then (some (.inr (0, S9)))
else (some (.inr (1, S9))))
else (some (.inr (2, S9)))
def f_X5_can (a1 : Int32) (a2 : Int32) (a3 : Int32) (S : QS) : Option ((String × QS) ⊕ (Int32 × QS)) :=
bx (f_X5_speedOf a1 a2 S) fun c2 =>
(f_X5_reckon 0 (-1) S).bind fun S5 =>
(f_X3_isSeen c2 a3 S5).bind fun v7 =>
(zb v7).bind fun v8 =>
some (.inr (v8, S5))
def f_L_mass (a2 : Int32) (a3 : Int32) (S : QS) : Option (Int32 × QS) :=
bh (f_X5_mass a2 a3 S) (fun E S9 => if E = "java/lang/IndexOutOfBoundsException" then (some (1, S9))
else (if E = "java/lang/IllegalArgumentException" then (some (2, S9))
else (none))) fun S2 =>
some (0, S2)
def f_L_skid (a2 : Int32) (a3 : Int32) (a4 : Int32) (a5 : Int32) (a6 : Int32) (a7 : Int32) (S : QS) : Option (Int32 × QS) :=
bh (f_X5_skid a2 a3 a4 a5 a6 a7 S) (fun E S9 => if E = "java/lang/IndexOutOfBoundsException" then (some (1, S9))
else (if E = "java/lang/IllegalArgumentException" then (some (2, S9))
else (if E = "java/lang/UnsupportedOperationException" then (some (3, S9))
else (none)))) fun q2 =>
(stL 67 q2.1.toInt64 q2.2).bind fun S4 =>
some (0, S4)
def f_L_drop (a2 : Int32) (a3 : Int32) (S : QS) : Option (Int32 × QS) :=
bh (f_X5_drop a2 a3 S) (fun E S9 => if E = "java/lang/IndexOutOfBoundsException" then (some (1, S9))
else (none)) fun q2 =>
((if q2.1 = 0 then (some 0)
else (some 1)) : Option (Int64)).bind fun q4 =>
(stL 67 q4 q2.2).bind fun S5 =>
some (0, S5)
def f_L_sure (a2 : Int32) (a3 : Int32) (a4 : Int32) (a5 : Int32) (S : QS) : Option (Int32 × QS) :=
bh (f_X5_sure a2 a3 a4 a5 S) (fun E S9 => if E = "java/lang/IndexOutOfBoundsException" then (some (1, S9))
else (if E = "java/lang/IllegalArgumentException" then (some (2, S9))
else (none))) fun S2 =>
some (0, S2)
def f_L_tale (a2 : Int32) (a3 : Int32) (a4 : Int32) (a5 : Int32) (S : QS) : Option (Int32 × QS) :=
bh (f_X5_tale a2 a3 a4 a5 S) (fun E S9 => if E = "java/lang/IndexOutOfBoundsException" then (some (1, S9))
else (if E = "java/lang/IllegalArgumentException" then (some (2, S9))
else (if E = "java/lang/UnsupportedOperationException" then (some (3, S9))
else (none)))) fun q2 =>
(stL 67 q2.1.toInt64 q2.2).bind fun S4 =>
some (0, S4)
def f_L_span (a2 : Int32) (a3 : Int32) (a4 : Int32) (a5 : Int32) (S : QS) : Option (Int32 × QS) :=
bh (f_X5_span a2 a3 a4 a5 S) (fun E S9 => if E = "java/lang/IndexOutOfBoundsException" then (some (1, S9))
else (if E = "java/util/NoSuchElementException" then (some (2, S9))
else (none))) fun q2 =>
(stL 67 q2.1.toInt64 q2.2).bind fun S4 =>
some (0, S4)
def f_L_avoided (a2 : Int32) (a3 : Int32) (a4 : Int32) (S : QS) : Option (Int32 × QS) :=
bh (f_X5_avoided a2 a3 a4 S) (fun E S9 => if E = "java/lang/IndexOutOfBoundsException" then (some (1, S9))
else (if E = "java/lang/IllegalArgumentException" then (some (2, S9))
else (if E = "java/util/NoSuchElementException" then (some (3, S9))
else (none)))) fun q2 =>
(stL 67 q2.1.toInt64 q2.2).bind fun S4 =>
some (0, S4)
def f_L_look (a2 : Int32) (a3 : Int32) (S : QS) : Option (Int32 × QS) :=
bh (f_X5_look a2 a3 S) (fun E S9 => if E = "java/lang/IndexOutOfBoundsException" then (some (1, S9))
else (if E = "java/util/NoSuchElementException" then (some (2, S9))
else (none))) fun v2 =>
(stL 67 v2.toInt64 S).bind fun S4 =>
some (0, S4)
def f_L_can (a2 : Int32) (a3 : Int32) (a4 : Int32) (S : QS) : Option (Int32 × QS) :=
bh (f_X5_can a2 a3 a4 S) (fun E S9 => if E = "java/lang/IndexOutOfBoundsException" then (some (1, S9))
else (none)) fun q2 =>
((if q2.1 = 0 then (some 0)
else (some 1)) : Option (Int64)).bind fun q4 =>
(stL 67 q4 q2.2).bind fun S5 =>
some (0, S5)
def rdX (L : Nat) (xs : Nat → Int32) (i : Int32) : Option Int32 := if ¬ (i < 0 ∨ L ≤ i.toNatClampNeg) then some (xs i.toNatClampNeg) else none
theorem q_rdX {L : Nat} {xs : Nat → Int32} {i x : Int32} (h : rdX L xs i = some x) : vp_in i L ∧ x = xs i.toNatClampNeg := by
  unfold rdX at h
  by_cases c : ¬ (i < 0 ∨ L ≤ i.toNatClampNeg)
  · rw [if_pos c] at h
    exact ⟨c, (Option.some.inj h).symm⟩
  · rw [if_neg c] at h
    cases h

def st_law_0 (L : Nat) (xs : Nat → Int32) (vi : Int32) (S : QS) : Option QS :=
(rdX L xs (vi + 1)).bind fun v1 =>
(rdX L xs (vi + 2)).bind fun v3 =>
(f_L_mass v1 v3 S).bind fun q6 =>
(rdX L xs (vi + 1)).bind fun v7 =>
(rdX L xs (vi + 2)).bind fun v9 =>
(f_X6_mass v7 v9 q6.2).bind fun S12 =>
(f_X6_thrown S12).bind fun v14 =>
if v14 = q6.1 then (some S12)
else (none)
def st_law_1 (L : Nat) (xs : Nat → Int32) (vi : Int32) (S : QS) : Option QS :=
(rdX L xs (vi + 1)).bind fun v1 =>
(rdX L xs (vi + 2)).bind fun v3 =>
((if v3 = 0 then (some 0)
else (some 1)) : Option (Int32)).bind fun q5 =>
(rdX L xs (vi + 3)).bind fun v6 =>
(rdX L xs (vi + 4)).bind fun v8 =>
(rdX L xs (vi + 5)).bind fun v10 =>
(rdX L xs (vi + 6)).bind fun v12 =>
(f_L_skid v1 q5 v6 v8 v10 v12 S).bind fun q15 =>
(rdX L xs (vi + 1)).bind fun v16 =>
(rdX L xs (vi + 2)).bind fun v18 =>
((if v18 = 0 then (some 0)
else (some 1)) : Option (Int32)).bind fun q20 =>
(rdX L xs (vi + 3)).bind fun v21 =>
(rdX L xs (vi + 4)).bind fun v23 =>
(rdX L xs (vi + 5)).bind fun v25 =>
(rdX L xs (vi + 6)).bind fun v27 =>
(f_X6_skid v16 q20 v21 v23 v25 v27 q15.2).bind fun q30 =>
(f_X6_thrown q30.2).bind fun v32 =>
if v32 = q15.1 then (if q15.1 = 0 then (if (lg_cmp (q30.2.2 67) q30.1.toInt64) = 0 then (some q30.2)
else (none))
else (some q30.2))
else (none)
def st_law_2 (L : Nat) (xs : Nat → Int32) (vi : Int32) (S : QS) : Option QS :=
(rdX L xs (vi + 1)).bind fun v1 =>
(rdX L xs (vi + 2)).bind fun v3 =>
((if v3 = 0 then (some 0)
else (some 1)) : Option (Int32)).bind fun q5 =>
(f_L_drop v1 q5 S).bind fun q7 =>
(rdX L xs (vi + 1)).bind fun v8 =>
(rdX L xs (vi + 2)).bind fun v10 =>
((if v10 = 0 then (some 0)
else (some 1)) : Option (Int32)).bind fun q12 =>
(f_X6_drop v8 q12 q7.2).bind fun q14 =>
(f_X6_thrown q14.2).bind fun v16 =>
if v16 = q7.1 then (if q7.1 = 0 then (((if q14.1 = 0 then (some 0)
else (some 1)) : Option (Int64)).bind fun q17 =>
if (lg_cmp (q14.2.2 67) q17) = 0 then (some q14.2)
else (none))
else (some q14.2))
else (none)
def st_law_3 (L : Nat) (xs : Nat → Int32) (vi : Int32) (S : QS) : Option QS :=
(rdX L xs (vi + 1)).bind fun v1 =>
(rdX L xs (vi + 2)).bind fun v3 =>
(rdX L xs (vi + 3)).bind fun v5 =>
(rdX L xs (vi + 4)).bind fun v7 =>
(f_L_sure v1 v3 v5 v7 S).bind fun q10 =>
(rdX L xs (vi + 1)).bind fun v11 =>
(rdX L xs (vi + 2)).bind fun v13 =>
(rdX L xs (vi + 3)).bind fun v15 =>
(rdX L xs (vi + 4)).bind fun v17 =>
(f_X6_sure v11 v13 v15 v17 q10.2).bind fun S20 =>
(f_X6_thrown S20).bind fun v22 =>
if v22 = q10.1 then (some S20)
else (none)
def st_law_4 (L : Nat) (xs : Nat → Int32) (vi : Int32) (S : QS) : Option QS :=
(rdX L xs (vi + 1)).bind fun v1 =>
(rdX L xs (vi + 2)).bind fun v3 =>
(rdX L xs (vi + 3)).bind fun v5 =>
(rdX L xs (vi + 4)).bind fun v7 =>
(f_L_tale v1 v3 v5 v7 S).bind fun q10 =>
(rdX L xs (vi + 1)).bind fun v11 =>
(rdX L xs (vi + 2)).bind fun v13 =>
(rdX L xs (vi + 3)).bind fun v15 =>
(rdX L xs (vi + 4)).bind fun v17 =>
(f_X6_tale v11 v13 v15 v17 q10.2).bind fun q20 =>
(f_X6_thrown q20.2).bind fun v22 =>
if v22 = q10.1 then (if q10.1 = 0 then (if (lg_cmp (q20.2.2 67) q20.1.toInt64) = 0 then (some q20.2)
else (none))
else (some q20.2))
else (none)
def st_law_5 (L : Nat) (xs : Nat → Int32) (vi : Int32) (S : QS) : Option QS :=
(f_X5_hush S).bind fun q2 =>
(f_X6_hush q2.2).bind fun q4 =>
if q2.1 = q4.1 then (some q4.2)
else (none)
def st_law_6 (L : Nat) (xs : Nat → Int32) (vi : Int32) (S : QS) : Option QS :=
(f_X5_ways S).bind fun q2 =>
(f_X6_ways q2.2).bind fun q4 =>
if (lg_cmp q2.1 q4.1) = 0 then (some q4.2)
else (none)
def st_law_7 (L : Nat) (xs : Nat → Int32) (vi : Int32) (S : QS) : Option QS :=
(rdX L xs (vi + 1)).bind fun v1 =>
(rdX L xs (vi + 2)).bind fun v3 =>
(rdX L xs (vi + 3)).bind fun v5 =>
((if v5 = 0 then (some 0)
else (some 1)) : Option (Int32)).bind fun q7 =>
(rdX L xs (vi + 4)).bind fun v8 =>
((if v8 = 0 then (some 0)
else (some 1)) : Option (Int32)).bind fun q10 =>
(f_L_span v1 v3 q7 q10 S).bind fun q12 =>
(rdX L xs (vi + 1)).bind fun v13 =>
(rdX L xs (vi + 2)).bind fun v15 =>
(rdX L xs (vi + 3)).bind fun v17 =>
((if v17 = 0 then (some 0)
else (some 1)) : Option (Int32)).bind fun q19 =>
(rdX L xs (vi + 4)).bind fun v20 =>
((if v20 = 0 then (some 0)
else (some 1)) : Option (Int32)).bind fun q22 =>
(f_X6_span v13 v15 q19 q22 q12.2).bind fun q24 =>
(f_X6_thrown q24.2).bind fun v26 =>
if v26 = q12.1 then (if q12.1 = 0 then (if (lg_cmp (q24.2.2 67) q24.1.toInt64) = 0 then (some q24.2)
else (none))
else (some q24.2))
else (none)
def st_law_8 (L : Nat) (xs : Nat → Int32) (vi : Int32) (S : QS) : Option QS :=
(rdX L xs (vi + 1)).bind fun v1 =>
(f_X5_fit v1 S).bind fun q4 =>
(rdX L xs (vi + 1)).bind fun v5 =>
(f_X6_fit v5 q4.2).bind fun q8 =>
if q4.1 = q8.1 then (some q8.2)
else (none)
def st_law_9 (L : Nat) (xs : Nat → Int32) (vi : Int32) (S : QS) : Option QS :=
(f_X5_wrong S).bind fun q2 =>
(f_X6_wrong q2.2).bind fun q4 =>
if q2.1 = q4.1 then (some q4.2)
else (none)
def st_law_10 (L : Nat) (xs : Nat → Int32) (vi : Int32) (S : QS) : Option QS :=
(f_X5_which S).bind fun q2 =>
(f_X6_which q2.2).bind fun q4 =>
if q2.1 = q4.1 then (some q4.2)
else (none)
def st_law_11 (L : Nat) (xs : Nat → Int32) (vi : Int32) (S : QS) : Option QS :=
(f_X5_odds S).bind fun q2 =>
(f_X6_odds q2.2).bind fun q4 =>
if q2.1 = q4.1 then (some q4.2)
else (none)
def st_law_12 (L : Nat) (xs : Nat → Int32) (vi : Int32) (S : QS) : Option QS :=
(rdX L xs (vi + 1)).bind fun v1 =>
(rdX L xs (vi + 2)).bind fun v3 =>
(rdX L xs (vi + 3)).bind fun v5 =>
(f_L_avoided v1 v3 v5 S).bind fun q8 =>
(rdX L xs (vi + 1)).bind fun v9 =>
(rdX L xs (vi + 2)).bind fun v11 =>
(rdX L xs (vi + 3)).bind fun v13 =>
(f_X6_avoided v9 v11 v13 q8.2).bind fun q16 =>
(f_X6_thrown q16.2).bind fun v18 =>
if v18 = q8.1 then (if q8.1 = 0 then (if (lg_cmp (q16.2.2 67) q16.1.toInt64) = 0 then (some q16.2)
else (none))
else (some q16.2))
else (none)
def st_law_13 (L : Nat) (xs : Nat → Int32) (vi : Int32) (S : QS) : Option QS :=
(rdX L xs (vi + 1)).bind fun v1 =>
(rdX L xs (vi + 2)).bind fun v3 =>
(f_L_look v1 v3 S).bind fun q6 =>
(rdX L xs (vi + 1)).bind fun v7 =>
(rdX L xs (vi + 2)).bind fun v9 =>
(f_X6_look v7 v9 q6.2).bind fun q12 =>
(f_X6_thrown q12.2).bind fun v14 =>
if v14 = q6.1 then (if q6.1 = 0 then (if (lg_cmp (q12.2.2 67) q12.1.toInt64) = 0 then (some q12.2)
else (none))
else (some q12.2))
else (none)
def st_law_14 (L : Nat) (xs : Nat → Int32) (vi : Int32) (S : QS) : Option QS :=
(rdX L xs (vi + 1)).bind fun v1 =>
(rdX L xs (vi + 2)).bind fun v3 =>
(rdX L xs (vi + 3)).bind fun v5 =>
(f_L_can v1 v3 v5 S).bind fun q8 =>
(rdX L xs (vi + 1)).bind fun v9 =>
(rdX L xs (vi + 2)).bind fun v11 =>
(rdX L xs (vi + 3)).bind fun v13 =>
(f_X6_can v9 v11 v13 q8.2).bind fun q16 =>
(f_X6_thrown q16.2).bind fun v18 =>
if v18 = q8.1 then (if q8.1 = 0 then (((if q16.1 = 0 then (some 0)
else (some 1)) : Option (Int64)).bind fun q19 =>
if (lg_cmp (q16.2.2 67) q19) = 0 then (some q16.2)
else (none))
else (some q16.2))
else (none)
def st_law_15 (L : Nat) (xs : Nat → Int32) (vi : Int32) (S : QS) : Option QS :=
(rdX L xs (vi + 1)).bind fun v1 =>
(f_X5_count v1 S).bind fun v4 =>
(rdX L xs (vi + 1)).bind fun v5 =>
(f_X6_count v5 S).bind fun q8 =>
if v4 = q8.1 then (some q8.2)
else (none)
def st_law (L : Nat) (xs : Nat → Int32) (x vi : Int32) (S : QS) : Option QS :=
if x = 0 then st_law_0 L xs vi S else if x = 1 then st_law_1 L xs vi S else if x = 2 then st_law_2 L xs vi S else if x = 3 then st_law_3 L xs vi S else if x = 4 then st_law_4 L xs vi S else if x = 5 then st_law_5 L xs vi S else if x = 6 then st_law_6 L xs vi S else if x = 7 then st_law_7 L xs vi S else if x = 8 then st_law_8 L xs vi S else if x = 9 then st_law_9 L xs vi S else if x = 10 then st_law_10 L xs vi S else if x = 11 then st_law_11 L xs vi S else if x = 12 then st_law_12 L xs vi S else if x = 13 then st_law_13 L xs vi S else if x = 14 then st_law_14 L xs vi S else if x = 15 then st_law_15 L xs vi S else some S

def lp_law (L : Nat) (xs : Nat → Int32) : Nat → Int32 → QS → Option Unit
  | 0, _, _ => none
  | fuel + 1, vi, S => if Int32.ofNat L - 7 < vi then some () else (rdX L xs vi).bind fun v => (st_law L xs (v &&& 15) vi S).bind fun S1 => lp_law L xs fuel (vi + 7) S1
def S0 : QS := (fun k => if k = 0 then (upd (fun _ => 0) 7 (-1)) else if k = 25 then (upd (upd (upd (fun _ => 0) 3 (-1)) 4 1) 5 1) else if k = 26 then (upd (fun _ => 0) 0 10) else if k = 27 then (upd (upd (upd (upd (fun _ => 0) 0 (-50)) 1 50) 2 (-50)) 3 50) else if k = 30 then (upd (upd (upd (upd (fun _ => 0) 0 (-50)) 1 50) 2 (-50)) 3 50) else if k = 33 then (upd (upd (upd (upd (fun _ => 0) 0 (-50)) 1 50) 2 (-50)) 3 50) else if k = 37 then (upd (fun _ => 0) 0 10) else if k = 38 then (upd (upd (upd (upd (fun _ => 0) 0 (-50)) 1 50) 2 (-50)) 3 50) else if k = 41 then (upd (upd (upd (upd (fun _ => 0) 0 (-50)) 1 50) 2 (-50)) 3 50) else if k = 44 then (upd (upd (upd (upd (fun _ => 0) 0 (-50)) 1 50) 2 (-50)) 3 50) else if k = 49 then (upd (upd (fun _ => 0) 0 10) 1 10) else if k = 55 then (upd (upd (upd (upd (upd (upd (fun _ => 0) 0 (-50)) 1 (-50)) 2 (-50)) 3 (-50)) 4 (-50)) 5 (-50)) else if k = 56 then (upd (upd (upd (upd (upd (upd (fun _ => 0) 0 50) 1 50) 2 50) 3 50) 4 50) 5 50) else fun _ => 0, fun _ => 0)
