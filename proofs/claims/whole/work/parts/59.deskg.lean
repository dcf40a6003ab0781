/-! longs that count; the masses' shares; one push's meetings -/
theorem lN_le0 {n : Nat} (h : n < 2 ^ 63) : (lg_cmp (lN n) 0 ≤ 0) ↔ n = 0 := by
  rw [lg_cmp_le, show (0 : Int64) = lN 0 from rfl, fa_le64, show (lN n).toInt = (n : Int) from lg_ofNat_toInt h, show (lN 0).toInt = 0 by decide]
  omega
theorem lN_eq0 {n : Nat} (h : n < 2 ^ 63) : (lg_cmp (lN n) 0 = 0) ↔ n = 0 := by
  unfold lg_cmp
  have e0 : (lN 0).toInt = 0 := by decide
  have e1 : (lN n).toInt = (n : Int) := lg_ofNat_toInt h
  rw [show (0 : Int64) = lN 0 from rfl]
  by_cases c : n = 0
  · subst c
    simp
  · have : lN n > lN 0 := by
      show lN 0 < lN n
      rw [fa_lt64, e0, e1]
      omega
    rw [if_pos this]
    simp [c]
theorem s_share {m o : Nat} (hm : 1 ≤ m ∧ m ≤ 100) (ho : 1 ≤ o ∧ o ≤ 100) : f_X1_lowestShare (iv (m : Int)) (iv (o : Int)) = some (iv ((m / Nat.gcd m o : Nat) : Int)) := by
  have hg : 1 ≤ Nat.gcd m o := Nat.gcd_pos_of_pos_left o (by omega)
  have hgm : Nat.gcd m o ∣ m := Nat.gcd_dvd_left m o
  have hgo : Nat.gcd m o ∣ o := Nat.gcd_dvd_right m o
  have hg100 : Nat.gcd m o ≤ 100 := Nat.le_trans (Nat.le_of_dvd (by omega) hgm) hm.2
  have rem : ∀ {x p : Nat}, x ≤ 100 → 1 ≤ p → p ≤ 100 → rmI (iv (x : Int)) (iv (p : Int)) = some (iv ((x % p : Nat) : Int)) := fun {x p} hx hp hp2 => by
    rw [rm_iv, ← Int.ofNat_tdiv]
    have e := Nat.div_add_mod x p
    have e2 : ((x % p : Nat) : Int) = (x : Int) - ((x / p : Nat) : Int) * (p : Int) := by
      have h := congrArg (Nat.cast : Nat → Int) e
      rw [Int.natCast_add, Int.natCast_mul] at h
      rw [Int.mul_comm ((x / p : Nat) : Int)]
      omega
    rw [e2]
  have key : ∀ p fuel : Nat, p < fuel → p ≤ 100 → Nat.gcd m o ≤ p → lp_X1_lowestShare_3 (iv (m : Int)) (iv (o : Int)) fuel (iv (p : Int)) = some (iv ((m / Nat.gcd m o : Nat) : Int)) := by
    intro p
    induction p with
    | zero => intro fuel _ _ h; omega
    | succ p ih =>
      intro fuel hf hp hgp
      obtain ⟨f1, rfl⟩ : ∃ f1, fuel = f1 + 1 := ⟨fuel - 1, by omega⟩
      rw [lp_X1_lowestShare_3]
      by_cases c1 : p = 0
      · subst c1
        have e : Nat.gcd m o = 1 := by omega
        rw [if_pos (by decide), e, Nat.div_one]
      · have u1 := Nat.mod_lt m (Nat.succ_pos p)
        have u2 := Nat.mod_lt o (Nat.succ_pos p)
        rw [if_neg (by rw [c_1]; exact n_le (by omega)), rem hm.2 (by omega) hp, ob]
        have down : Nat.gcd m o ≠ p + 1 → lp_X1_lowestShare_3 (iv (m : Int)) (iv (o : Int)) f1 (iv ((p + 1 : Nat) : Int) + (-1)) = some (iv ((m / Nat.gcd m o : Nat) : Int)) := fun hne => by
          rw [iv_m1, show ((p + 1 : Nat) : Int) - 1 = (p : Int) by omega]
          exact ih f1 (by omega) (by omega) (by omega)
        by_cases c2 : m % (p + 1) = 0
        · rw [c2, if_pos (by decide), rem ho.2 (by omega) hp, ob]
          by_cases c3 : o % (p + 1) = 0
          · have hd : p + 1 ∣ Nat.gcd m o := Nat.dvd_gcd (Nat.dvd_of_mod_eq_zero c2) (Nat.dvd_of_mod_eq_zero c3)
            have e : Nat.gcd m o = p + 1 := by
              have := Nat.le_of_dvd (by omega) hd
              omega
            rw [c3, if_pos (by decide), dv_iv, ob, ← Int.ofNat_tdiv, e]
          · generalize hz : o % (p + 1) = z9 at c3 u2 ⊢
            rw [if_neg (by rw [c_0]; exact n_eq (by omega))]
            exact down (fun z => c3 (hz ▸ Nat.mod_eq_zero_of_dvd (z ▸ hgo)))
        · generalize hz : m % (p + 1) = z9 at c2 u1 ⊢
          rw [if_neg (by rw [c_0]; exact n_eq (by omega))]
          exact down (fun z => c2 (hz ▸ Nat.mod_eq_zero_of_dvd (z ▸ hgm)))
  unfold f_X1_lowestShare
  rw [c_100]
  exact key 100 FU (by decide) (by decide) hg100
