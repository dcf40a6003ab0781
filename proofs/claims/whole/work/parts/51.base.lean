/-! LEVEL 2, the numbers: an int as the whole number that it stands for -/
def iv (x : Int) : Int32 := Int32.ofInt x
theorem iv_to {x : Int} (h : -2147483648 ≤ x ∧ x < 2147483648 := by omega) : (iv x).toInt = x := fb_ofI h.1 h.2
theorem iv_of (x : Int32) : iv x.toInt = x := Int32.ofInt_toInt x
theorem iv_add (a b : Int) : iv a + iv b = iv (a + b) := (Int32.ofInt_add a b).symm
theorem iv_sub (a b : Int) : iv a - iv b = iv (a - b) := (Int32.ofInt_sub a b).symm
theorem iv_mul (a b : Int) : iv a * iv b = iv (a * b) := (Int32.ofInt_mul a b).symm
theorem iv_neg (a : Int) : -iv a = iv (-a) := (Int32.ofInt_neg a).symm
theorem iv_nI (n : Nat) : nI n = iv (n : Int) := (Int32.ofInt_eq_ofNat).symm
theorem iv_inj {a b : Int} (ha : -2147483648 ≤ a ∧ a < 2147483648 := by omega) (hb : -2147483648 ≤ b ∧ b < 2147483648 := by omega) : iv a = iv b ↔ a = b := by
  rw [fa_eq, iv_to ha, iv_to hb]
theorem iv_lt {a b : Int} (ha : -2147483648 ≤ a ∧ a < 2147483648 := by omega) (hb : -2147483648 ≤ b ∧ b < 2147483648 := by omega) : iv a < iv b ↔ a < b := by
  rw [fa_lt, iv_to ha, iv_to hb]
theorem iv_le {a b : Int} (ha : -2147483648 ≤ a ∧ a < 2147483648 := by omega) (hb : -2147483648 ≤ b ∧ b < 2147483648 := by omega) : iv a ≤ iv b ↔ a ≤ b := by
  rw [fa_le, iv_to ha, iv_to hb]
theorem iv_div {a b : Int} (ha : -2147483648 ≤ a ∧ a < 2147483648 := by omega) (hb : 0 < b ∧ b < 2147483648 := by omega) : iv a / iv b = iv (a.tdiv b) := by
  have m1 : Int32.minValue.toInt = -2147483648 := by decide
  have m2 : Int32.maxValue.toInt = 2147483647 := by decide
  exact (Int32.ofInt_tdiv (by omega) (by omega) (by omega) (by omega)).symm
theorem iv_nat {x : Int} (h : -2147483648 ≤ x ∧ x < 2147483648 := by omega) : (iv x).toNatClampNeg = x.toNat := Int32.toNatClampNeg_ofInt_of_le (by omega) (by omega)
theorem iv_long {x : Int} (h : 0 ≤ x ∧ x < 2147483648 := by omega) : (iv x).toInt64 = lN x.toNat := by
  have e : iv x = nI x.toNat := by rw [iv_nI, Int.toNat_of_nonneg h.1]
  rw [e]
  exact nI_l (by omega)
theorem c_m51 : (-51 : Int32) = iv (-51) := by decide
theorem c_m50 : (-50 : Int32) = iv (-50) := by decide
theorem c_m1 : (-1 : Int32) = iv (-1) := by decide
theorem c_0 : (0 : Int32) = iv 0 := by decide
theorem c_1 : (1 : Int32) = iv 1 := by decide
theorem c_2 : (2 : Int32) = iv 2 := by decide
theorem c_3 : (3 : Int32) = iv 3 := by decide
theorem c_5 : (5 : Int32) = iv 5 := by decide
theorem c_6 : (6 : Int32) = iv 6 := by decide
theorem c_10 : (10 : Int32) = iv 10 := by decide
theorem c_12 : (12 : Int32) = iv 12 := by decide
theorem c_50 : (50 : Int32) = iv 50 := by decide
theorem c_51 : (51 : Int32) = iv 51 := by decide
theorem c_100 : (100 : Int32) = iv 100 := by decide
theorem c_101 : (101 : Int32) = iv 101 := by decide
theorem c_150 : (150 : Int32) = iv 150 := by decide
theorem c_1024 : (1024 : Int32) = iv 1024 := by decide
theorem c_2000 : (2000 : Int32) = iv 2000 := by decide
theorem iv_one (x : Int) : iv x + 1 = iv (x + 1) := by rw [c_1, iv_add]
theorem iv_m1 (x : Int) : iv x + (-1) = iv (x - 1) := by rw [c_m1, iv_add]; rfl
/-- ifs over ints that stand for numbers -/
theorem y_lt {a b : Int} (h : a < b) (ha : -2147483648 ≤ a ∧ a < 2147483648 := by omega) (hb : -2147483648 ≤ b ∧ b < 2147483648 := by omega) : iv a < iv b := (iv_lt ha hb).mpr h
theorem n_lt {a b : Int} (h : b ≤ a) (ha : -2147483648 ≤ a ∧ a < 2147483648 := by omega) (hb : -2147483648 ≤ b ∧ b < 2147483648 := by omega) : ¬ iv a < iv b := fun z => by
  have := (iv_lt ha hb).mp z
  omega
theorem y_le {a b : Int} (h : a ≤ b) (ha : -2147483648 ≤ a ∧ a < 2147483648 := by omega) (hb : -2147483648 ≤ b ∧ b < 2147483648 := by omega) : iv a ≤ iv b := (iv_le ha hb).mpr h
theorem n_le {a b : Int} (h : b < a) (ha : -2147483648 ≤ a ∧ a < 2147483648 := by omega) (hb : -2147483648 ≤ b ∧ b < 2147483648 := by omega) : ¬ iv a ≤ iv b := fun z => by
  have := (iv_le ha hb).mp z
  omega
theorem n_eq {a b : Int} (h : a ≠ b) (ha : -2147483648 ≤ a ∧ a < 2147483648 := by omega) (hb : -2147483648 ≤ b ∧ b < 2147483648 := by omega) : ¬ iv a = iv b := fun z => h ((iv_inj ha hb).mp z)
/-! the state's places -/
theorem st_1 (k j : Nat) (x : Int32) (S : QS) (k1 j1 : Nat) : (setF k j x S).1 k1 j1 = if k1 = k ∧ j1 = j then x else S.1 k1 j1 := by
  show va_up S.1 k (upd (S.1 k) j x) k1 j1 = _
  unfold va_up upd
  by_cases h : k1 = k
  · subst h
    simp
  · simp [h]
theorem st_eq (k j : Nat) (x : Int32) (S : QS) : (setF k j x S).1 k j = x := by rw [st_1, if_pos ⟨rfl, rfl⟩]
theorem st_nek {k j : Nat} {x : Int32} {S : QS} {k1 : Nat} (h : k1 ≠ k) : (setF k j x S).1 k1 = S.1 k1 := by
  show va_up S.1 k (upd (S.1 k) j x) k1 = _
  exact va_up_ne _ _ h
theorem st_nej {k j : Nat} {x : Int32} {S : QS} {k1 j1 : Nat} (h : j1 ≠ j) : (setF k j x S).1 k1 j1 = S.1 k1 j1 := by rw [st_1, if_neg (fun z => h z.2)]
theorem st_2 (k j : Nat) (x : Int32) (S : QS) : (setF k j x S).2 = S.2 := rfl
theorem sl_1 (k : Nat) (x : Int64) (S : QS) : (setL k x S).1 = S.1 := rfl
theorem sl_eq (k : Nat) (x : Int64) (S : QS) : (setL k x S).2 k = x := va_up_self _ _ _
theorem sl_ne {k : Nat} {x : Int64} {S : QS} {k1 : Nat} (h : k1 ≠ k) : (setL k x S).2 k1 = S.2 k1 := va_up_ne _ _ h
theorem rd_iv {k n : Nat} {x : Int} {S : QS} (h : 0 ≤ x ∧ x < n) (hn : n < 2147483648 := by decide) : rdA k n (iv x) S = some (S.1 k x.toNat) := by
  unfold rdA
  rw [iv_nat, if_pos]
  intro z
  rcases z with z | z
  · rw [c_0, iv_lt] at z
    omega
  · omega
theorem wr_iv {k n : Nat} {x : Int} {y : Int32} {S : QS} (h : 0 ≤ x ∧ x < n) (hn : n < 2147483648 := by decide) : wrA k n (iv x) y S = some (setF k x.toNat y S) := by
  unfold wrA
  rw [iv_nat, if_pos]
  intro z
  rcases z with z | z
  · rw [c_0, iv_lt] at z
    omega
  · omega
theorem wz_iv {k n : Nat} {x : Int} {y : Int32} {S : QS} (h : 0 ≤ x ∧ x < n) (hy : y = 0 ∨ y = 1) (hn : n < 2147483648 := by decide) : wrZ k n (iv x) y S = some (setF k x.toNat y S) := by
  unfold wrZ
  rw [iv_nat, if_pos]
  refine ⟨?_, hy⟩
  intro z
  rcases z with z | z
  · rw [c_0, iv_lt] at z
    omega
  · omega
theorem rq_iv {b n : Nat} {x : Nat} (h : x < n) (hn : n < 2147483648 := by decide) : rdQ b n (iv x) = some (b + x) := by
  unfold rdQ
  rw [iv_nat, if_pos, Int.toNat_natCast]
  intro z
  rcases z with z | z
  · rw [c_0, iv_lt] at z
    omega
  · rw [Int.toNat_natCast] at z
    omega
theorem stZ_ok {k j : Nat} {x : Int32} {S : QS} (h : x = 0 ∨ x = 1) : stZ k j x S = some (setF k j x S) := by
  unfold stZ
  rw [if_pos h]
theorem zb_ok {x : Int32} (h : x = 0 ∨ x = 1) : zb x = some x := by
  unfold zb
  rw [if_pos h]
theorem dv_iv {a b : Int} (ha : -2147483648 ≤ a ∧ a < 2147483648 := by omega) (hb : 0 < b ∧ b < 2147483648 := by omega) : dvI (iv a) (iv b) = some (iv (a.tdiv b)) := by
  unfold dvI
  rw [if_pos (by rw [c_0]; exact n_eq (by omega)), iv_div ha hb]
theorem rm_iv {a b : Int} (ha : -2147483648 ≤ a ∧ a < 2147483648 := by omega) (hb : 0 < b ∧ b < 2147483648 := by omega) : rmI (iv a) (iv b) = some (iv (a - a.tdiv b * b)) := by
  unfold rmI
  rw [if_pos (by rw [c_0]; exact n_eq (by omega)), iv_div ha hb, iv_mul, iv_sub]
/-- what may have changed: the places of P alone -/
def Fr (P : List Nat) (S S1 : QS) : Prop := (∀ k, k ∉ P → S1.1 k = S.1 k) ∧ ∀ k, k ∉ P → S1.2 k = S.2 k
theorem Fr.rf {P : List Nat} {S : QS} : Fr P S S := ⟨fun _ _ => rfl, fun _ _ => rfl⟩
theorem Fr.tr {P : List Nat} {S S1 S2 : QS} (h : Fr P S S1) (h2 : Fr P S1 S2) : Fr P S S2 := ⟨fun k hk => (h2.1 k hk).trans (h.1 k hk), fun k hk => (h2.2 k hk).trans (h.2 k hk)⟩
theorem Fr.mono {P Q : List Nat} {S S1 : QS} (h : Fr P S S1) (hq : ∀ k, k ∈ P → k ∈ Q) : Fr Q S S1 := ⟨fun k hk => h.1 k (fun z => hk (hq k z)), fun k hk => h.2 k (fun z => hk (hq k z))⟩
theorem Fr.set {P : List Nat} {S : QS} {k j : Nat} {x : Int32} (h : k ∈ P) : Fr P S (setF k j x S) := ⟨fun _ hk => st_nek (fun z => hk (z ▸ h)), fun _ _ => rfl⟩
theorem Fr.setL {P : List Nat} {S : QS} {k : Nat} {x : Int64} (h : k ∈ P) : Fr P S (setL k x S) := ⟨fun _ _ => rfl, fun _ hk => sl_ne (fun z => hk (z ▸ h))⟩
/-! loops that count up -/
theorem up_loop {σ ρ : Type} (lp : Nat → Int32 → σ → Option ρ) (I : Int → σ → Prop) (lo hi : Int)
    (step : ∀ (fuel : Nat) (v : Int) (s : σ), lo ≤ v → v ≤ hi → I v s → ∃ s1, lp (fuel + 1) (iv v) s = lp fuel (iv (v + 1)) s1 ∧ I (v + 1) s1) :
    ∀ (n fuel : Nat) (v : Int) (s : σ), lo ≤ v → v + n = hi + 1 → n < fuel → I v s → ∃ s1 f1, lp fuel (iv v) s = lp (f1 + 1) (iv (hi + 1)) s1 ∧ I (hi + 1) s1 := by
  intro n
  induction n with
  | zero =>
    intro fuel v s h1 h2 h3 h4
    obtain ⟨f1, rfl⟩ : ∃ f1, fuel = f1 + 1 := ⟨fuel - 1, by omega⟩
    have e : v = hi + 1 := by omega
    subst e
    exact ⟨s, f1, rfl, h4⟩
  | succ n ih =>
    intro fuel v s h1 h2 h3 h4
    obtain ⟨f1, rfl⟩ : ∃ f1, fuel = f1 + 1 := ⟨fuel - 1, by omega⟩
    obtain ⟨s1, e1, i1⟩ := step f1 v s h1 (by omega) h4
    obtain ⟨s2, f2, e2, i2⟩ := ih f1 (v + 1) s1 (by omega) (by omega) (by omega) i1
    exact ⟨s2, f2, by rw [e1, e2], i2⟩
/-- a loop over -50 .. 50 that ends with its state -/
theorem loop50 {σ ρ : Type} (lp : Nat → Int32 → σ → Option ρ) (out : σ → ρ) (I : Int → σ → Prop)
    (hend : ∀ (fuel : Nat) (s : σ), lp (fuel + 1) (iv 51) s = some (out s))
    (step : ∀ (fuel : Nat) (v : Int) (s : σ), -50 ≤ v → v ≤ 50 → I v s → ∃ s1, lp (fuel + 1) (iv v) s = lp fuel (iv (v + 1)) s1 ∧ I (v + 1) s1)
    (s : σ) (h : I (-50) s) : ∃ s1, lp FU (iv (-50)) s = some (out s1) ∧ I 51 s1 := by
  obtain ⟨s1, f1, e1, i1⟩ := up_loop lp I (-50) 50 step 101 FU (-50) s (by omega) (by omega) (by decide) h
  exact ⟨s1, by rw [e1]; exact hend f1 s1, i1⟩
/-- a loop over 0 .. n - 1 that ends with its state -/
theorem loopN {σ ρ : Type} (lp : Nat → Int32 → σ → Option ρ) (out : σ → ρ) (I : Nat → σ → Prop) (n : Nat) (hn : n ≤ 1024)
    (hend : ∀ (fuel : Nat) (s : σ), I n s → lp (fuel + 1) (iv n) s = some (out s))
    (step : ∀ (fuel : Nat) (v : Nat) (s : σ), v < n → I v s → ∃ s1, lp (fuel + 1) (iv v) s = lp fuel (iv ((v + 1 : Nat) : Int)) s1 ∧ I (v + 1) s1)
    (s : σ) (h : I 0 s) : ∃ s1, lp FU (iv 0) s = some (out s1) ∧ I n s1 := by
  have key : ∀ (d fuel v : Nat) (s : σ), v + d = n → d < fuel → I v s → ∃ s1, lp fuel (iv v) s = some (out s1) ∧ I n s1 := by
    intro d
    induction d with
    | zero =>
      intro fuel v s h1 h2 h3
      obtain ⟨f1, rfl⟩ : ∃ f1, fuel = f1 + 1 := ⟨fuel - 1, by omega⟩
      have e : v = n := by omega
      subst e
      exact ⟨s, hend f1 s h3, h3⟩
    | succ d ih =>
      intro fuel v s h1 h2 h3
      obtain ⟨f1, rfl⟩ : ∃ f1, fuel = f1 + 1 := ⟨fuel - 1, by omega⟩
      obtain ⟨s1, e1, i1⟩ := step f1 v s (by omega) h3
      obtain ⟨s2, e2, i2⟩ := ih f1 (v + 1) s1 (by omega) (by omega) i1
      exact ⟨s2, by rw [e1, e2], i2⟩
  exact key n FU 0 s (by omega) (by show n < 1100; omega) h
/-- the place of a number of a speed in its row -/
def ix (v : Int) : Nat := (v + 50).toNat
theorem ix_lt {v : Int} (h : -50 ≤ v ∧ v ≤ 50) : ix v < 101 := by unfold ix; omega
theorem ix_ne {v w : Int} (hv : -50 ≤ v) (hw : -50 ≤ w) (h : v ≠ w) : ix v ≠ ix w := by unfold ix; omega
theorem sub50 (v : Int) : iv v - (-50) = iv (v + 50) := by rw [c_m50, iv_sub]; rfl
theorem rd50 {k : Nat} {v : Int} {S : QS} (h : -50 ≤ v ∧ v ≤ 50) : rdA k 101 (iv v - (-50)) S = some (S.1 k (ix v)) := by rw [sub50, rd_iv (by omega)]; rfl
theorem wr50 {k : Nat} {v : Int} {y : Int32} {S : QS} (h : -50 ≤ v ∧ v ≤ 50) : wrA k 101 (iv v - (-50)) y S = some (setF k (ix v) y S) := by rw [sub50, wr_iv (by omega)]; rfl
theorem wz50 {k : Nat} {v : Int} {y : Int32} {S : QS} (h : -50 ≤ v ∧ v ≤ 50) (hy : y = 0 ∨ y = 1) : wrZ k 101 (iv v - (-50)) y S = some (setF k (ix v) y S) := by rw [sub50, wz_iv (by omega) hy]; rfl
theorem hi50 {v : Int} (h : v ≤ 50) (h2 : -1000000 ≤ v := by omega) : ¬ (50 : Int32) < iv v := by rw [c_50]; exact n_lt h
theorem lo50 {v : Int} (h : -50 ≤ v) (h2 : v ≤ 1000000 := by omega) : ¬ iv v < (-50 : Int32) := by rw [c_m50]; exact n_lt h
theorem le50 {v : Int} (h : v ≤ 50) (h2 : -1000000 ≤ v := by omega) : iv v ≤ (50 : Int32) := by rw [c_50]; exact y_le h
theorem gt50 : (50 : Int32) < iv 51 := by decide
/-! the desk's small methods, within bounds -/
theorem s_setPrice {k : Nat} {v : Int} {y : Int32} {S : QS} (h : -50 ≤ v ∧ v ≤ 50) : f_X3_setPrice k (iv v) y S = some (setF (k + 1) (ix v) y S) := by
  unfold f_X3_setPrice
  rw [if_neg (lo50 h.1), if_neg (hi50 h.2), wr50 h]
  rfl
theorem s_priceOf {k : Nat} {v : Int} {S : QS} (h : -50 ≤ v ∧ v ≤ 50) : f_X3_priceOf k (iv v) S = some (S.1 (k + 1) (ix v)) := by
  unfold f_X3_priceOf
  rw [if_neg (lo50 h.1), if_pos (le50 h.2), rd50 h]
  rfl
theorem s_isOpen {k : Nat} {v : Int} {S : QS} (h : -50 ≤ v ∧ v ≤ 50) : f_X3_isOpen k (iv v) S = some (if S.1 (k + 1) (ix v) = -1 then 0 else 1) := by
  unfold f_X3_isOpen
  rw [s_priceOf h]
  show (if S.1 (k + 1) (ix v) = (-1) then some 0 else some 1) = _
  by_cases c : S.1 (k + 1) (ix v) = -1
  · rw [if_pos c, if_pos c]
  · rw [if_neg c, if_neg c]
theorem s_see {k : Nat} {v : Int} {S : QS} (h : -50 ≤ v ∧ v ≤ 50) : f_X3_see k (iv v) S = some (setF (k + 2) (ix v) 1 S) := by
  unfold f_X3_see
  rw [if_neg (lo50 h.1), if_neg (hi50 h.2), wz50 h (Or.inr rfl)]
  rfl
theorem s_isSeen {k : Nat} {v : Int} {S : QS} (h : -50 ≤ v ∧ v ≤ 50) : f_X3_isSeen k (iv v) S = some (if S.1 (k + 2) (ix v) = 0 then 0 else 1) := by
  unfold f_X3_isSeen
  rw [if_neg (lo50 h.1), if_neg (hi50 h.2), rd50 h]
  show (if S.1 (k + 2) (ix v) = 0 then some 0 else some 1) = _
  by_cases c : S.1 (k + 2) (ix v) = 0
  · rw [if_pos c, if_pos c]
  · rw [if_neg c, if_neg c]
theorem s_firstCount {k : Nat} {v : Int} {S : QS} (h : -50 ≤ v ∧ v ≤ 50) : f_X0_firstCount k (iv v) S = some (S.1 (k + 10) (ix v)) := by
  unfold f_X0_firstCount
  rw [if_neg (lo50 h.1), if_pos (le50 h.2), rd50 h]
  rfl
theorem s_cheaper (a b : Int32) : f_X5_cheaper a b = some (if a = -1 then b else if a ≤ b then a else b) := by
  unfold f_X5_cheaper
  by_cases c : a = -1
  · rw [if_pos c, if_pos c]
  · rw [if_neg c, if_neg c]
    by_cases d : a ≤ b
    · rw [if_pos d, if_pos d]
    · rw [if_neg d, if_neg d]
theorem s_firstFor {p v : Int} (h : -1000 ≤ v ∧ v ≤ 1000) : f_X0_firstFor (iv p) (iv v) = some (iv (if 0 ≤ v then p else -p)) := by
  unfold f_X0_firstFor
  rw [c_0]
  by_cases c : 0 ≤ v
  · rw [if_pos (y_le c), if_pos c]
  · rw [if_neg (n_le (by omega)), if_neg c, iv_neg]
