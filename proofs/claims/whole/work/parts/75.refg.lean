/-! prices and masks are the same thing -/
/-- how many bits -/
def pc (m : Nat) : Nat := fb_sm (fun t => if m.testBit t then 1 else 0) 10
theorem r_bits {m : Nat} (h : m < 1024) : f_J6_bitCount_0f7a4 (nI m) = some (nI (pc m)) := (show ∀ m : Nat, m < 1024 → f_J6_bitCount_0f7a4 (nI m) = some (nI (pc m)) by decide +kernel) m h
theorem pc_le (m : Nat) : pc m ≤ 10 := by
  have h := fb_sm_bound (f := fun t => if m.testBit t then 1 else 0) (c := 1) (n := 10) (fun k _ => by split <;> omega)
  unfold pc
  omega
def pr (p : Nat → Bool) (n : Nat) : Nat := fb_sm (fun t => if p t then 1024 + 2 ^ t else 0) n
theorem pr_or {p q : Nat → Bool} (h : ∀ t, ¬ (p t = true ∧ q t = true)) : ∀ n, pr p n + pr q n = pr (fun t => p t || q t) n
  | 0 => rfl
  | n + 1 => by
    have ih := pr_or h n
    have e1 : pr p (n + 1) = pr p n + (if p n then 1024 + 2 ^ n else 0) := fb_sm_succ _ _
    have e2 : pr q (n + 1) = pr q n + (if q n then 1024 + 2 ^ n else 0) := fb_sm_succ _ _
    have e3 : pr (fun t => p t || q t) (n + 1) = pr (fun t => p t || q t) n + (if (p n || q n) then 1024 + 2 ^ n else 0) := fb_sm_succ _ _
    have hn := h n
    rw [e1, e2, e3, ← ih]
    cases hp : p n <;> cases hq : q n <;> simp_all <;> omega
theorem bN_or (p q : Nat → Bool) (n : Nat) : bN p n ||| bN q n = bN (fun t => p t || q t) n := by
  apply Nat.eq_of_testBit_eq
  intro t
  rw [Nat.testBit_or, bN_bit, bN_bit, bN_bit]
  cases decide (t < n) <;> rfl
theorem pr_bN (p : Nat → Bool) {n : Nat} (hn : n ≤ 10) : pr p n = 1024 * pc (bN p n) + bN p n := by
  have e : pc (bN p n) = fb_sm (fun t => if p t then 1 else 0) n := by
    unfold pc
    have h1 : fb_sm (fun t => if (bN p n).testBit t then 1 else 0) 10 = fb_sm (fun t => if (bN p n).testBit t then 1 else 0) (n + (10 - n)) := by rw [show n + (10 - n) = 10 by omega]
    rw [h1, fb_sm_split, fb_sm_0 (f := fun k => if (bN p n).testBit (n + k) then 1 else 0) (fun k _ => by
      rw [bN_bit, decide_eq_false (by omega), Bool.false_and]
      rfl), Nat.add_zero]
    exact fb_sm_cong (fun t ht => by rw [bN_bit, decide_eq_true ht, Bool.true_and])
  rw [e]
  have key : ∀ n, pr p n = 1024 * fb_sm (fun t => if p t then 1 else 0) n + bN p n := by
    intro n
    induction n with
    | zero => rfl
    | succ n ih =>
      have e1 : pr p (n + 1) = pr p n + (if p n then 1024 + 2 ^ n else 0) := fb_sm_succ _ _
      rw [e1, bN_s, fb_sm_succ, ih]
      cases p n <;> simp <;> omega
  exact key n
theorem tB_row {V : Vw} {r : Nat} {v : Int} {t : Nat} (h : tB V r v t = true) : tRow V t = r := by
  unfold tB at h
  simp only [Bool.and_eq_true, decide_eq_true_eq] at h
  exact h.1
/-- the six speeds together -/
theorem sum6 {V : Vw} (hV : VOk V) (f a g b p q : Int) : pq V 4 b + pq V 3 g + pq V 5 q + (pq V 1 a + pq V 0 f) + pq V 2 p = 1024 * pc (((fl V 0 f ||| fl V 1 a) ||| (fl V 3 g ||| fl V 4 b)) ||| (fl V 2 p ||| fl V 5 q)) + (((fl V 0 f ||| fl V 1 a) ||| (fl V 3 g ||| fl V 4 b)) ||| (fl V 2 p ||| fl V 5 q)) := by
  have e : ∀ r v, pq V r v = pr (tB V r v) (vNt V) := fun _ _ => rfl
  have h01 := pr_or (p := tB V 0 f) (q := tB V 1 a) (fun t ⟨x, y⟩ => by have := tB_row x; have := tB_row y; omega) (vNt V)
  have h34 := pr_or (p := tB V 3 g) (q := tB V 4 b) (fun t ⟨x, y⟩ => by have := tB_row x; have := tB_row y; omega) (vNt V)
  have h25 := pr_or (p := tB V 2 p) (q := tB V 5 q) (fun t ⟨x, y⟩ => by have := tB_row x; have := tB_row y; omega) (vNt V)
  have r01 : ∀ t, (tB V 0 f t || tB V 1 a t) = true → tRow V t = 0 ∨ tRow V t = 1 := fun t h => by
    rcases Bool.or_eq_true _ _ ▸ h with x | x
    · exact Or.inl (tB_row x)
    · exact Or.inr (tB_row x)
  have r34 : ∀ t, (tB V 3 g t || tB V 4 b t) = true → tRow V t = 3 ∨ tRow V t = 4 := fun t h => by
    rcases Bool.or_eq_true _ _ ▸ h with x | x
    · exact Or.inl (tB_row x)
    · exact Or.inr (tB_row x)
  have r25 : ∀ t, (tB V 2 p t || tB V 5 q t) = true → tRow V t = 2 ∨ tRow V t = 5 := fun t h => by
    rcases Bool.or_eq_true _ _ ▸ h with x | x
    · exact Or.inl (tB_row x)
    · exact Or.inr (tB_row x)
  have h4 := pr_or (p := fun t => tB V 0 f t || tB V 1 a t) (q := fun t => tB V 3 g t || tB V 4 b t) (fun t ⟨x, y⟩ => by have := r01 t x; have := r34 t y; omega) (vNt V)
  have h6 := pr_or (p := fun t => (tB V 0 f t || tB V 1 a t) || (tB V 3 g t || tB V 4 b t)) (q := fun t => tB V 2 p t || tB V 5 q t) (fun t ⟨x, y⟩ => by
    have hy := r25 t y
    rcases Bool.or_eq_true _ _ ▸ x with z | z
    · have := r01 t z; omega
    · have := r34 t z; omega) (vNt V)
  have em : ((fl V 0 f ||| fl V 1 a) ||| (fl V 3 g ||| fl V 4 b)) ||| (fl V 2 p ||| fl V 5 q) = bN (fun t => ((tB V 0 f t || tB V 1 a t) || (tB V 3 g t || tB V 4 b t)) || (tB V 2 p t || tB V 5 q t)) (vNt V) := by
    unfold fl
    rw [bN_or, bN_or, bN_or, bN_or, bN_or]
  rw [em, ← pr_bN _ hV.2.2.2.2.1, ← h6, ← h4, ← h01, ← h34, ← h25]
  rw [e, e, e, e, e, e]
  omega
/-- the masks of all ways -/
def WM (V : Vw) (m : Nat) : Prop := ∃ a b p, TW V 0 (-1) a b p ∧ KM V a b p m
theorem MD_lt2 {V : Vw} {c : Nat} {v : Int} {m : Nat} (h : MD V c v m) : m < 2 ^ vNt V := by
  obtain ⟨-, f, -, -, rfl⟩ := h
  exact Nat.or_lt_two_pow (fl_lt2 V _ _) (fl_lt2 V _ _)
theorem WM_lt {V : Vw} {m : Nat} (h : WM V m) : m < 2 ^ vNt V := by
  obtain ⟨a, b, p, -, x, y, hx, hy, rfl⟩ := h
  exact Nat.or_lt_two_pow (Nat.or_lt_two_pow (MD_lt2 hx) (MD_lt2 hy)) (Nat.or_lt_two_pow (fl_lt2 V _ _) (fl_lt2 V _ _))
theorem PW_WM {V : Vw} (hV : VOk V) (x : Nat) : PW V 0 (-1) x ↔ ∃ m, WM V m ∧ x = 1024 * pc m + m := by
  constructor
  · rintro ⟨a, b, p, hT, y, z, ⟨hl1, y1, ⟨g, g1, g2, g3, rfl⟩, rfl⟩, ⟨hl0, z1, ⟨f, f1, f2, f3, rfl⟩, rfl⟩, rfl⟩
    exact ⟨_, ⟨a, b, p, hT, _, _, ⟨hl0, f, ⟨f1, f2⟩, f3, rfl⟩, ⟨hl1, g, ⟨g1, g2⟩, g3, rfl⟩, rfl⟩, sum6 hV f a g b p (qv V a b p)⟩
  · rintro ⟨m, ⟨a, b, p, hT, x, y, ⟨hl0, f, f1, f3, rfl⟩, ⟨hl1, g, g1, g3, rfl⟩, rfl⟩, rfl⟩
    exact ⟨a, b, p, hT, _, _, ⟨hl1, _, ⟨g, g1.1, g1.2, g3, rfl⟩, rfl⟩, ⟨hl0, _, ⟨f, f1.1, f1.2, f3, rfl⟩, rfl⟩, (sum6 hV f a g b p (qv V a b p)).symm⟩
/-- the best of the first n masks: of the fewest bits, then the least -/
def Best (P : Nat → Prop) (n : Nat) (v : Int32) : Prop := (v = -1 ∧ ∀ m, m < n → ¬ P m) ∨ ∃ m, m < n ∧ v = nI m ∧ P m ∧ ∀ k, k < n → P k → pc m < pc k ∨ (pc m = pc k ∧ m ≤ k)
theorem ways_WM {V : Vw} (h : nW V 0 (-1) = 0) (m : Nat) : ¬ WM V m := by
  rintro ⟨a, b, p, ⟨ha, hb, hp, hw, hn⟩, -⟩
  have h1 : 0 < nW V 0 (-1) := sm_pos.mpr ⟨a, ha.1, ha.2, sm_pos.mpr ⟨b, hb.1, hb.2, sm_pos.mpr ⟨p, hp.1, hp.2, by rw [hw, if_pos rfl]; exact hn⟩⟩⟩
  omega
theorem pos_nle (z : Nat) (h1 : 0 < z) (h2 : z ≤ 1024) : ¬ nI z ≤ 0 := by
  rw [iv_nI, c_0]
  exact n_le (by omega)
theorem r_fewest {V : Vw} (hV : VOk V) {S : QS} (hM : MR V S) (h18 : S.1 48 18 = 0) :
    ∃ v S1, f_X6_fewest S = some (v, S1) ∧ Best (WM V) (2 ^ vNt V) v ∧ (∀ k, k < 48 → S1.1 k = S.1 k) ∧ (∀ k, k < 48 → S1.2 k = S.2 k) ∧ MR V S1 ∧ S1.1 48 18 = 0 ∧ S1.1 48 0 = S.1 48 0 ∧ S1.2 67 = S.2 67 := by
  have hp := pow_le10 hV
  have hn := hV.2.2.2.2.1
  obtain ⟨s0, e0, f0, z0⟩ : ∃ s0, lp_X6_fewest_2 FU 0 S = some s0 ∧ Fr [63] S s0 ∧ ∀ m, m < 1024 → s0.1 63 m = 0 := by
    have main := loopN (fun fuel v s => lp_X6_fewest_2 fuel v s) id (fun n s => Fr [63] S s ∧ ∀ m, m < n → s.1 63 m = 0) 1024 (by decide)
      (fun fuel s hI => by
        show lp_X6_fewest_2 (fuel + 1) (iv ((1024 : Nat) : Int)) s = some s
        rw [lp_X6_fewest_2, if_pos (by decide)])
      (fun fuel n s hlt hI => by
        obtain ⟨i1, i2⟩ := hI
        refine ⟨setF 63 n 0 s, ?_, i1.tr (Fr.set (by decide)), fun m hm => ?_⟩
        · show lp_X6_fewest_2 (fuel + 1) (iv (n : Int)) s = lp_X6_fewest_2 fuel (iv ((n + 1 : Nat) : Int)) _
          rw [lp_X6_fewest_2, if_neg (by rw [c_1024]; exact n_le (by omega)), wz_iv (by omega) (Or.inl rfl), ob, Int.toNat_natCast, iv_one]
          rfl
        · by_cases c : m = n
          · subst c
            exact st_eq _ _ _ _
          · rw [st_nej c]
            exact i2 m (by omega))
      S ⟨Fr.rf, fun _ h => absurd h (Nat.not_lt_zero _)⟩
    obtain ⟨S1, e, i1, i2⟩ := main
    exact ⟨S1, by rw [c_0]; exact e, i1, i2⟩
  have hM0 := hM.fr f0 (by decide)
  obtain ⟨s1, e1, f1, k1⟩ := r_makes hV hM0
  have hM1 := hM0.fr f1 (by decide)
  obtain ⟨s2, hs2⟩ : ∃ s2, s2 = setF 48 18 1 s1 := ⟨_, rfl⟩
  have k2 : ∀ k, k ≠ 48 → s2.1 k = s1.1 k := fun k hk => by rw [hs2, st_nek hk]
  have hM2 : MR V s2 := hM1.kp (fun k h1 h2 => k2 k (by omega)) (by rw [hs2, st_nej (by decide)]) (by rw [hs2, st_nej (by decide)])
  obtain ⟨s3, e3, f3, l3, -, g3⟩ := r_goes (set := 0) (w := -1) (wd := true) hV (by omega) hM2 (by rw [hs2, st_eq]; rfl) (fun _ => ⟨k1.fr (k2 65 (by decide)) (k2 66 (by decide)), fun m hm => by rw [k2 63 (by decide), f1.1 63 (by decide)]; exact z0 m hm⟩)
  obtain ⟨s4, hs4⟩ : ∃ s4, s4 = setF 48 18 0 s3 := ⟨_, rfl⟩
  have k4 : ∀ k, k ≠ 48 → s4.1 k = s3.1 k := fun k hk => by rw [hs4, st_nek hk]
  have hM3 : MR V s3 := hM2.kp (fun k h1 h2 => f3.1 k (by simp; omega)) (by rw [f3.1 48 (by decide)]) (by rw [f3.1 48 (by decide)])
  have hM4 : MR V s4 := hM3.kp (fun k h1 h2 => k4 k (by omega)) (by rw [hs4, st_nej (by decide)]) (by rw [hs4, st_nej (by decide)])
  have flag : ∀ m, m < 1024 → Flag (s4.1 63 m) (WM V m) := fun m hm => by
    rw [k4 63 (by decide)]
    exact g3 rfl m hm
  obtain ⟨v, e5, b5⟩ : ∃ v, lp_X6_fewest_47 (b2 (decide (0 < nW V 0 (-1))), s3) s4 FU (-1) 0 = some (v, s4) ∧ Best (WM V) (2 ^ vNt V) v := by
    by_cases hw : 0 < nW V 0 (-1)
    · rw [decide_eq_true hw]
      have main := loopN (fun fuel t v => lp_X6_fewest_47 (b2 true, s3) s4 fuel v t) (fun v => (v, s4)) (fun n v => Best (WM V) n v) (2 ^ vNt V) hp
        (fun fuel v hI => by
          show lp_X6_fewest_47 (b2 true, s3) s4 (fuel + 1) v (iv ((2 ^ vNt V : Nat) : Int)) = some (v, s4)
          rw [lp_X6_fewest_47, hM4.2.2.2.1, shl_iv (by omega), if_pos (by rw [iv_nI]; exact (fa_le _ _).mpr (Int.le_refl _))])
        (fun fuel n v hlt hI => by
          have hI : Best (WM V) n v := hI
          have head : ∀ X, (if s4.1 63 n = 0 then lp_X6_fewest_47 (b2 true, s3) s4 fuel v (iv ((n + 1 : Nat) : Int)) else (if v < 0 then lp_X6_fewest_47 (b2 true, s3) s4 fuel (nI n) (iv ((n + 1 : Nat) : Int)) else ((f_J6_bitCount_0f7a4 (nI n)).bind fun v19 => (f_J6_bitCount_0f7a4 v).bind fun v21 => if v21 ≤ v19 then lp_X6_fewest_47 (b2 true, s3) s4 fuel v (iv ((n + 1 : Nat) : Int)) else lp_X6_fewest_47 (b2 true, s3) s4 fuel (nI n) (iv ((n + 1 : Nat) : Int))))) = X → lp_X6_fewest_47 (b2 true, s3) s4 (fuel + 1) v (iv (n : Int)) = X := by
            rintro X rfl
            rw [lp_X6_fewest_47, hM4.2.2.2.1, shl_iv (by omega), if_neg (by rw [iv_nI]; exact n_le (by omega)), if_neg (show ¬ b2 true = 0 by decide), rd_iv (by omega), ob, Int.toNat_natCast, iv_one, ← iv_nI]
            rfl
          rcases flag n (by omega) with ⟨q1, q2⟩ | ⟨q1, q2⟩
          · rcases hI with ⟨b1, b3⟩ | ⟨m, m1, m2, m3, m4⟩
            · refine ⟨nI n, head _ (by rw [q1, if_neg (by decide), b1, if_pos (by decide)]), Or.inr ⟨n, by omega, rfl, q2, fun k hk hP => ?_⟩⟩
              by_cases ck : k = n
              · subst ck
                exact Or.inr ⟨rfl, Nat.le_refl _⟩
              · exact absurd hP (b3 k (by omega))
            · have c1 := pc_le m
              have c2 := pc_le n
              by_cases cc : pc m ≤ pc n
              · refine ⟨v, head _ (by rw [q1, if_neg (by decide), m2, if_neg (by rw [iv_nI, c_0]; exact n_lt (by omega)), r_bits (by omega), ob, r_bits (by omega), ob, if_pos (by rw [iv_nI, iv_nI]; exact y_le (by omega))]), Or.inr ⟨m, by omega, m2, m3, fun k hk hP => ?_⟩⟩
                by_cases ck : k = n
                · subst ck
                  omega
                · exact m4 k (by omega) hP
              · refine ⟨nI n, head _ (by rw [q1, if_neg (by decide), m2, if_neg (by rw [iv_nI, c_0]; exact n_lt (by omega)), r_bits (by omega), ob, r_bits (by omega), ob, if_neg (by rw [iv_nI, iv_nI]; exact n_le (by omega))]), Or.inr ⟨n, by omega, rfl, q2, fun k hk hP => ?_⟩⟩
                by_cases ck : k = n
                · subst ck
                  exact Or.inr ⟨rfl, Nat.le_refl _⟩
                · have := m4 k (by omega) hP
                  omega
          · refine ⟨v, head _ (by rw [q1, if_pos rfl]), ?_⟩
            rcases hI with ⟨b1, b3⟩ | ⟨m, m1, m2, m3, m4⟩
            · refine Or.inl ⟨b1, fun k hk hP => ?_⟩
              by_cases ck : k = n
              · subst ck
                exact q2 hP
              · exact b3 k (by omega) hP
            · refine Or.inr ⟨m, by omega, m2, m3, fun k hk hP => ?_⟩
              by_cases ck : k = n
              · subst ck
                exact absurd hP q2
              · exact m4 k (by omega) hP)
        (-1) (Or.inl ⟨rfl, fun m hm => absurd hm (Nat.not_lt_zero _)⟩)
      obtain ⟨v, e, b⟩ := main
      exact ⟨v, by rw [c_0]; exact e, b⟩
    · refine ⟨-1, ?_, Or.inl ⟨rfl, fun m _ => ways_WM (by omega) m⟩⟩
      rw [decide_eq_false hw]
      show lp_X6_fewest_47 (b2 false, s3) s4 (1099 + 1) (-1) 0 = _
      rw [lp_X6_fewest_47, hM4.2.2.2.1, shl_iv (by omega), if_neg (pos_nle _ (Nat.two_pow_pos _) hp), if_pos (show b2 false = 0 by decide)]
  have lo : ∀ k, k < 48 → s4.1 k = S.1 k := fun k hk => by
    rw [k4 k (by omega), f3.1 k (by simp; omega), k2 k (by omega), f1.1 k (by simp; omega), f0.1 k (by simp; omega)]
  have ll : ∀ k, k ∉ [48, 60, 61, 62, 63, 64, 65, 66] → s4.2 k = S.2 k := fun k hk => by
    simp only [List.mem_cons, List.not_mem_nil, or_false, not_or] at hk
    rw [hs4, st_2, f3.2 k (by simp; omega), hs2, st_2, f1.2 k (by simp; omega), f0.2 k (by simp; omega)]
  refine ⟨v, s4, ?_, b5, lo, fun k hk => ll k (by simp; omega), hM4, by rw [hs4, st_eq], ?_, ll 67 (by decide)⟩
  · unfold f_X6_fewest
    rw [e0, ob, e1, ob, stZ_ok (Or.inr rfl), ob, ← hs2]
    have e3 : f_X6_goes 0 (-1) s2 = some (b2 (decide (0 < nW V 0 (-1))), s3) := e3
    rw [e3, ob, stZ_ok (Or.inl rfl), ob]
    show lp_X6_fewest_47 (b2 (decide (0 < nW V 0 (-1))), s3) (setF 48 18 0 s3) FU (-1) 0 = _
    rw [← hs4]
    exact e5
  · rw [hs4, st_nej (by decide), f3.1 48 (by decide), hs2, st_nej (by decide), f1.1 48 (by decide), f0.1 48 (by decide)]
