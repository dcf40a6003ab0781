/-! BOTH SIDES: what is told -/
def upM (V : Vw) (c : Nat) (n : Int) : Vw := (fun d => if d = c then n else V.1 d, V.2)
def upS (V : Vw) (r : Nat) (lo hi : Int) : Vw := (V.1, fun x => if x = r then lo else V.2.1 x, fun x => if x = r then hi else V.2.2.1 x, V.2.2.2)
def upK (V : Vw) (k : Nat × Bool × Int × Int × Bool) : Vw := (V.1, V.2.1, V.2.2.1, V.2.2.2.1 + 1, fun s => if s = V.2.2.2.1 then k else V.2.2.2.2.1 s, V.2.2.2.2.2)
def upD (V : Vw) (x : Nat) (on : Bool) : Vw := (V.1, V.2.1, V.2.2.1, V.2.2.2.1, fun s => if s = x then (kCar V x, kBeh V x, kLo V x, kHi V x, on) else V.2.2.2.2.1 s, V.2.2.2.2.2)
def upT (V : Vw) (k : Nat × Int × Int) : Vw := (V.1, V.2.1, V.2.2.1, V.2.2.2.1, V.2.2.2.2.1, V.2.2.2.2.2.1 + 1, fun t => if t = V.2.2.2.2.2.1 then k else V.2.2.2.2.2.2 t)
def upH (V : Vw) : Vw := (V.1, V.2.1, V.2.2.1, V.2.2.2.1, V.2.2.2.2.1, 0, V.2.2.2.2.2.2)
/-- how a call answers on both sides: the same code, and the invariant -/
def Same (S : QS) (l : Option (Int32 × QS)) (m : QS → Option QS) : Prop := ∃ k S1 S2, l = some (k, S1) ∧ m S1 = some S2 ∧ S2.1 48 0 = k ∧ Inv S2
theorem same_thr {V : Vw} {S : QS} (h : IV V S) (k : Int32) {l : Option (Int32 × QS)} {m : QS → Option QS} (hl : l = some (k, S)) (hm : m S = some (setF 48 0 k (setF 48 0 0 S))) : Same S l m :=
  ⟨k, S, _, hl, hm, st_eq _ _ _ _, V, (h.thr 0).thr k⟩
theorem b_mass {V : Vw} {S : QS} (h : IV V S) (a n : Int32) : Same S (f_L_mass a n S) (f_X6_mass a n) := by
  obtain ⟨hV, hD, hC, hM, h18⟩ := id h
  cases hc : okC a with
  | false =>
    refine same_thr h 1 ?_ ?_
    · unfold f_L_mass f_X5_mass
      rw [d_carOf_no hc, bxl, bhl]
      rfl
    · unfold f_X6_mass
      rw [stF_ok, ob, m_noCar, ob, hc, thr_n, if_neg b2t]
  | true =>
    obtain ⟨c, hc2, rfl⟩ := ok_car hc
    cases hn : okB 1 100 n with
    | false =>
      refine same_thr h 2 ?_ ?_
      · unfold f_L_mass f_X5_mass
        rw [d_carOf hc2, bxr, d_num1, hn, if_neg (by decide), bxl, bhl, if_neg s_IA, if_pos rfl]
      · unfold f_X6_mass
        rw [stF_ok, ob, m_noCar, ob, hc, thr_y, if_pos b2f]
        show ((f_X6_in n 1 100).bind _) = _
        rw [m_in1, ob, hn, b2_not, ob, thr_n, if_neg b2t]
    | true =>
      have hb := okB_iff.mp hn
      obtain ⟨S1, hS1⟩ : ∃ S1, S1 = setF 0 5 0 (setF (26 + 11 * c) 0 n S) := ⟨_, rfl⟩
      obtain ⟨S2, hS2⟩ : ∃ S2, S2 = setF 49 c n (setF 48 0 0 S1) := ⟨_, rfl⟩
      have en : n = iv n.toInt := (iv_of n).symm
      have hV2 : VOk (upM V c n.toInt) := ⟨fun d hd => by
        show 1 ≤ (if d = c then n.toInt else vM V d) ∧ (if d = c then n.toInt else vM V d) ≤ 100
        split
        · exact hb
        · exact hV.1 d hd, hV.2⟩
      have lo : ∀ k, k ≠ 0 → k ≠ 26 → k ≠ 37 → S1.1 k = S.1 k := fun k h1 h2 h3 => by rw [hS1, st_nek h1, st_nek (by omega)]
      have l0 : ∀ j, j ≠ 5 → S1.1 0 j = S.1 0 j := fun j hj => by rw [hS1, st_nej hj, st_nek (by omega)]
      have hD2 : DR (upM V c n.toInt) S1 := by
        obtain ⟨q1, q2, q3, q4, q5, q6⟩ := hD
        refine ⟨⟨?_, ?_⟩, fun r hr => ?_, by rw [l0 2 (by decide)]; exact q3, by rw [l0 3 (by decide)]; exact q4, fun s hs => ?_, fun t ht => ?_⟩
        · show S1.1 26 0 = iv (if 0 = c then n.toInt else vM V 0)
          rw [hS1, st_nek (by decide)]
          by_cases c0 : 0 = c
          · subst c0
            rw [if_pos rfl, ← en]
            exact st_eq _ _ _ _
          · rw [if_neg c0, st_nek (by omega)]
            exact q1.1
        · show S1.1 37 0 = iv (if 1 = c then n.toInt else vM V 1)
          rw [hS1, st_nek (by decide)]
          by_cases c0 : 1 = c
          · subst c0
            rw [if_pos rfl, ← en]
            exact st_eq _ _ _ _
          · rw [if_neg c0, st_nek (by omega)]
            exact q1.2
        · have := kp_cases hr
          rw [lo (kp r) (by omega) (by omega) (by omega)]
          exact q2 r hr
        · have h12 : vNs V ≤ 12 := hV.2.2.1
          have hs : s < vNs V := hs
          rw [lo (2 + s) (by omega) (by omega) (by omega)]
          exact q5 s hs
        · have h10 : vNt V ≤ 10 := hV.2.2.2.2.1
          have ht : t < vNt V := ht
          rw [lo (15 + t) (by omega) (by omega) (by omega)]
          exact q6 t ht
      have hM1 : MR V S1 := hM.up (fun k hk => lo k (by omega) (by omega) (by omega))
      have hM2 : MR (upM V c n.toInt) S2 := by
        obtain ⟨q1, q2⟩ := hM1
        have e : ∀ k, k ≠ 49 → k ≠ 48 → S2.1 k = S1.1 k := fun k h1 h2 => by rw [hS2, st_nek h1, st_nek h2]
        have e8 : ∀ j, j ≠ 0 → S2.1 48 j = S1.1 48 j := fun j hj => by rw [hS2, st_nek (by decide), st_nej hj]
        refine ⟨⟨?_, ?_⟩, ?_⟩
        · show S2.1 49 0 = iv (if 0 = c then n.toInt else vM V 0)
          rw [hS2]
          by_cases c0 : 0 = c
          · subst c0
            rw [if_pos rfl, ← en]
            exact st_eq _ _ _ _
          · rw [if_neg c0, st_nej c0, st_nek (by decide)]
            exact q1.1
        · show S2.1 49 1 = iv (if 1 = c then n.toInt else vM V 1)
          rw [hS2]
          by_cases c0 : 1 = c
          · subst c0
            rw [if_pos rfl, ← en]
            exact st_eq _ _ _ _
          · rw [if_neg c0, st_nej c0, st_nek (by decide)]
            exact q1.2
        · rw [e 55 (by decide) (by decide), e 56 (by decide) (by decide), e8 7 (by decide), e8 13 (by decide), e 50 (by decide) (by decide), e 51 (by decide) (by decide), e 52 (by decide) (by decide), e 53 (by decide) (by decide), e 54 (by decide) (by decide), e 57 (by decide) (by decide), e 58 (by decide) (by decide), e 59 (by decide) (by decide)]
          exact q2
      refine ⟨0, S1, S2, ?_, ?_, by rw [hS2, st_nek (by decide), st_eq], upM V c n.toInt, IV.tell hV2 hD2 (by rw [hS1, st_eq]) (fun k hk => by rw [hS2, st_nek (by omega), st_nek (by omega)]) hM2 (by rw [hS2, st_nek (by decide), st_nej (by decide), lo 48 (by decide) (by decide) (by decide)]; exact h18)⟩
      · unfold f_L_mass f_X5_mass
        rw [d_carOf hc2, bxr, d_num1, hn, if_pos rfl, bxr, stF_ok, ob, stZ_ok (Or.inl rfl), ob, bhr, ← hS1]
      · unfold f_X6_mass
        rw [stF_ok, ob, m_noCar, ob, hc, thr_y, if_pos b2f]
        show ((f_X6_in n 1 100).bind _) = _
        rw [m_in1, ob, hn, b2_not, ob, thr_y, if_pos b2f]
        show (wrA 49 2 (iv (c : Int)) n (setF 48 0 0 S1)).bind _ = _
        rw [wr_iv (by omega), ob, Int.toNat_natCast, hS2]
/-- an answer too: the same number where nothing is thrown -/
def SameL (S : QS) (l : Option (Int32 × QS)) (m : QS → Option (Int32 × QS)) : Prop := ∃ k S1 y S2, l = some (k, S1) ∧ m S1 = some (y, S2) ∧ S2.1 48 0 = k ∧ (k = 0 → S2.2 67 = y.toInt64) ∧ Inv S2
theorem sameL_thr {V : Vw} {S : QS} (h : IV V S) (k : Int32) (hk : k ≠ 0) {l : Option (Int32 × QS)} {m : QS → Option (Int32 × QS)} (hl : l = some (k, S)) {y : Int32} (hm : m S = some (y, setF 48 0 k (setF 48 0 0 S))) : SameL S l m :=
  ⟨k, S, y, _, hl, hm, st_eq _ _ _ _, fun z => absurd z hk, V, (h.thr 0).thr k⟩
theorem iv_mulb {a b : Int32} {x y : Int} (ha : 0 ≤ a.toInt ∧ a.toInt ≤ x) (hb : 0 ≤ b.toInt ∧ b.toInt ≤ y) (hx : x ≤ 2000) (hy : y ≤ 150) : a * b = iv (a.toInt * b.toInt) ∧ 0 ≤ a.toInt * b.toInt ∧ a.toInt * b.toInt ≤ 300000 := by
  refine ⟨?_, Int.mul_nonneg ha.1 hb.1, ?_⟩
  · rw [← iv_mul, iv_of, iv_of]
  · have h1 : 0 ≤ a.toInt * (150 - b.toInt) := Int.mul_nonneg ha.1 (by omega)
    rw [Int.mul_sub] at h1
    omega
theorem b_skid {V : Vw} {S : QS} (h : IV V S) (a : Int32) (beh : Bool) (lo hi le mo : Int32) : SameL S (f_L_skid a (b2 beh) lo hi le mo S) (f_X6_skid a (b2 beh) lo hi le mo) := by
  obtain ⟨hV, hD, hC, hM, h18⟩ := id h
  have h12 : vNs V ≤ 12 := hV.2.2.1
  have h10 : vNt V ≤ 10 := hV.2.2.2.2.1
  have q : ((if lo < 0 then (some 1) else (if hi < lo then (some 1) else (if 2000 < hi then (some 1) else (if le < 0 then (some 1) else (if mo < le then (some 1) else (if mo ≤ 150 then (some 0) else (some 1))))))) : Option Int32) = some (b2 (!(okN 0 2000 lo hi && okN 0 150 le mo))) := by
    have z2000 : (2000 : Int32).toInt = 2000 := by decide
    have z150 : (150 : Int32).toInt = 150 := by decide
    simp only [fa_lt, fa_le, z0, z2000, z150]
    have t1 : ∀ {x : Bool}, x = false → some (1 : Int32) = some (b2 (!x)) := fun e => by rw [e]; rfl
    have f1 : (¬ (0 ≤ lo.toInt ∧ lo.toInt ≤ hi.toInt ∧ hi.toInt ≤ 2000)) → (okN 0 2000 lo hi && okN 0 150 le mo) = false := fun z => by
      rw [show okN 0 2000 lo hi = false from Bool.eq_false_iff.mpr (fun y => z (okN_iff.mp y)), Bool.false_and]
    have f2 : (¬ (0 ≤ le.toInt ∧ le.toInt ≤ mo.toInt ∧ mo.toInt ≤ 150)) → (okN 0 2000 lo hi && okN 0 150 le mo) = false := fun z => by
      rw [show okN 0 150 le mo = false from Bool.eq_false_iff.mpr (fun y => z (okN_iff.mp y)), Bool.and_false]
    by_cases c1 : lo.toInt < 0
    · rw [if_pos c1]; exact t1 (f1 (by omega))
    · rw [if_neg c1]
      by_cases c2 : hi.toInt < lo.toInt
      · rw [if_pos c2]; exact t1 (f1 (by omega))
      · rw [if_neg c2]
        by_cases c3 : 2000 < hi.toInt
        · rw [if_pos c3]; exact t1 (f1 (by omega))
        · rw [if_neg c3]
          by_cases c4 : le.toInt < 0
          · rw [if_pos c4]; exact t1 (f2 (by omega))
          · rw [if_neg c4]
            by_cases c5 : mo.toInt < le.toInt
            · rw [if_pos c5]; exact t1 (f2 (by omega))
            · rw [if_neg c5]
              by_cases c6 : mo.toInt ≤ 150
              · rw [if_pos c6, okN_iff.mpr (by omega), okN_iff.mpr (by omega)]
                rfl
              · rw [if_neg c6]; exact t1 (f2 (by omega))
  cases hc : okC a with
  | false =>
    refine sameL_thr h 1 (by decide) ?_ ?_ (y := 0)
    · unfold f_L_skid f_X5_skid
      rw [d_car, hc, if_neg (by decide), bxl, bhl]
      rfl
    · unfold f_X6_skid
      rw [stF_ok, ob, m_noCar, ob, hc, thr_n, if_neg b2t]
  | true =>
    obtain ⟨c, hc2, rfl⟩ := ok_car hc
    cases hn : (okN 0 2000 lo hi && okN 0 150 le mo) with
    | false =>
      refine sameL_thr h 2 (by decide) ?_ ?_ (y := 0)
      · unfold f_L_skid f_X5_skid
        rw [d_car, hc, if_pos rfl, bxr, d_sp2000]
        cases h1 : okN 0 2000 lo hi with
        | false =>
          rw [if_neg (by decide), bxl, bhl, if_neg s_IA, if_pos rfl]
        | true =>
          rw [h1, Bool.true_and] at hn
          rw [if_pos rfl, bxr, d_sp150, hn, if_neg (by decide), bxl, bhl, if_neg s_IA, if_pos rfl]
      · unfold f_X6_skid
        rw [stF_ok, ob, m_noCar, ob, hc, thr_y, if_pos b2f, q, ob, hn, thr_n, if_neg b2t]
    | true =>
      have hn2 := hn
      rw [Bool.and_eq_true] at hn2
      obtain ⟨n1, n2⟩ := hn2
      have b1 := okN_iff.mp n1
      have b3 := okN_iff.mp n2
      have e7 : (setF 48 0 0 S).1 48 7 = iv (vNs V : Int) := by rw [st_nej (by decide)]; exact hM.2.2.1
      by_cases hf : vNs V = 12
      · refine sameL_thr h 3 (by decide) ?_ ?_ (y := 0)
        · unfold f_L_skid f_X5_skid
          rw [d_car, hc, if_pos rfl, bxr, d_sp2000, n1, if_pos rfl, bxr, d_sp150, n2, if_pos rfl, bxr, hD.2.2.1, hf, if_neg (by decide), bhl, if_neg s_UO1, if_neg s_UO2, if_pos rfl]
        · unfold f_X6_skid
          rw [stF_ok, ob, m_noCar, ob, hc, thr_y, if_pos b2f, q, ob, hn, thr_y, if_pos b2f]
          show (((if (setF 48 0 0 S).1 48 7 = 12 then (some 1) else (some 0)) : Option Int32).bind _) = _
          rw [e7, hf, if_pos (by decide), ob, thr_1, if_neg b2t]
      · obtain ⟨e1, p1, p2⟩ := iv_mulb (a := lo) (b := le) (x := 2000) (y := 150) (by omega) (by omega) (by decide) (by decide)
        obtain ⟨e2, p3, p4⟩ := iv_mulb (a := hi) (b := mo) (x := 2000) (y := 150) (by omega) (by omega) (by decide) (by decide)
        obtain ⟨ns, hns⟩ : ∃ ns, ns = vNs V := ⟨_, rfl⟩
        obtain ⟨V2, hV2e⟩ : ∃ V2, V2 = upK V (c, beh, lo.toInt * le.toInt, hi.toInt * mo.toInt, true) := ⟨_, rfl⟩
        obtain ⟨S1, hS1⟩ : ∃ S1, S1 = setF 0 5 0 (setF 0 2 (iv ((ns + 1 : Nat) : Int)) (setF (2 + ns) 4 1 (setF (2 + ns) 3 (hi * mo) (setF (2 + ns) 2 (lo * le) (setF (2 + ns) 1 (b2 beh) (setF (2 + ns) 0 (iv (c : Int)) S)))))) := ⟨_, rfl⟩
        obtain ⟨T, hT⟩ : ∃ T, T = setL 67 (iv (ns : Int)).toInt64 S1 := ⟨_, rfl⟩
        obtain ⟨S2, hS2⟩ : ∃ S2, S2 = setF 48 7 (iv ((ns + 1 : Nat) : Int)) (setF 53 ns (hi * mo) (setF 52 ns (lo * le) (setF 51 ns (b2 beh) (setF 50 ns (iv (c : Int)) (setF 48 0 0 T))))) := ⟨_, rfl⟩
        have vk : ∀ s, V2.2.2.2.2.1 s = if s = ns then (c, beh, lo.toInt * le.toInt, hi.toInt * mo.toInt, true) else V.2.2.2.2.1 s := fun s => by rw [hV2e, hns]; rfl
        have vn : vNs V2 = ns + 1 := by rw [hV2e, hns]; rfl
        have vt : V2.2.2.2.2.2 = V.2.2.2.2.2 := by rw [hV2e]; rfl
        have v1 : V2.1 = V.1 := by rw [hV2e]; rfl
        have v2 : V2.2.1 = V.2.1 := by rw [hV2e]; rfl
        have v3 : V2.2.2.1 = V.2.2.1 := by rw [hV2e]; rfl
        have kk : ∀ s, s ≠ ns → kCar V2 s = kCar V s ∧ kBeh V2 s = kBeh V s ∧ kLo V2 s = kLo V s ∧ kHi V2 s = kHi V s ∧ kOn V2 s = kOn V s := fun s hs => by
          unfold kCar kBeh kLo kHi kOn
          rw [vk s, if_neg hs]
          exact ⟨rfl, rfl, rfl, rfl, rfl⟩
        have kn : kCar V2 ns = c ∧ kBeh V2 ns = beh ∧ kLo V2 ns = lo.toInt * le.toInt ∧ kHi V2 ns = hi.toInt * mo.toInt ∧ kOn V2 ns = true := by
          unfold kCar kBeh kLo kHi kOn
          rw [vk ns, if_pos rfl]
          exact ⟨rfl, rfl, rfl, rfl, rfl⟩
        have hV2 : VOk V2 := by
          obtain ⟨w1, w2, w3, w4, w5, w6⟩ := hV
          refine ⟨fun d hd => ?_, fun r hr => ?_, by omega, fun s hs => ?_, ?_, fun t ht => ?_⟩
          · unfold vM; rw [v1]; exact w1 d hd
          · unfold vLo vHi; rw [v2, v3]; exact w2 r hr
          · by_cases cs : s = ns
            · subst cs
              obtain ⟨g1, g2, g3, g4, -⟩ := kn
              rw [g1, g3, g4]
              exact ⟨hc2, p1, p2, p3, p4⟩
            · obtain ⟨g1, -, g3, g4, -⟩ := kk s cs
              rw [g1, g3, g4]
              exact w4 s (by omega)
          · unfold vNt; rw [vt]; exact w5
          · unfold vNt at ht
            rw [vt] at ht
            unfold tRow tLo tHi
            rw [vt]
            exact w6 t ht
        have hnt : vNt V2 = vNt V := by unfold vNt; rw [vt]
        have far : ∀ k, k ≠ 0 → k ≠ 2 + ns → S1.1 k = S.1 k := fun k h1 h2 => by rw [hS1, st_nek h1, st_nek h1, st_nek h2, st_nek h2, st_nek h2, st_nek h2, st_nek h2]
        have hD2 : DR V2 S1 := by
          obtain ⟨q1, q2, q3, q4, q5, q6⟩ := hD
          refine ⟨?_, fun r hr => ?_, ?_, ?_, fun s hs => ?_, fun t ht => ?_⟩
          · unfold vM; rw [v1, far 26 (by decide) (by omega), far 37 (by decide) (by omega)]; exact q1
          · have := kp_cases hr
            unfold vLo vHi
            rw [v2, v3, far (kp r) (by omega) (by omega)]
            exact q2 r hr
          · rw [vn, hS1, st_nej (by decide), st_eq]
          · rw [hnt, hS1, st_nej (by decide), st_nej (by decide), st_nek (by omega), st_nek (by omega), st_nek (by omega), st_nek (by omega), st_nek (by omega)]
            exact q4
          · by_cases cs : s = ns
            · subst cs
              obtain ⟨g1, g2, g3, g4, g5⟩ := kn
              rw [g1, g2, g3, g4, g5, hS1, st_nek (by omega), st_nek (by omega), ← e1, ← e2]
              refine ⟨?_, ?_, ?_, ?_, ?_⟩
              · rw [st_nej (by decide), st_nej (by decide), st_nej (by decide), st_nej (by decide), st_eq]
              · rw [st_nej (by decide), st_nej (by decide), st_nej (by decide), st_eq]
              · rw [st_nej (by decide), st_nej (by decide), st_eq]
              · rw [st_nej (by decide), st_eq]
              · exact st_eq _ _ _ _
            · obtain ⟨g1, g2, g3, g4, g5⟩ := kk s cs
              rw [g1, g2, g3, g4, g5, far (2 + s) (by omega) (by omega)]
              exact q5 s (by omega)
          · unfold tRow tLo tHi
            rw [vt, far (15 + t) (by omega) (by omega)]
            exact q6 t (by omega)
        have hM1 : MR V T := hM.up (fun k hk => by rw [hT, sl_1]; exact far k (by omega) (by omega))
        have e7b : ∀ x, (setF 48 0 x T).1 48 7 = iv (ns : Int) := fun x => by rw [st_nej (by decide), hns]; exact hM1.2.2.1
        have hM2 : MR V2 S2 := by
          obtain ⟨q1, q2, q3, q4, q5, q6, q7⟩ := hM1
          have e : ∀ k, k ≠ 48 → k ≠ 50 → k ≠ 51 → k ≠ 52 → k ≠ 53 → S2.1 k = T.1 k := fun k h1 h2 h3 h4 h5 => by rw [hS2, st_nek h1, st_nek h5, st_nek h4, st_nek h3, st_nek h2, st_nek h1]
          refine ⟨?_, fun r hr => ?_, ?_, ?_, fun s hs => ?_, fun s hs1 hs2 => ?_, fun t ht => ?_⟩
          · unfold vM; rw [v1, e 49 (by decide) (by decide) (by decide) (by decide) (by decide)]; exact q1
          · unfold vLo vHi; rw [v2, v3, e 55 (by decide) (by decide) (by decide) (by decide) (by decide), e 56 (by decide) (by decide) (by decide) (by decide) (by decide)]; exact q2 r hr
          · rw [vn, hS2, st_eq]
          · rw [hnt, hS2, st_nej (by decide), st_nek (by decide), st_nek (by decide), st_nek (by decide), st_nek (by decide), st_nej (by decide)]; exact q4
          · by_cases cs : s = ns
            · subst cs
              obtain ⟨g1, g2, g3, g4, g5⟩ := kn
              rw [g1, g2, g3, g4, g5, ← e1, ← e2]
              refine ⟨?_, ?_, ?_, ?_, ?_⟩
              · rw [hS2, st_nek (by decide), st_nek (by decide), st_nek (by decide), st_nek (by decide), st_eq]
              · rw [hS2, st_nek (by decide), st_nek (by decide), st_nek (by decide), st_eq]
              · rw [hS2, st_nek (by decide), st_nek (by decide), st_eq]
              · rw [hS2, st_nek (by decide), st_eq]
              · rw [e 54 (by decide) (by decide) (by decide) (by decide) (by decide)]
                exact q6 s (by omega) (by omega)
            · obtain ⟨g1, g2, g3, g4, g5⟩ := kk s cs
              have q5s := q5 s (by omega)
              rw [g1, g2, g3, g4, g5, e 54 (by decide) (by decide) (by decide) (by decide) (by decide), hS2]
              refine ⟨?_, ?_, ?_, ?_, q5s.2.2.2.2⟩
              · rw [st_nek (by decide), st_nek (by decide), st_nek (by decide), st_nek (by decide), st_nej cs, st_nek (by decide)]; exact q5s.1
              · rw [st_nek (by decide), st_nek (by decide), st_nek (by decide), st_nej cs, st_nek (by decide), st_nek (by decide)]; exact q5s.2.1
              · rw [st_nek (by decide), st_nek (by decide), st_nej cs, st_nek (by decide), st_nek (by decide), st_nek (by decide)]; exact q5s.2.2.1
              · rw [st_nek (by decide), st_nej cs, st_nek (by decide), st_nek (by decide), st_nek (by decide), st_nek (by decide)]; exact q5s.2.2.2.1
          · rw [e 54 (by decide) (by decide) (by decide) (by decide) (by decide)]
            exact q6 s (by omega) hs2
          · unfold tRow tLo tHi
            rw [vt, e 57 (by decide) (by decide) (by decide) (by decide) (by decide), e 58 (by decide) (by decide) (by decide) (by decide) (by decide), e 59 (by decide) (by decide) (by decide) (by decide) (by decide)]
            exact q7 t (by omega)
        refine ⟨0, T, iv (ns : Int), S2, ?_, ?_, ?_, fun _ => ?_, V2, IV.tell (S1 := T) hV2 (hD2.kept hV2 (fun k _ => by rw [hT, sl_1])) (by rw [hT, sl_1, hS1, st_eq]) (fun k hk => ?_) hM2 ?_⟩
        · unfold f_L_skid f_X5_skid
          rw [d_car, hc, if_pos rfl, bxr, d_sp2000, n1, if_pos rfl, bxr, d_sp150, n2, if_pos rfl, bxr, hD.2.2.1, ← hns, c_12, if_pos (y_lt (a := (ns : Int)) (b := 12) (by omega)), rq_iv (by omega), ob, stF_ok, ob, stZ_ok (b2_or _), ob, stF_ok, ob, stF_ok, ob, stZ_ok (Or.inr rfl), ob]
          rw [st_nek (k1 := 0) (by omega), st_nek (k1 := 0) (by omega), st_nek (k1 := 0) (by omega), st_nek (k1 := 0) (by omega), st_nek (k1 := 0) (by omega), hD.2.2.1, ← hns, stF_ok, ob, iv_one, stZ_ok (Or.inl rfl), ob, bhr]
          show (stL 67 ((setF 0 5 0 (setF 0 2 (iv ((ns : Int) + 1)) _)).1 0 2 - 1).toInt64 _).bind _ = _
          rw [st_nej (by decide), st_eq, c_1, iv_sub, show ((ns : Int) + 1 - 1) = (ns : Int) by omega, stL_ok, ob, hT, hS1]
          rfl
        · unfold f_X6_skid
          rw [stF_ok, ob, m_noCar, ob, hc, thr_y, if_pos b2f, q, ob, hn, thr_y, if_pos b2f]
          show (((if (setF 48 0 0 T).1 48 7 = 12 then (some 1) else (some 0)) : Option Int32).bind _) = _
          rw [e7b, c_12, if_neg (n_eq (a := (ns : Int)) (b := 12) (by omega)), ob, thr_0, if_pos b2f]
          show (wrA 50 12 ((setF 48 0 0 T).1 48 7) (iv (c : Int)) (setF 48 0 0 T)).bind _ = _
          rw [e7b, wr_iv (by omega), ob, Int.toNat_natCast, st_nek (k := 50) (k1 := 48) (by decide), e7b, wz_iv (by omega) (b2_or _), ob, Int.toNat_natCast, st_nek (k := 51) (k1 := 48) (by decide), st_nek (k := 50) (k1 := 48) (by decide), e7b, wr_iv (by omega), ob, Int.toNat_natCast, st_nek (k := 52) (k1 := 48) (by decide), st_nek (k := 51) (k1 := 48) (by decide), st_nek (k := 50) (k1 := 48) (by decide), e7b, wr_iv (by omega), ob, Int.toNat_natCast, st_nek (k := 53) (k1 := 48) (by decide), st_nek (k := 52) (k1 := 48) (by decide), st_nek (k := 51) (k1 := 48) (by decide), st_nek (k := 50) (k1 := 48) (by decide), e7b, iv_one, stF_ok, ob, st_eq, c_1, iv_sub, show ((ns : Int) + 1 - 1) = (ns : Int) by omega, hS2]
          rfl
        · rw [hS2, st_nej (by decide), st_nek (by decide), st_nek (by decide), st_nek (by decide), st_nek (by decide), st_eq]
        · rw [hS2, st_2, st_2, st_2, st_2, st_2, st_2, hT]
          exact sl_eq _ _ _
        · rw [hS2, st_nek (by omega), st_nek (by omega), st_nek (by omega), st_nek (by omega), st_nek (by omega), st_nek (by omega)]
        · rw [hS2, st_nej (by decide), st_nek (by decide), st_nek (by decide), st_nek (by decide), st_nek (by decide), st_nej (by decide), hT, sl_1, far 48 (by decide) (by omega)]
          exact h18
