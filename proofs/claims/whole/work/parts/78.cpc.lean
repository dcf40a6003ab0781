/-! BOTH SIDES: a skid dropped, a speed's span, a tale, no tales -/
theorem zL (b : Bool) : ((if b2 b = 0 then (some 0) else (some 1)) : Option Int64) = some (b2 b).toInt64 := by cases b <;> rfl
theorem m_inK {V : Vw} (hV : VOk V) {S : QS} (h7 : S.1 48 7 = iv (vNs V : Int)) (a : Int32) : f_X6_in a 0 (S.1 48 7 - 1) = some (b2 (okK V a)) := by
  have hn := hV.2.2.1
  rw [h7, c_1, iv_sub, r_in, z0, iv_to (by omega)]
  congr 2
  unfold okK
  congr 1
  apply decide_eq_decide.mpr
  omega
/-- an answer that is a yes or a no -/
def SameZ (S : QS) (l : Option (Int32 × QS)) (m : QS → Option (Int32 × QS)) : Prop := ∃ k S1 y S2, l = some (k, S1) ∧ m S1 = some (y, S2) ∧ S2.1 48 0 = k ∧ (k = 0 → S2.2 67 = y.toInt64 ∧ (y = 0 ∨ y = 1)) ∧ Inv S2
theorem sameZ_thr {V : Vw} {S : QS} (h : IV V S) (k : Int32) (hk : k ≠ 0) {l : Option (Int32 × QS)} {m : QS → Option (Int32 × QS)} (hl : l = some (k, S)) {y : Int32} (hm : m S = some (y, setF 48 0 k (setF 48 0 0 S))) : SameZ S l m :=
  ⟨k, S, y, _, hl, hm, st_eq _ _ _ _, fun z => absurd z hk, V, (h.thr 0).thr k⟩
theorem b_drop {V : Vw} {S : QS} (h : IV V S) (a : Int32) (is : Bool) : SameZ S (f_L_drop a (b2 is) S) (f_X6_drop a (b2 is)) := by
  obtain ⟨hV, hD, hC, hM, h18⟩ := id h
  have h12 : vNs V ≤ 12 := hV.2.2.1
  have h10 : vNt V ≤ 10 := hV.2.2.2.2.1
  cases hk : okK V a with
  | false =>
    refine sameZ_thr h 1 (by decide) ?_ ?_ (y := 0)
    · unfold f_L_drop f_X5_drop
      rw [d_skidOf hV hD, hk, if_neg (by decide), bxl, bhl]
      rfl
    · unfold f_X6_drop
      rw [stF_ok, ob, m_inK hV (by rw [st_nej (by decide)]; exact hM.2.2.1), ob, hk, b2_not, ob, thr_n, if_neg b2t]
  | true =>
    obtain ⟨s, hs, rfl⟩ := ok_skd hk
    have es : (iv (s : Int)).toInt.toNat = s := by rw [iv_to (by omega), Int.toNat_natCast]
    obtain ⟨d0, d1, d2, d3, d4⟩ := hD.2.2.2.2.1 s hs
    have m4 := (hM.2.2.2.2.1 s hs).2.2.2.2
    have hw2 := hV.2.2.2.1 s hs
    -- the reference, from a state that differs from S in the desk's alone
    have model : ∀ T : QS, MR V T → f_X6_drop (iv (s : Int)) (b2 is) T = some (b2 (xor (!kOn V s) is), setF 54 s (b2 is) (setF 48 0 0 T)) := fun T hT => by
      have m4 := (hT.2.2.2.2.1 s hs).2.2.2.2
      unfold f_X6_drop
      rw [stF_ok, ob, m_inK hV (by rw [st_nej (by decide)]; exact hT.2.2.1), ob, hk, b2_not, ob, thr_y, if_pos b2f]
      show (rdA 54 12 (iv (s : Int)) (setF 48 0 0 T)).bind _ = _
      rw [rd_iv (by omega), ob, Int.toNat_natCast, st_nek (by decide), m4]
      show (wrZ 54 12 (iv (s : Int)) (b2 is) (setF 48 0 0 T)).bind _ = _
      rw [wz_iv (by omega) (b2_or _), ob, Int.toNat_natCast]
      cases kOn V s <;> cases is <;> rfl
    by_cases ho : kOn V s = is
    · obtain ⟨V2, hV2e⟩ : ∃ V2, V2 = upD V s (!is) := ⟨_, rfl⟩
      obtain ⟨S1, hS1⟩ : ∃ S1, S1 = setF 0 5 0 (setF (2 + s) 4 (b2 (!is)) S) := ⟨_, rfl⟩
      obtain ⟨T, hT⟩ : ∃ T, T = setL 67 1 S1 := ⟨_, rfl⟩
      obtain ⟨S2, hS2⟩ : ∃ S2, S2 = setF 54 s (b2 is) (setF 48 0 0 T) := ⟨_, rfl⟩
      have vk : ∀ x, V2.2.2.2.2.1 x = if x = s then (kCar V s, kBeh V s, kLo V s, kHi V s, !is) else V.2.2.2.2.1 x := fun x => by rw [hV2e]; rfl
      have vn : vNs V2 = vNs V := by rw [hV2e]; rfl
      have vt : V2.2.2.2.2.2 = V.2.2.2.2.2 := by rw [hV2e]; rfl
      have v1 : V2.1 = V.1 := by rw [hV2e]; rfl
      have v2 : V2.2.1 = V.2.1 := by rw [hV2e]; rfl
      have v3 : V2.2.2.1 = V.2.2.1 := by rw [hV2e]; rfl
      have hnt : vNt V2 = vNt V := by unfold vNt; rw [vt]
      have kk : ∀ x, kCar V2 x = kCar V x ∧ kBeh V2 x = kBeh V x ∧ kLo V2 x = kLo V x ∧ kHi V2 x = kHi V x ∧ kOn V2 x = if x = s then !is else kOn V x := fun x => by
        by_cases cx : x = s
        · subst cx
          unfold kCar kBeh kLo kHi kOn
          rw [vk x, if_pos rfl, if_pos rfl]
          exact ⟨rfl, rfl, rfl, rfl, rfl⟩
        · unfold kCar kBeh kLo kHi kOn
          rw [vk x, if_neg cx, if_neg cx]
          exact ⟨rfl, rfl, rfl, rfl, rfl⟩
      have hV2 : VOk V2 := by
        obtain ⟨w1, w2, w3, w4, w5, w6⟩ := hV
        refine ⟨fun d hd => ?_, fun r hr => ?_, by omega, fun x hx => ?_, by omega, fun t ht => ?_⟩
        · unfold vM; rw [v1]; exact w1 d hd
        · unfold vLo vHi; rw [v2, v3]; exact w2 r hr
        · obtain ⟨g1, g2, g3, g4, -⟩ := kk x
          rw [g1, g3, g4]
          exact w4 x (by omega)
        · unfold tRow tLo tHi
          rw [vt]
          exact w6 t (by omega)
      have far : ∀ k, k ≠ 0 → k ≠ 2 + s → S1.1 k = S.1 k := fun k h1 h2 => by rw [hS1, st_nek h1, st_nek h2]
      have hD2 : DR V2 S1 := by
        obtain ⟨q1, q2, q3, q4, q5, q6⟩ := hD
        refine ⟨?_, fun r hr => ?_, ?_, ?_, fun x hx => ?_, fun t ht => ?_⟩
        · unfold vM; rw [v1, far 26 (by decide) (by omega), far 37 (by decide) (by omega)]; exact q1
        · have := kp_cases hr
          unfold vLo vHi
          rw [v2, v3, far (kp r) (by omega) (by omega)]
          exact q2 r hr
        · rw [vn, hS1, st_nej (by decide), st_nek (by omega)]; exact q3
        · rw [hnt, hS1, st_nej (by decide), st_nek (by omega)]; exact q4
        · obtain ⟨g1, g2, g3, g4, g5⟩ := kk x
          have q5x := q5 x (by omega)
          rw [g1, g2, g3, g4, g5, hS1, st_nek (by omega)]
          by_cases cx : x = s
          · subst cx
            rw [if_pos rfl]
            exact ⟨by rw [st_nej (by decide)]; exact q5x.1, by rw [st_nej (by decide)]; exact q5x.2.1, by rw [st_nej (by decide)]; exact q5x.2.2.1, by rw [st_nej (by decide)]; exact q5x.2.2.2.1, st_eq _ _ _ _⟩
          · rw [if_neg cx, st_nek (by omega)]
            exact q5x
        · unfold tRow tLo tHi
          rw [vt, far (15 + t) (by omega) (by omega)]
          exact q6 t (by omega)
      have hM1 : MR V T := hM.up (fun k hk => by rw [hT, sl_1]; exact far k (by omega) (by omega))
      have hM2 : MR V2 S2 := by
        obtain ⟨q1, q2, q3, q4, q5, q6, q7⟩ := hM1
        have e : ∀ k, k ≠ 48 → k ≠ 54 → S2.1 k = T.1 k := fun k h1 h2 => by rw [hS2, st_nek h2, st_nek h1]
        have e8 : ∀ j, j ≠ 0 → S2.1 48 j = T.1 48 j := fun j hj => by rw [hS2, st_nek (by decide), st_nej hj]
        have e54 : ∀ j, S2.1 54 j = if j = s then b2 is else T.1 54 j := fun j => by
          rw [hS2]
          by_cases cx : j = s
          · subst cx
            rw [if_pos rfl]
            exact st_eq _ _ _ _
          · rw [if_neg cx, st_nej cx, st_nek (by decide)]
        refine ⟨?_, fun r hr => ?_, ?_, ?_, fun x hx => ?_, fun x hx1 hx2 => ?_, fun t ht => ?_⟩
        · unfold vM; rw [v1, e 49 (by decide) (by decide)]; exact q1
        · unfold vLo vHi; rw [v2, v3, e 55 (by decide) (by decide), e 56 (by decide) (by decide)]; exact q2 r hr
        · rw [vn, e8 7 (by decide)]; exact q3
        · rw [hnt, e8 13 (by decide)]; exact q4
        · obtain ⟨g1, g2, g3, g4, g5⟩ := kk x
          have q5x := q5 x (by omega)
          rw [g1, g2, g3, g4, g5, e 50 (by decide) (by decide), e 51 (by decide) (by decide), e 52 (by decide) (by decide), e 53 (by decide) (by decide), e54 x]
          refine ⟨q5x.1, q5x.2.1, q5x.2.2.1, q5x.2.2.2.1, ?_⟩
          by_cases cx : x = s
          · rw [if_pos cx, if_pos cx, Bool.not_not]
          · rw [if_neg cx, if_neg cx]
            exact q5x.2.2.2.2
        · rw [e54 x, if_neg (by omega)]
          exact q6 x (by omega) hx2
        · unfold tRow tLo tHi
          rw [vt, e 57 (by decide) (by decide), e 58 (by decide) (by decide), e 59 (by decide) (by decide)]
          exact q7 t (by omega)
      refine ⟨0, T, 1, S2, ?_, ?_, ?_, fun _ => ⟨?_, Or.inr rfl⟩, V2, IV.tell (S1 := T) hV2 (hD2.kept hV2 (fun k _ => by rw [hT, sl_1])) (by rw [hT, sl_1, hS1, st_eq]) (fun k hk => ?_) hM2 ?_⟩
      · unfold f_L_drop f_X5_drop
        rw [d_skidOf hV hD, hk, if_pos rfl, bxr, es, d4, if_pos (by rw [ho]), b2_not, ob, stZ_ok (b2_or _), ob, stZ_ok (Or.inl rfl), ob, bhr, ← hS1]
        show (((if (1 : Int32) = 0 then (some 0) else (some 1)) : Option Int64).bind _) = _
        rw [if_neg (by decide), ob, stL_ok, ob, hT]
      · rw [model T hM1, hS2, ho]
        cases is <;> rfl
      · rw [hS2, st_nek (by decide), st_eq]
      · rw [hS2, st_2, st_2, hT]
        exact sl_eq _ _ _
      · rw [hS2, st_nek (by omega), st_nek (by omega)]
      · rw [hS2, st_nek (by decide), st_nej (by decide), hT, sl_1, far 48 (by decide) (by omega)]
        exact h18
    · obtain ⟨T, hT⟩ : ∃ T, T = setL 67 0 S := ⟨_, rfl⟩
      have hIT : IV V T := by rw [hT]; exact h.out 0
      have hno : (!kOn V s) = is := by cases h1 : kOn V s <;> cases h2 : is <;> simp_all
      have hM2 : MR V (setF 54 s (b2 is) (setF 48 0 0 T)) := by
        obtain ⟨q1, q2, q3, q4, q5, q6, q7⟩ := hIT.2.2.2.1
        have e : ∀ k, k ≠ 48 → (setF 54 s (b2 is) (setF 48 0 0 T)).1 k = T.1 k := fun k h1 => by
          by_cases c54 : k = 54
          · subst c54
            funext j
            by_cases cj : j = s
            · subst cj
              rw [st_eq, (q5 j hs).2.2.2.2, hno]
            · rw [st_nej cj, st_nek h1]
          · rw [st_nek c54, st_nek h1]
        exact hIT.2.2.2.1.kp (fun k h1 h2 => e k (by omega)) (by rw [st_nek (by decide), st_nej (by decide)]) (by rw [st_nek (by decide), st_nej (by decide)])
      refine ⟨0, T, 0, setF 54 s (b2 is) (setF 48 0 0 T), ?_, ?_, ?_, fun _ => ⟨?_, Or.inl rfl⟩, V, hIT.md (fun k hk => by rw [st_nek (by omega), st_nek (by omega)]) rfl hM2 ?_⟩
      · unfold f_L_drop f_X5_drop
        rw [d_skidOf hV hD, hk, if_pos rfl, bxr, es, d4, if_neg (fun z => ho (by cases h1 : kOn V s <;> cases h2 : is <;> simp_all [b2])), bhr]
        show (((if (0 : Int32) = 0 then (some 0) else (some 1)) : Option Int64).bind _) = _
        rw [if_pos rfl, ob, stL_ok, ob, hT]
      · rw [model T hIT.2.2.2.1, hno]
        cases is <;> rfl
      · rw [st_nek (by decide), st_eq]
      · rw [st_2, st_2, hT]
        exact sl_eq _ _ _
      · rw [st_nek (by decide), st_nej (by decide)]
        exact hIT.2.2.2.2
theorem kp_inj {r r2 : Nat} (h : r < 6) (h2 : r2 < 6) (e : kp r = kp r2) : r = r2 := by
  unfold kp at e
  omega
theorem b_sure {V : Vw} {S : QS} (h : IV V S) (a b lo hi : Int32) : Same S (f_L_sure a b lo hi S) (f_X6_sure a b lo hi) := by
  obtain ⟨hV, hD, hC, hM, h18⟩ := id h
  have h12 : vNs V ≤ 12 := hV.2.2.1
  have h10 : vNt V ≤ 10 := hV.2.2.2.2.1
  cases hc : (okC a && okS b) with
  | false =>
    refine same_thr h 1 ?_ ?_
    · unfold f_L_sure f_X5_sure
      rw [d_speedOf_no hc, bxl, bhl]
      rfl
    · unfold f_X6_sure
      rw [stF_ok, ob, m_noSpeed, ob, hc, thr_n, if_neg b2t]
  | true =>
    have hc1 := hc
    rw [Bool.and_eq_true] at hc1
    obtain ⟨c, hc2, rfl⟩ := ok_car hc1.1
    obtain ⟨j, hj, rfl⟩ := ok_spd hc1.2
    cases hn : okN (-50) 50 lo hi with
    | false =>
      refine same_thr h 2 ?_ ?_
      · unfold f_L_sure f_X5_sure
        rw [d_speedOf hc2 hj, bxr, d_sp50, hn, if_neg (by decide), bxl, bhl, if_neg s_IA, if_pos rfl]
      · unfold f_X6_sure
        rw [stF_ok, ob, m_noSpeed, ob, hc, thr_y, if_pos b2f]
        show ((f_X6_noSpan lo hi).bind _) = _
        rw [m_noSpan, ob, hn, thr_n, if_neg b2t]
    | true =>
      have hb := okN_iff.mp hn
      obtain ⟨r, hr⟩ : ∃ r, r = 3 * c + j := ⟨_, rfl⟩
      have hr6 : r < 6 := by omega
      obtain ⟨V2, hV2e⟩ : ∃ V2, V2 = upS V r lo.toInt hi.toInt := ⟨_, rfl⟩
      obtain ⟨S1, hS1⟩ : ∃ S1, S1 = setF 0 5 0 (setF (kp r) 1 hi (setF (kp r) 0 lo S)) := ⟨_, rfl⟩
      obtain ⟨S2, hS2⟩ : ∃ S2, S2 = setF 56 r hi (setF 55 r lo (setF 48 0 0 S1)) := ⟨_, rfl⟩
      have elo : lo = iv lo.toInt := (iv_of lo).symm
      have ehi : hi = iv hi.toInt := (iv_of hi).symm
      have v1 : V2.1 = V.1 := by rw [hV2e]; rfl
      have v2 : ∀ x, vLo V2 x = if x = r then lo.toInt else vLo V x := fun x => by rw [hV2e]; rfl
      have v3 : ∀ x, vHi V2 x = if x = r then hi.toInt else vHi V x := fun x => by rw [hV2e]; rfl
      have v4 : V2.2.2.2 = V.2.2.2 := by rw [hV2e]; rfl
      have hkp := kp_cases hr6
      have hV2 : VOk V2 := by
        obtain ⟨w1, w2, w3⟩ := hV
        refine ⟨fun d hd => ?_, fun x hx => ?_, ?_⟩
        · unfold vM; rw [v1]; exact w1 d hd
        · rw [v2, v3]
          by_cases cx : x = r
          · rw [if_pos cx, if_pos cx]
            omega
          · rw [if_neg cx, if_neg cx]
            exact w2 x hx
        · unfold vNs kCar kLo kHi vNt tRow tLo tHi
          rw [v4]
          exact w3
      have far : ∀ k, k ≠ 0 → k ≠ kp r → S1.1 k = S.1 k := fun k h1 h2 => by rw [hS1, st_nek h1, st_nek h2, st_nek h2]
      have hD2 : DR V2 S1 := by
        obtain ⟨q1, q2, q3⟩ := hD
        refine ⟨?_, fun x hx => ?_, ?_⟩
        · unfold vM; rw [v1, far 26 (by decide) (by omega), far 37 (by decide) (by omega)]; exact q1
        · rw [v2, v3]
          by_cases cx : x = r
          · subst cx
            rw [if_pos rfl, if_pos rfl, ← elo, ← ehi, hS1, st_nek (by omega)]
            exact ⟨by rw [st_nej (by decide), st_eq], st_eq _ _ _ _⟩
          · have hx2 := kp_cases hx
            rw [if_neg cx, if_neg cx, far (kp x) (by omega) (fun z => cx (kp_inj hx hr6 z))]
            exact q2 x hx
        · unfold vNs kCar kBeh kLo kHi kOn vNt tRow tLo tHi
          rw [v4]
          obtain ⟨q3, q4, q5, q6⟩ := q3
          refine ⟨?_, ?_, fun s hs => ?_, fun t ht => ?_⟩
          · rw [hS1, st_nej (by decide), st_nek (by omega), st_nek (by omega)]; exact q3
          · rw [hS1, st_nej (by decide), st_nek (by omega), st_nek (by omega)]; exact q4
          · have hs : s < vNs V := hs
            rw [far (2 + s) (by omega) (by omega)]; exact q5 s hs
          · have ht : t < vNt V := ht
            rw [far (15 + t) (by omega) (by omega)]; exact q6 t ht
      have hM1 : MR V S1 := hM.up (fun k hk => far k (by omega) (by omega))
      have hM2 : MR V2 S2 := by
        obtain ⟨q1, q2, q3⟩ := hM1
        have e : ∀ k, k ≠ 48 → k ≠ 55 → k ≠ 56 → S2.1 k = S1.1 k := fun k h1 h2 h3 => by rw [hS2, st_nek h3, st_nek h2, st_nek h1]
        have e8 : ∀ j, j ≠ 0 → S2.1 48 j = S1.1 48 j := fun j hj => by rw [hS2, st_nek (by decide), st_nek (by decide), st_nej hj]
        refine ⟨?_, fun x hx => ?_, ?_⟩
        · unfold vM; rw [v1, e 49 (by decide) (by decide) (by decide)]; exact q1
        · rw [v2, v3]
          by_cases cx : x = r
          · subst cx
            rw [if_pos rfl, if_pos rfl, ← elo, ← ehi, hS2]
            exact ⟨by rw [st_nek (by decide), st_eq], st_eq _ _ _ _⟩
          · rw [if_neg cx, if_neg cx, hS2]
            exact ⟨by rw [st_nek (by decide), st_nej cx, st_nek (by decide)]; exact (q2 x hx).1, by rw [st_nej cx, st_nek (by decide), st_nek (by decide)]; exact (q2 x hx).2⟩
        · unfold vNs kCar kBeh kLo kHi kOn vNt tRow tLo tHi
          rw [v4, e8 7 (by decide), e8 13 (by decide), e 50 (by decide) (by decide) (by decide), e 51 (by decide) (by decide) (by decide), e 52 (by decide) (by decide) (by decide), e 53 (by decide) (by decide) (by decide), e 54 (by decide) (by decide) (by decide), e 57 (by decide) (by decide) (by decide), e 58 (by decide) (by decide) (by decide), e 59 (by decide) (by decide) (by decide)]
          exact q3
      refine ⟨0, S1, S2, ?_, ?_, by rw [hS2, st_nek (by decide), st_nek (by decide), st_eq], V2, IV.tell hV2 hD2 (by rw [hS1, st_eq]) (fun k hk => by rw [hS2, st_nek (by omega), st_nek (by omega), st_nek (by omega)]) hM2 (by rw [hS2, st_nek (by decide), st_nek (by decide), st_nej (by decide), far 48 (by decide) (by omega)]; exact h18)⟩
      · unfold f_L_sure f_X5_sure
        rw [d_speedOf hc2 hj, bxr, d_sp50, hn, if_pos rfl, bxr, stF_ok, ob, stF_ok, ob, stZ_ok (Or.inl rfl), ob, bhr, ← hr, ← hS1]
      · unfold f_X6_sure
        rw [stF_ok, ob, m_noSpeed, ob, hc, thr_y, if_pos b2f]
        show ((f_X6_noSpan lo hi).bind _) = _
        rw [m_noSpan, ob, hn, thr_y, if_pos b2f]
        have er : 3 * iv (c : Int) + iv (j : Int) = iv (r : Int) := by
          rw [c_3, iv_mul, iv_add, hr]
          congr 1
        rw [er]
        show (wrA 55 6 (iv (r : Int)) lo (setF 48 0 0 S1)).bind _ = _
        rw [wr_iv (by omega), ob, wr_iv (by omega), ob, Int.toNat_natCast, hS2]
theorem b_tale {V : Vw} {S : QS} (h : IV V S) (a b lo hi : Int32) : SameL S (f_L_tale a b lo hi S) (f_X6_tale a b lo hi) := by
  obtain ⟨hV, hD, hC, hM, h18⟩ := id h
  have h12 : vNs V ≤ 12 := hV.2.2.1
  have h10 : vNt V ≤ 10 := hV.2.2.2.2.1
  cases hc : (okC a && okS b) with
  | false =>
    refine sameL_thr h 1 (by decide) ?_ ?_ (y := 0)
    · unfold f_L_tale f_X5_tale
      rw [d_speed, hc, if_neg (by decide), bxl, bhl]
      rfl
    · unfold f_X6_tale
      rw [stF_ok, ob, m_noSpeed, ob, hc, thr_n, if_neg b2t]
  | true =>
    have hc1 := hc
    rw [Bool.and_eq_true] at hc1
    obtain ⟨c, hc2, rfl⟩ := ok_car hc1.1
    obtain ⟨j, hj, rfl⟩ := ok_spd hc1.2
    cases hn : okN (-50) 50 lo hi with
    | false =>
      refine sameL_thr h 2 (by decide) ?_ ?_ (y := 0)
      · unfold f_L_tale f_X5_tale
        rw [d_speed, hc, if_pos rfl, bxr, d_sp50, hn, if_neg (by decide), bxl, bhl, if_neg s_IA, if_pos rfl]
      · unfold f_X6_tale
        rw [stF_ok, ob, m_noSpeed, ob, hc, thr_y, if_pos b2f, m_noSpan, ob, hn, thr_n, if_neg b2t]
    | true =>
      have hb := okN_iff.mp hn
      have e13 : (setF 48 0 0 S).1 48 13 = iv (vNt V : Int) := by rw [st_nej (by decide)]; exact hM.2.2.2.1
      by_cases hf : vNt V = 10
      · refine sameL_thr h 3 (by decide) ?_ ?_ (y := 0)
        · unfold f_L_tale f_X5_tale
          rw [d_speed, hc, if_pos rfl, bxr, d_sp50, hn, if_pos rfl, bxr, hD.2.2.2.1, hf, if_neg (by decide), bhl, if_neg s_UO1, if_neg s_UO2, if_pos rfl]
        · unfold f_X6_tale
          rw [stF_ok, ob, m_noSpeed, ob, hc, thr_y, if_pos b2f, m_noSpan, ob, hn, thr_y, if_pos b2f]
          show (((if (setF 48 0 0 S).1 48 13 = 10 then (some 1) else (some 0)) : Option Int32).bind _) = _
          rw [e13, hf, if_pos (by decide), ob, thr_1, if_neg b2t]
      · obtain ⟨nt, hnt⟩ : ∃ nt, nt = vNt V := ⟨_, rfl⟩
        obtain ⟨r, hr⟩ : ∃ r, r = 3 * c + j := ⟨_, rfl⟩
        have hr6 : r < 6 := by omega
        obtain ⟨V2, hV2e⟩ : ∃ V2, V2 = upT V (r, lo.toInt, hi.toInt) := ⟨_, rfl⟩
        obtain ⟨S1, hS1⟩ : ∃ S1, S1 = setF 0 5 0 (setF 0 3 (iv ((nt + 1 : Nat) : Int)) (setF (15 + nt) 3 hi (setF (15 + nt) 2 lo (setF (15 + nt) 1 (iv (j : Int)) (setF (15 + nt) 0 (iv (c : Int)) S))))) := ⟨_, rfl⟩
        obtain ⟨T, hT⟩ : ∃ T, T = setL 67 (iv (nt : Int)).toInt64 S1 := ⟨_, rfl⟩
        obtain ⟨S2, hS2⟩ : ∃ S2, S2 = setF 48 13 (iv ((nt + 1 : Nat) : Int)) (setF 59 nt hi (setF 58 nt lo (setF 57 nt (iv (r : Int)) (setF 48 0 0 T)))) := ⟨_, rfl⟩
        have elo : lo = iv lo.toInt := (iv_of lo).symm
        have ehi : hi = iv hi.toInt := (iv_of hi).symm
        have vk : ∀ t, V2.2.2.2.2.2.2 t = if t = nt then (r, lo.toInt, hi.toInt) else V.2.2.2.2.2.2 t := fun t => by rw [hV2e, hnt]; rfl
        have vn : vNt V2 = nt + 1 := by rw [hV2e, hnt]; rfl
        have vs : vNs V2 = vNs V := by rw [hV2e]; rfl
        have v5 : V2.2.2.2.2.1 = V.2.2.2.2.1 := by rw [hV2e]; rfl
        have v1 : V2.1 = V.1 := by rw [hV2e]; rfl
        have v2 : V2.2.1 = V.2.1 := by rw [hV2e]; rfl
        have v3 : V2.2.2.1 = V.2.2.1 := by rw [hV2e]; rfl
        have kk : ∀ t, t ≠ nt → tRow V2 t = tRow V t ∧ tLo V2 t = tLo V t ∧ tHi V2 t = tHi V t := fun t ht => by
          unfold tRow tLo tHi
          rw [vk t, if_neg ht]
          exact ⟨rfl, rfl, rfl⟩
        have kn : tRow V2 nt = r ∧ tLo V2 nt = lo.toInt ∧ tHi V2 nt = hi.toInt := by
          unfold tRow tLo tHi
          rw [vk nt, if_pos rfl]
          exact ⟨rfl, rfl, rfl⟩
        have hV2 : VOk V2 := by
          obtain ⟨w1, w2, w3, w4, w5, w6⟩ := hV
          refine ⟨fun d hd => ?_, fun r hr => ?_, by omega, fun s hs => ?_, by omega, fun t ht => ?_⟩
          · unfold vM; rw [v1]; exact w1 d hd
          · unfold vLo vHi; rw [v2, v3]; exact w2 r hr
          · unfold kCar kLo kHi
            rw [v5]
            exact w4 s (by omega)
          · by_cases ct : t = nt
            · subst ct
              obtain ⟨g1, g2, g3⟩ := kn
              rw [g1, g2, g3]
              omega
            · obtain ⟨g1, g2, g3⟩ := kk t ct
              rw [g1, g2, g3]
              exact w6 t (by omega)
        have far : ∀ k, k ≠ 0 → k ≠ 15 + nt → S1.1 k = S.1 k := fun k h1 h2 => by rw [hS1, st_nek h1, st_nek h1, st_nek h2, st_nek h2, st_nek h2, st_nek h2]
        have hD2 : DR V2 S1 := by
          obtain ⟨q1, q2, q3, q4, q5, q6⟩ := hD
          refine ⟨?_, fun x hx => ?_, ?_, ?_, fun s hs => ?_, fun t ht => ?_⟩
          · unfold vM; rw [v1, far 26 (by decide) (by omega), far 37 (by decide) (by omega)]; exact q1
          · have := kp_cases hx
            unfold vLo vHi
            rw [v2, v3, far (kp x) (by omega) (by omega)]
            exact q2 x hx
          · rw [vs, hS1, st_nej (by decide), st_nej (by decide), st_nek (by omega), st_nek (by omega), st_nek (by omega), st_nek (by omega)]
            exact q3
          · rw [vn, hS1, st_nej (by decide), st_eq]
          · unfold kCar kBeh kLo kHi kOn
            rw [v5, far (2 + s) (by omega) (by omega)]
            exact q5 s (by omega)
          · by_cases ct : t = nt
            · subst ct
              obtain ⟨g1, g2, g3⟩ := kn
              rw [g1, g2, g3, ← elo, ← ehi, hS1, st_nek (by omega), st_nek (by omega), show r / 3 = c by omega, show r % 3 = j by omega]
              refine ⟨?_, ?_, ?_, ?_⟩
              · rw [st_nej (by decide), st_nej (by decide), st_nej (by decide), st_eq]
              · rw [st_nej (by decide), st_nej (by decide), st_eq]
              · rw [st_nej (by decide), st_eq]
              · exact st_eq _ _ _ _
            · obtain ⟨g1, g2, g3⟩ := kk t ct
              rw [g1, g2, g3, far (15 + t) (by omega) (by omega)]
              exact q6 t (by omega)
        have hM1 : MR V T := hM.up (fun k hk => by rw [hT, sl_1]; exact far k (by omega) (by omega))
        have e13b : (setF 48 0 0 T).1 48 13 = iv (nt : Int) := by rw [st_nej (by decide), hnt]; exact hM1.2.2.2.1
        have hM2 : MR V2 S2 := by
          obtain ⟨q1, q2, q3, q4, q5, q6, q7⟩ := hM1
          have e : ∀ k, k ≠ 48 → k ≠ 57 → k ≠ 58 → k ≠ 59 → S2.1 k = T.1 k := fun k h1 h2 h3 h4 => by rw [hS2, st_nek h1, st_nek h4, st_nek h3, st_nek h2, st_nek h1]
          refine ⟨?_, fun r hr => ?_, ?_, ?_, fun s hs => ?_, fun s hs1 hs2 => ?_, fun t ht => ?_⟩
          · unfold vM; rw [v1, e 49 (by decide) (by decide) (by decide) (by decide)]; exact q1
          · unfold vLo vHi; rw [v2, v3, e 55 (by decide) (by decide) (by decide) (by decide), e 56 (by decide) (by decide) (by decide) (by decide)]; exact q2 r hr
          · rw [vs, hS2, st_nej (by decide), st_nek (by decide), st_nek (by decide), st_nek (by decide), st_nej (by decide)]; exact q3
          · rw [vn, hS2, st_eq]
          · unfold kCar kBeh kLo kHi kOn
            rw [v5, e 50 (by decide) (by decide) (by decide) (by decide), e 51 (by decide) (by decide) (by decide) (by decide), e 52 (by decide) (by decide) (by decide) (by decide), e 53 (by decide) (by decide) (by decide) (by decide), e 54 (by decide) (by decide) (by decide) (by decide)]
            exact q5 s (by omega)
          · rw [e 54 (by decide) (by decide) (by decide) (by decide)]
            exact q6 s (by omega) hs2
          · by_cases ct : t = nt
            · subst ct
              obtain ⟨g1, g2, g3⟩ := kn
              rw [g1, g2, g3, ← elo, ← ehi]
              refine ⟨?_, ?_, ?_⟩
              · rw [hS2, st_nek (by decide), st_nek (by decide), st_nek (by decide), st_eq]
              · rw [hS2, st_nek (by decide), st_nek (by decide), st_eq]
              · rw [hS2, st_nek (by decide), st_eq]
            · obtain ⟨g1, g2, g3⟩ := kk t ct
              have q7t := q7 t (by omega)
              rw [g1, g2, g3, hS2]
              refine ⟨?_, ?_, ?_⟩
              · rw [st_nek (by decide), st_nek (by decide), st_nek (by decide), st_nej ct, st_nek (by decide)]; exact q7t.1
              · rw [st_nek (by decide), st_nek (by decide), st_nej ct, st_nek (by decide), st_nek (by decide)]; exact q7t.2.1
              · rw [st_nek (by decide), st_nej ct, st_nek (by decide), st_nek (by decide), st_nek (by decide)]; exact q7t.2.2
        refine ⟨0, T, iv (nt : Int), S2, ?_, ?_, ?_, fun _ => ?_, V2, IV.tell (S1 := T) hV2 (hD2.kept hV2 (fun k _ => by rw [hT, sl_1])) (by rw [hT, sl_1, hS1, st_eq]) (fun k hk => ?_) hM2 ?_⟩
        · unfold f_L_tale f_X5_tale
          rw [d_speed, hc, if_pos rfl, bxr, d_sp50, hn, if_pos rfl, bxr, hD.2.2.2.1, ← hnt, c_10, if_pos (y_lt (a := (nt : Int)) (b := 10) (by omega)), rq_iv (by omega), ob, stF_ok, ob, stF_ok, ob, stF_ok, ob, stF_ok, ob]
          rw [st_nek (k1 := 0) (by omega), st_nek (k1 := 0) (by omega), st_nek (k1 := 0) (by omega), st_nek (k1 := 0) (by omega), hD.2.2.2.1, ← hnt, stF_ok, ob, iv_one, stZ_ok (Or.inl rfl), ob, bhr]
          show (stL 67 ((setF 0 5 0 (setF 0 3 (iv ((nt : Int) + 1)) _)).1 0 3 - 1).toInt64 _).bind _ = _
          rw [st_nej (by decide), st_eq, c_1, iv_sub, show ((nt : Int) + 1 - 1) = (nt : Int) by omega, stL_ok, ob, hT, hS1]
          rfl
        · unfold f_X6_tale
          rw [stF_ok, ob, m_noSpeed, ob, hc, thr_y, if_pos b2f, m_noSpan, ob, hn, thr_y, if_pos b2f]
          show (((if (setF 48 0 0 T).1 48 13 = 10 then (some 1) else (some 0)) : Option Int32).bind _) = _
          rw [e13b, c_10, if_neg (n_eq (a := (nt : Int)) (b := 10) (by omega)), ob, thr_0, if_pos b2f]
          have er : 3 * iv (c : Int) + iv (j : Int) = iv (r : Int) := by
            rw [c_3, iv_mul, iv_add, hr]
            congr 1
          rw [er]
          show (wrA 57 10 ((setF 48 0 0 T).1 48 13) (iv (r : Int)) (setF 48 0 0 T)).bind _ = _
          rw [e13b, wr_iv (by omega), ob, Int.toNat_natCast, st_nek (k := 57) (k1 := 48) (by decide), e13b, wr_iv (by omega), ob, Int.toNat_natCast, st_nek (k := 58) (k1 := 48) (by decide), st_nek (k := 57) (k1 := 48) (by decide), e13b, wr_iv (by omega), ob, Int.toNat_natCast, st_nek (k := 59) (k1 := 48) (by decide), st_nek (k := 58) (k1 := 48) (by decide), st_nek (k := 57) (k1 := 48) (by decide), e13b, iv_one, stF_ok, ob, st_eq, c_1, iv_sub, show ((nt : Int) + 1 - 1) = (nt : Int) by omega, hS2]
          rfl
        · rw [hS2, st_nej (by decide), st_nek (by decide), st_nek (by decide), st_nek (by decide), st_eq]
        · rw [hS2, st_2, st_2, st_2, st_2, st_2, hT]
          exact sl_eq _ _ _
        · rw [hS2, st_nek (by omega), st_nek (by omega), st_nek (by omega), st_nek (by omega), st_nek (by omega)]
        · rw [hS2, st_nej (by decide), st_nek (by decide), st_nek (by decide), st_nek (by decide), st_nej (by decide), hT, sl_1, far 48 (by decide) (by omega)]
          exact h18
theorem b_hush {V : Vw} {S : QS} (h : IV V S) : ∃ x S1 S2, f_X5_hush S = some (x, S1) ∧ f_X6_hush S1 = some (x, S2) ∧ Inv S2 := by
  obtain ⟨hV, hD, hC, hM, h18⟩ := id h
  have h12 : vNs V ≤ 12 := hV.2.2.1
  obtain ⟨V2, hV2e⟩ : ∃ V2, V2 = upH V := ⟨_, rfl⟩
  obtain ⟨S1, hS1⟩ : ∃ S1, S1 = setF 0 5 0 (setF 0 3 0 S) := ⟨_, rfl⟩
  obtain ⟨S2, hS2⟩ : ∃ S2, S2 = setF 48 13 0 (setF 48 0 0 S1) := ⟨_, rfl⟩
  have vn : vNt V2 = 0 := by rw [hV2e]; rfl
  have hV2 : VOk V2 := by
    obtain ⟨w1, w2, w3, w4, w5, w6⟩ := hV
    rw [hV2e]
    exact ⟨w1, w2, w3, w4, Nat.zero_le _, fun t ht => absurd ht (Nat.not_lt_zero t)⟩
  have far : ∀ k, k ≠ 0 → S1.1 k = S.1 k := fun k h1 => by rw [hS1, st_nek h1, st_nek h1]
  have hD2 : DR V2 S1 := by
    obtain ⟨q1, q2, q3, q4, q5, q6⟩ := hD
    refine ⟨?_, fun x hx => ?_, ?_, ?_, fun s hs => ?_, fun t ht => by omega⟩
    · rw [far 26 (by decide), far 37 (by decide), hV2e]; exact q1
    · have := kp_cases hx
      rw [far (kp x) (by omega), hV2e]; exact q2 x hx
    · rw [hS1, st_nej (by decide), st_nej (by decide), hV2e]; exact q3
    · rw [vn, hS1, st_nej (by decide), st_eq]; rfl
    · rw [hV2e] at hs ⊢
      rw [far (2 + s) (by omega)]
      exact q5 s hs
  have hM1 : MR V S1 := hM.up (fun k hk => far k (by omega))
  have hM2 : MR V2 S2 := by
    obtain ⟨q1, q2, q3, q4, q5, q6, q7⟩ := hM1
    have e : ∀ k, k ≠ 48 → S2.1 k = S1.1 k := fun k h1 => by rw [hS2, st_nek h1, st_nek h1]
    refine ⟨?_, fun r hr => ?_, ?_, ?_, fun s hs => ?_, fun s hs1 hs2 => ?_, fun t ht => by omega⟩
    · rw [e 49 (by decide), hV2e]; exact q1
    · rw [e 55 (by decide), e 56 (by decide), hV2e]; exact q2 r hr
    · rw [hS2, st_nej (by decide), st_nej (by decide), hV2e]; exact q3
    · rw [vn, hS2, st_eq]; rfl
    · rw [hV2e] at hs ⊢
      rw [e 50 (by decide), e 51 (by decide), e 52 (by decide), e 53 (by decide), e 54 (by decide)]
      exact q5 s hs
    · rw [hV2e] at hs1
      rw [e 54 (by decide)]
      exact q6 s hs1 hs2
  refine ⟨S.1 0 3, S1, S2, ?_, ?_, V2, IV.tell hV2 hD2 (by rw [hS1, st_eq]) (fun k hk => by rw [hS2, st_nek (by omega), st_nek (by omega)]) hM2 (by rw [hS2, st_nej (by decide), st_nej (by decide), far 48 (by decide)]; exact h18)⟩
  · unfold f_X5_hush
    rw [stF_ok, ob, stZ_ok (Or.inl rfl), ob, ← hS1]
  · unfold f_X6_hush
    rw [stF_ok, ob, stF_ok, ob, ← hS2, st_nej (by decide), hM1.2.2.2.1, hD.2.2.2.1]
