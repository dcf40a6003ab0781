/-! BOTH SIDES: avoided, look, can, count, odds -/
/-- two loops over the same numbers, side by side -/
theorem av_loops {c : Nat} (hc : c < 2) {S1 : QS} {q : Int32 × QS} {P : Int → Prop} (h1 : ∀ u, -50 ≤ u → u ≤ 50 → Flag (S1.1 (26 + 11 * c + 1 + 2) (ix u)) (P u)) (h2 : ∀ u, -50 ≤ u → u ≤ 50 → Flag (q.2.1 61 (cx (3 * c) u)) (P u)) (a b : Int32) :
    ∃ x y : Bool, lp_X5_avoided_46 a b (26 + 11 * c) S1 FU 1 0 (-50) = some (b2 x, b2 y) ∧ lp_X6_avoided_86 (iv (c : Int)) a b q FU 0 1 (-50) = some (b2 y, b2 x) := by
  have key : ∀ (d fuel : Nat) (v : Int) (x y : Bool), -50 ≤ v → v + d = 51 → d < fuel → ∃ x2 y2 : Bool, lp_X5_avoided_46 a b (26 + 11 * c) S1 fuel (b2 x) (b2 y) (iv v) = some (b2 x2, b2 y2) ∧ lp_X6_avoided_86 (iv (c : Int)) a b q fuel (b2 y) (b2 x) (iv v) = some (b2 y2, b2 x2) := by
    intro d
    induction d with
    | zero =>
      intro fuel v x y w1 w2 w3
      obtain ⟨f1, rfl⟩ : ∃ f1, fuel = f1 + 1 := ⟨fuel - 1, by omega⟩
      have e : v = 51 := by omega
      subst e
      exact ⟨x, y, by rw [lp_X5_avoided_46, if_pos gt50], by rw [lp_X6_avoided_86, if_pos gt50]⟩
    | succ d ih =>
      intro fuel v x y w1 w2 w3
      obtain ⟨f1, rfl⟩ : ∃ f1, fuel = f1 + 1 := ⟨fuel - 1, by omega⟩
      have hv : -50 ≤ v ∧ v ≤ 50 := by omega
      rw [lp_X5_avoided_46, lp_X6_avoided_86, if_neg (hi50 hv.2), if_neg (hi50 hv.2), s_isSeen hv, ob, row0, r_cell, ob, rdC (by omega) hv, ob, iv_one]
      rcases h1 v hv.1 hv.2 with ⟨p1, p2⟩ | ⟨p1, p2⟩
      · rcases h2 v hv.1 hv.2 with ⟨p3, p4⟩ | ⟨p3, p4⟩
        · obtain ⟨t, ht⟩ : ∃ t : Bool, ((if (a * b) < ((51 * iv v) * iv v) then (some 0) else (some 1)) : Option Int32) = some (b2 t) := by
            by_cases ct : (a * b) < ((51 * iv v) * iv v)
            · exact ⟨false, by rw [if_pos ct]; rfl⟩
            · exact ⟨true, by rw [if_neg ct]; rfl⟩
          rw [p1, p3, if_neg (by decide : ¬ (1 : Int32) = 0), if_neg (by decide : ¬ (1 : Int32) = 0), if_neg (by decide : ¬ (1 : Int32) = 0), ht, ob, ob]
          obtain ⟨x2, y2, q1, q2⟩ := ih f1 (v + 1) (x && t) (y || t) (by omega) (by omega) (by omega)
          refine ⟨x2, y2, ?_, ?_⟩
          · rw [← q1]
            cases x <;> cases y <;> cases t <;> rfl
          · rw [← q2]
            cases x <;> cases y <;> cases t <;> rfl
        · exact absurd p2 p4
      · rcases h2 v hv.1 hv.2 with ⟨p3, p4⟩ | ⟨p3, p4⟩
        · exact absurd p4 p2
        · rw [p1, p3, if_pos (rfl : (0 : Int32) = 0), if_pos (rfl : (0 : Int32) = 0), if_pos (rfl : (0 : Int32) = 0)]
          exact ih f1 (v + 1) x y (by omega) (by omega) (by omega)
  have h := key 101 FU (-50) true false (by omega) (by omega) (by decide)
  rw [c_m50]
  exact h
theorem b_avoided {V : Vw} {S : QS} (h : IV V S) (a room grip : Int32) : SameL S (f_L_avoided a room grip S) (f_X6_avoided a room grip) := by
  cases hc : okC a with
  | false =>
    refine sameL_thr h 1 (by decide) ?_ ?_ (y := 0)
    · unfold f_L_avoided f_X5_avoided
      rw [d_carOf_no hc, bxl, bhl]
      rfl
    · unfold f_X6_avoided
      rw [stF_ok, ob, m_noCar, ob, hc, thr_n, if_neg b2t]
  | true =>
    obtain ⟨c, hc2, rfl⟩ := ok_car hc
    have mt : ∀ S : QS, ((if b2 (okB 0 2000 room) = 0 then (some 1) else ((f_X6_in grip 0 150).bind fun v11 => if v11 = 0 then (some 1) else (some 0))) : Option Int32) = some (b2 (!(okB 0 2000 room && okB 0 150 grip))) := fun _ => by
      rw [m_in150, ob]
      cases okB 0 2000 room <;> cases okB 0 150 grip <;> rfl
    cases hn : (okB 0 2000 room && okB 0 150 grip) with
    | false =>
      refine sameL_thr h 2 (by decide) ?_ ?_ (y := 0)
      · unfold f_L_avoided f_X5_avoided
        rw [d_carOf hc2, bxr, d_num2000]
        cases h1 : okB 0 2000 room with
        | false =>
          rw [if_neg (by decide), bxl, bhl, if_neg s_IA, if_pos rfl]
        | true =>
          rw [h1, Bool.true_and] at hn
          rw [if_pos rfl, bxr, d_num150, hn, if_neg (by decide), bxl, bhl, if_neg s_IA, if_pos rfl]
      · unfold f_X6_avoided
        rw [stF_ok, ob, m_noCar, ob, hc, thr_y, if_pos b2f, m_in2000, ob, mt S, ob, hn, thr_n, if_neg b2t]
    | true =>
      have hn2 := hn
      rw [Bool.and_eq_true] at hn2
      obtain ⟨n1, n2⟩ := hn2
      obtain ⟨S1, e1, i1, k1, l1, g1, -⟩ := h.ask (set := 0) (by decide) (w := -1) (by decide)
      have e1 : f_X5_reckon 0 (-1) S = some S1 := e1
      have desk : ∀ X, bx (f_X5_testWay S1) (fun _ => (lp_X5_avoided_46 room grip (26 + 11 * c) S1 FU 1 0 (-50)).bind fun q15 => if q15.1 = 0 then (if q15.2 = 0 then (some (.inr (0, S1))) else (some (.inr (1, S1)))) else (some (.inr (2, S1)))) = X → f_X5_avoided (iv (c : Int)) room grip S = X := by
        rintro X rfl
        unfold f_X5_avoided
        rw [d_carOf hc2, bxr, d_num2000, n1, if_pos rfl, bxr, d_num150, n2, if_pos rfl, bxr, e1, ob]
      have model : ∀ T, IV V T → ∃ S2, IV V S2 ∧ S2.1 48 0 = 0 ∧ S2.2 67 = T.2 67 ∧ (∀ r, r < 6 → ∀ u, -50 ≤ u → u ≤ 50 → Flag (S2.1 61 (cx r u)) (Sn V 0 (-1) r u)) ∧ f_X6_avoided (iv (c : Int)) room grip T = (f_X6_throwsIf (b2 (!decide (0 < nW V 0 (-1)))) 3 S2).bind fun q18 => if q18.1 = 0 then ((lp_X6_avoided_86 (iv (c : Int)) room grip q18 FU 0 1 (-50)).bind fun q22 => if q22.2 = 0 then (if q22.1 = 0 then (some (0, q18.2)) else (some (1, q18.2))) else (some (2, q18.2))) else (some (0, q18.2)) := fun T hT => by
        obtain ⟨S2, e2, i2, -, l67, h48, -, g2⟩ := (hT.thr 0).go 0 (w := -1) (by decide)
        have e2 : f_X6_goes 0 (-1) (setF 48 0 0 T) = some (b2 (decide (0 < nW V 0 (-1))), S2) := e2
        refine ⟨S2, i2, by rw [h48, st_eq], by rw [l67, st_2], g2, ?_⟩
        unfold f_X6_avoided
        rw [stF_ok, ob, m_noCar, ob, hc, thr_y, if_pos b2f, m_in2000, ob, mt S, ob, hn, thr_y, if_pos b2f]
        show ((f_X6_goes 0 (-1) (setF 48 0 0 T)).bind _) = _
        rw [e2, ob, b2_not, ob]
      cases hw : decide (0 < nW V 0 (-1)) with
      | false =>
        obtain ⟨S2, i2, -, -, -, e2⟩ := model S1 i1
        refine ⟨3, S1, 0, setF 48 0 3 S2, ?_, ?_, st_eq _ _ _ _, fun z => absurd z (by decide), V, i2.thr 3⟩
        · unfold f_L_avoided
          rw [desk (some (.inl (nNS, S1))) (by rw [d_way nW_63 l1, hw, if_neg (by decide), bxl]), bhl, if_neg s_NS1, if_neg s_NS2, if_pos rfl]
        · rw [e2, hw, thr_n, if_neg b2t]
      | true =>
        -- the answer is the same of both loops
        have g1c : ∀ u, -50 ≤ u → u ≤ 50 → Flag (S1.1 (26 + 11 * c + 1 + 2) (ix u)) (Sn V 0 (-1) (3 * c) u) := fun u h1 h2 => by
          have := g1 (3 * c) (by omega) u h1 h2
          rcases (show c = 0 ∨ c = 1 by omega) with rfl | rfl <;> exact this
        obtain ⟨S2a, -, -, -, g2a, -⟩ := model S1 i1
        obtain ⟨x, y, r1, -⟩ := av_loops hc2 (q := (0, S2a)) g1c (fun u h1 h2 => g2a (3 * c) (by omega) u h1 h2) room grip
        obtain ⟨z, hz⟩ : ∃ z : Int32, z = if x then 2 else if y then 1 else 0 := ⟨_, rfl⟩
        obtain ⟨S2, i2, h0, l67, g2, e2⟩ := model (setL 67 z.toInt64 S1) (i1.out _)
        obtain ⟨x2, y2, r2, r3⟩ := av_loops hc2 (q := (b2 (!true), S2)) g1c (fun u h1 h2 => g2 (3 * c) (by omega) u h1 h2) room grip
        rw [r1] at r2
        have ex : x = x2 ∧ y = y2 := by
          have h3 := Option.some.inj r2
          have h4 := congrArg Prod.fst h3
          have h5 := congrArg Prod.snd h3
          cases x <;> cases x2 <;> cases y <;> cases y2 <;> simp_all [b2]
        obtain ⟨rfl, rfl⟩ := ex
        refine ⟨0, setL 67 z.toInt64 S1, z, S2, ?_, ?_, h0, fun _ => by rw [l67]; exact sl_eq _ _ _, V, i2⟩
        · unfold f_L_avoided
          rw [desk (some (.inr (z, S1))) (by
            rw [d_way nW_63 l1, hw, if_pos rfl, bxr, r1, ob, hz]
            cases x <;> cases y <;> rfl), bhr]
          rfl
        · rw [e2, hw, thr_y, if_pos b2f]
          show (lp_X6_avoided_86 (iv (c : Int)) room grip (b2 (!true), S2) FU 0 1 (-50)).bind _ = _
          rw [r3, ob, hz]
          cases x <;> cases y <;> rfl
theorem b_look {V : Vw} {S : QS} (h : IV V S) (a what : Int32) : SameL S (f_L_look a what S) (f_X6_look a what) := by
  obtain ⟨hV, hD, hC, hM, h18⟩ := id h
  have h12 : vNs V ≤ 12 := hV.2.2.1
  cases hk : okK V a with
  | false =>
    refine sameL_thr h 1 (by decide) ?_ ?_ (y := 0)
    · unfold f_L_look f_X5_look
      rw [d_skidOf hV hD, hk, if_neg (by decide), bxl, bhl]
      rfl
    · unfold f_X6_look
      rw [stF_ok, ob, m_inK hV (by rw [st_nej (by decide)]; exact hM.2.2.1), ob, hk, b2_not, ob, thr_n, if_neg b2t]
  | true =>
    obtain ⟨s, hs, rfl⟩ := ok_skd hk
    have es : (iv (s : Int)).toInt.toNat = s := by rw [iv_to (by omega), Int.toNat_natCast]
    obtain ⟨d0, d1, d2, d3, d4⟩ := hD.2.2.2.2.1 s hs
    obtain ⟨m0, m1, m2, m3, m4⟩ := hM.2.2.2.2.1 s hs
    have hrd : ∀ (T : QS) (k : Nat), rdA k 12 (iv (s : Int)) T = some (T.1 k s) := fun T k => by rw [rd_iv (by omega), Int.toNat_natCast]
    have desk : f_X5_look (iv (s : Int)) what S = if what = 0 then (some (.inr (S.1 (2 + s) 0))) else (if what = 1 then (if (S.1 (2 + s) 1) = 0 then (some (.inr 0)) else (some (.inr 1))) else (if what = 2 then (some (.inr (S.1 (2 + s) 2))) else (if what = 3 then (some (.inr (S.1 (2 + s) 3))) else (if what = 4 then (if (S.1 (2 + s) 4) = 0 then (some (.inr 0)) else (some (.inr 1))) else (some (.inl (nNS, S))))))) := by
      unfold f_X5_look
      rw [d_skidOf hV hD, hk, if_pos rfl, bxr, es]
    have model : ∀ T : QS, MR V T → f_X6_look (iv (s : Int)) what T = if what = 0 then (some (T.1 50 s, setF 48 0 0 T)) else (if what = 1 then (if T.1 51 s = 0 then (some (0, setF 48 0 0 T)) else (some (1, setF 48 0 0 T))) else (if what = 2 then (some (T.1 52 s, setF 48 0 0 T)) else (if what = 3 then (some (T.1 53 s, setF 48 0 0 T)) else (if what = 4 then (if T.1 54 s = 0 then (some (1, setF 48 0 0 T)) else (some (0, setF 48 0 0 T))) else (some (0, setF 48 0 2 (setF 48 0 0 T))))))) := fun T hT => by
      unfold f_X6_look
      rw [stF_ok, ob, m_inK hV (by rw [st_nej (by decide)]; exact hT.2.2.1), ob, hk, b2_not, ob, thr_y, if_pos b2f]
      show (if what = 0 then ((rdA 50 12 (iv (s : Int)) (setF 48 0 0 T)).bind fun v8 => some (v8, setF 48 0 0 T)) else (if what = 1 then ((rdA 51 12 (iv (s : Int)) (setF 48 0 0 T)).bind fun v10 => if v10 = 0 then (some (0, setF 48 0 0 T)) else (some (1, setF 48 0 0 T))) else (if what = 2 then ((rdA 52 12 (iv (s : Int)) (setF 48 0 0 T)).bind fun v12 => some (v12, setF 48 0 0 T)) else (if what = 3 then ((rdA 53 12 (iv (s : Int)) (setF 48 0 0 T)).bind fun v14 => some (v14, setF 48 0 0 T)) else (if what = 4 then ((rdA 54 12 (iv (s : Int)) (setF 48 0 0 T)).bind fun v16 => if v16 = 0 then (some (1, setF 48 0 0 T)) else (some (0, setF 48 0 0 T))) else ((stF 48 0 2 (setF 48 0 0 T)).bind fun S18 => some (0, S18))))))) = _
      rw [hrd, hrd, hrd, hrd, hrd, ob, ob, ob, ob, ob, st_nek (by decide), st_nek (by decide), st_nek (by decide), st_nek (by decide), st_nek (by decide)]
      rfl
    have good : ∀ y : Int32, f_X5_look (iv (s : Int)) what S = some (.inr y) → f_X6_look (iv (s : Int)) what (setL 67 y.toInt64 S) = some (y, setF 48 0 0 (setL 67 y.toInt64 S)) → SameL S (f_L_look (iv (s : Int)) what S) (f_X6_look (iv (s : Int)) what) := fun y h1 h2 => by
      refine ⟨0, setL 67 y.toInt64 S, y, _, ?_, h2, st_eq _ _ _ _, fun _ => by rw [st_2]; exact sl_eq _ _ _, V, (h.out _).thr 0⟩
      unfold f_L_look
      rw [h1, bhr]
      rfl
    have hout : ∀ y : Int64, MR V (setL 67 y S) := fun y => (h.out y).2.2.2.1
    by_cases c0 : what = 0
    · exact good (iv (kCar V s : Int)) (by rw [desk, if_pos c0, d0]) (by rw [model _ (hout _), if_pos c0, sl_1, m0])
    by_cases c1 : what = 1
    · refine good (b2 (kBeh V s)) (by rw [desk, if_neg c0, if_pos c1, d1]; cases kBeh V s <;> rfl) (by rw [model _ (hout _), if_neg c0, if_pos c1, sl_1, m1]; cases kBeh V s <;> rfl)
    by_cases c2 : what = 2
    · exact good (iv (kLo V s)) (by rw [desk, if_neg c0, if_neg c1, if_pos c2, d2]) (by rw [model _ (hout _), if_neg c0, if_neg c1, if_pos c2, sl_1, m2])
    by_cases c3 : what = 3
    · exact good (iv (kHi V s)) (by rw [desk, if_neg c0, if_neg c1, if_neg c2, if_pos c3, d3]) (by rw [model _ (hout _), if_neg c0, if_neg c1, if_neg c2, if_pos c3, sl_1, m3])
    by_cases c4 : what = 4
    · refine good (b2 (kOn V s)) (by rw [desk, if_neg c0, if_neg c1, if_neg c2, if_neg c3, if_pos c4, d4]; cases kOn V s <;> rfl) (by rw [model _ (hout _), if_neg c0, if_neg c1, if_neg c2, if_neg c3, if_pos c4, sl_1, m4]; cases kOn V s <;> rfl)
    refine sameL_thr h 2 (by decide) ?_ (y := 0) ?_
    · unfold f_L_look
      rw [desk, if_neg c0, if_neg c1, if_neg c2, if_neg c3, if_neg c4, bhl, if_neg s_NS1, if_pos rfl]
    · rw [model _ hM, if_neg c0, if_neg c1, if_neg c2, if_neg c3, if_neg c4]
theorem b_can {V : Vw} {S : QS} (h : IV V S) (a b n : Int32) : SameZ S (f_L_can a b n S) (f_X6_can a b n) := by
  cases hc : (okC a && okS b) with
  | false =>
    refine sameZ_thr h 1 (by decide) ?_ ?_ (y := 0)
    · unfold f_L_can f_X5_can
      rw [d_speedOf_no hc, bxl, bhl]
      rfl
    · unfold f_X6_can
      rw [stF_ok, ob, m_noSpeed, ob, hc, thr_n, if_neg b2t]
  | true =>
    have hc1 := hc
    rw [Bool.and_eq_true] at hc1
    obtain ⟨c, hc2, rfl⟩ := ok_car hc1.1
    obtain ⟨j, hj, rfl⟩ := ok_spd hc1.2
    have hr : 3 * c + j < 6 := by omega
    have er : 3 * iv (c : Int) + iv (j : Int) = iv ((3 * c + j : Nat) : Int) := by
      rw [c_3, iv_mul, iv_add]
      congr 1
    obtain ⟨S1, e1, i1, k1, l1, g1, -⟩ := h.ask (set := 0) (by decide) (w := -1) (by decide)
    have e1 : f_X5_reckon 0 (-1) S = some S1 := e1
    have desk : ∀ y : Bool, f_X3_isSeen (kp (3 * c + j)) n S1 = some (b2 y) → f_L_can (iv (c : Int)) (iv (j : Int)) n S = some (0, setL 67 (b2 y).toInt64 S1) := fun y hy => by
      unfold f_L_can f_X5_can
      rw [d_speedOf hc2 hj, bxr, e1, ob, hy, ob, zb_ok (b2_or _), ob, bhr]
      show (((if b2 y = 0 then (some 0) else (some 1)) : Option Int64).bind _) = _
      rw [zL, ob]
      rfl
    cases hn : okB (-50) 50 n with
    | false =>
      have hno : ¬ (-50 ≤ n.toInt ∧ n.toInt ≤ 50) := fun z => by rw [okB_iff.mpr z] at hn; cases hn
      have e2 : f_X3_isSeen (kp (3 * c + j)) n S1 = some (b2 false) := by
        unfold f_X3_isSeen
        simp only [fa_lt, zm50, z50]
        by_cases c1 : n.toInt < -50
        · rw [if_pos c1]; rfl
        · rw [if_neg c1, if_pos (by omega)]; rfl
      refine ⟨0, _, 0, setF 48 0 0 (setL 67 (b2 false).toInt64 S1), desk false e2, ?_, st_eq _ _ _ _, fun _ => ⟨by rw [st_2]; exact sl_eq _ _ _, Or.inl rfl⟩, V, (i1.out _).thr 0⟩
      unfold f_X6_can
      rw [stF_ok, ob, m_noSpeed, ob, hc, thr_y, if_pos b2f, m_in50, ob, hn, if_pos (by decide)]
    | true =>
      have hb := okB_iff.mp hn
      obtain ⟨v, hv⟩ : ∃ v, v = n.toInt := ⟨_, rfl⟩
      have en : n = iv v := by rw [hv, iv_of]
      have hv5 : -50 ≤ v ∧ v ≤ 50 := by omega
      obtain ⟨y, hy, hyP⟩ : ∃ y : Bool, f_X3_isSeen (kp (3 * c + j)) n S1 = some (b2 y) ∧ (y = true ↔ Sn V 0 (-1) (3 * c + j) v) := by
        rw [en, s_isSeen hv5]
        rcases g1 _ hr v hv5.1 hv5.2 with ⟨p1, p2⟩ | ⟨p1, p2⟩
        · exact ⟨true, by rw [p1]; rfl, fun _ => p2, fun _ => rfl⟩
        · exact ⟨false, by rw [p1]; rfl, fun z => (by cases z), fun z => absurd z p2⟩
      obtain ⟨S2, e2, i2, -, l67, h48, -, g2⟩ := ((i1.out (b2 y).toInt64).thr 0).go 0 (w := -1) (by decide)
      have e2 : f_X6_goes 0 (-1) (setF 48 0 0 (setL 67 (b2 y).toInt64 S1)) = some (b2 (decide (0 < nW V 0 (-1))), S2) := e2
      refine ⟨0, _, b2 y, S2, desk y hy, ?_, by rw [h48, st_eq], fun _ => ⟨by rw [l67, st_2]; exact sl_eq _ _ _, b2_or y⟩, V, i2⟩
      unfold f_X6_can
      rw [stF_ok, ob, m_noSpeed, ob, hc, thr_y, if_pos b2f, m_in50, ob, hn, if_neg (by decide)]
      show ((f_X6_goes 0 (-1) (setF 48 0 0 (setL 67 (b2 y).toInt64 S1))).bind _) = _
      rw [e2, ob]
      cases hw : decide (0 < nW V 0 (-1)) with
      | false =>
        have : y = false := by
          cases hy2 : y with
          | false => rfl
          | true =>
            have := Sn_pos (hyP.mp hy2)
            rw [decide_eq_true this] at hw
            cases hw
        rw [if_pos b2f, this]
        rfl
      | true =>
        rw [if_neg b2t, er, en, r_cell, ob, rdC (by omega) hv5, ob]
        rcases g2 _ hr v hv5.1 hv5.2 with ⟨p1, p2⟩ | ⟨p1, p2⟩
        · rw [p1, if_neg (by decide), hyP.mpr p2]
          rfl
        · have : y = false := by
            cases hy2 : y with
            | false => rfl
            | true => exact absurd (hyP.mp hy2) p2
          rw [p1, if_pos rfl, this]
          rfl
/-- how many skids count, of the first n -/
def onN (V : Vw) (n : Nat) : Nat := fb_sm (fun s => if kOn V s then 1 else 0) n
theorem onN_s (V : Vw) (n : Nat) : onN V (n + 1) = onN V n + (if kOn V n then 1 else 0) := fb_sm_succ _ _
theorem b_count {V : Vw} {S : QS} (h : IV V S) (a : Int32) : ∃ x S2, f_X5_count a S = some x ∧ f_X6_count a S = some (x, S2) ∧ Inv S2 := by
  obtain ⟨hV, hD, hC, hM, h18⟩ := id h
  have h12 : vNs V ≤ 12 := hV.2.2.1
  have hz := h.thr 0
  have e1 : f_X5_countingSkids S = some (iv (onN V (vNs V) : Int)) := by
    have main := loopN (fun fuel v s => lp_X5_countingSkids_4 S fuel s v) id (fun n s => s = iv (onN V n : Int)) (vNs V) (by omega)
      (fun fuel s hI => by
        show lp_X5_countingSkids_4 S (fuel + 1) s (iv (vNs V : Int)) = some s
        rw [lp_X5_countingSkids_4, hD.2.2.1, if_pos (y_le (a := (vNs V : Int)) (b := (vNs V : Int)) (Int.le_refl _))])
      (fun fuel n s hlt hI => by
        have hI : s = iv (onN V n : Int) := hI
        subst hI
        refine ⟨iv (onN V (n + 1) : Int), ?_, rfl⟩
        show lp_X5_countingSkids_4 S (fuel + 1) (iv (onN V n : Int)) (iv (n : Int)) = lp_X5_countingSkids_4 S fuel (iv (onN V (n + 1) : Int)) (iv ((n + 1 : Nat) : Int))
        rw [lp_X5_countingSkids_4, hD.2.2.1, if_neg (n_le (a := (vNs V : Int)) (b := (n : Int)) (by omega)), rq_iv (by omega), ob, (hD.2.2.2.2.1 n hlt).2.2.2.2, onN_s, iv_one]
        cases kOn V n with
        | false => rw [if_pos (by decide), ob, c_0, iv_add]; rfl
        | true => rw [if_neg (by decide), ob, c_1, iv_add]; rfl)
      0 rfl
    obtain ⟨s1, e, i⟩ := main
    have i : s1 = iv (onN V (vNs V) : Int) := i
    subst i
    unfold f_X5_countingSkids
    rw [c_0]
    rw [c_0] at e
    exact e
  have e2 : ∀ T : QS, MR V T → lp_X6_count_51 T FU 0 0 = some (iv (onN V (vNs V) : Int), T) := fun T hT => by
    have main := loopN (fun fuel v s => lp_X6_count_51 T fuel s v) (fun s => (s, T)) (fun n s => s = iv (onN V n : Int)) (vNs V) (by omega)
      (fun fuel s hI => by
        show lp_X6_count_51 T (fuel + 1) s (iv (vNs V : Int)) = some (s, T)
        rw [lp_X6_count_51, hT.2.2.1, if_pos (y_le (a := (vNs V : Int)) (b := (vNs V : Int)) (Int.le_refl _))])
      (fun fuel n s hlt hI => by
        have hI : s = iv (onN V n : Int) := hI
        subst hI
        refine ⟨iv (onN V (n + 1) : Int), ?_, rfl⟩
        show lp_X6_count_51 T (fuel + 1) (iv (onN V n : Int)) (iv (n : Int)) = lp_X6_count_51 T fuel (iv (onN V (n + 1) : Int)) (iv ((n + 1 : Nat) : Int))
        rw [lp_X6_count_51, hT.2.2.1, if_neg (n_le (a := (vNs V : Int)) (b := (n : Int)) (by omega)), rd_iv (by omega), ob, Int.toNat_natCast, (hT.2.2.2.2.1 n hlt).2.2.2.2, onN_s, iv_one]
        cases kOn V n with
        | false => rw [if_neg (by decide), ob, c_0, iv_add]; rfl
        | true => rw [if_pos (by decide), ob, c_1, iv_add]; rfl)
      0 rfl
    obtain ⟨s1, e, i⟩ := main
    have i : s1 = iv (onN V (vNs V) : Int) := i
    subst i
    rw [c_0]
    rw [c_0] at e
    exact e
  have hMz := hz.2.2.2.1
  unfold f_X5_count f_X6_count
  rw [stF_ok, ob]
  by_cases c0 : a = 0
  · exact ⟨_, _, by rw [if_pos c0], by rw [if_pos c0, hMz.2.2.1, hD.2.2.1], V, hz⟩
  by_cases c1 : a = 1
  · exact ⟨_, _, by rw [if_neg c0, if_pos c1, e1, ob], by rw [if_neg c0, if_pos c1]; exact e2 _ hMz, V, hz⟩
  by_cases c2 : a = 2
  · exact ⟨_, _, by rw [if_neg c0, if_neg c1, if_pos c2], by rw [if_neg c0, if_neg c1, if_pos c2, hMz.2.2.2.1, hD.2.2.2.1], V, hz⟩
  by_cases c3 : a = 3
  · exact ⟨_, _, by rw [if_neg c0, if_neg c1, if_neg c2, if_pos c3], by rw [if_neg c0, if_neg c1, if_neg c2, if_pos c3, c3, show (3 : Int32) - 3 = 0 by decide, rdM0 hMz, ob, hD.1.1], V, hz⟩
  by_cases c4 : a = 4
  · exact ⟨_, _, by rw [if_neg c0, if_neg c1, if_neg c2, if_neg c3, if_pos c4], by rw [if_neg c0, if_neg c1, if_neg c2, if_neg c3, if_pos c4, c4, show (4 : Int32) - 3 = 1 by decide, rdM1 hMz, ob, hD.1.2], V, hz⟩
  exact ⟨_, _, by rw [if_neg c0, if_neg c1, if_neg c2, if_neg c3, if_neg c4], by rw [if_neg c0, if_neg c1, if_neg c2, if_neg c3, if_neg c4], V, hz⟩
/-- AT ODDS, of the first n skids -/
def odP (V : Vw) (s : Nat) : Bool := kOn V s && decide (0 < nW V 0 (s : Int))
theorem or_bit (V : Vw) (p : Nat → Bool) {n : Nat} {x : Int32} (hx : x = if p n then nI (2 ^ n) else 0) : nI (bN p n) ||| x = nI (bN p (n + 1)) := by
  rw [hx, bN_s]
  cases p n with
  | false => rw [if_neg (by decide), if_neg (by decide), Nat.add_zero, ← nI_0, fa_or, Nat.or_zero]
  | true => rw [if_pos rfl, if_pos rfl, or_pow (bN_lt _ _)]
theorem b_odds {V : Vw} {S : QS} (h : IV V S) : ∃ x S1 S2, f_X5_odds S = some (x, S1) ∧ f_X6_odds S1 = some (x, S2) ∧ Inv S2 := by
  have h12 : vNs V ≤ 12 := h.1.2.2.1
  obtain ⟨S0, e0, i0, -, l0, -, -⟩ := h.ask (set := 0) (by decide) (w := -1) (by decide)
  have e0 : f_X5_reckon 0 (-1) S = some S0 := e0
  have model : ∀ T, IV V T → ∃ T1, IV V T1 ∧ f_X6_odds T = if decide (0 < nW V 0 (-1)) = true then some (0, T1) else lp_X6_odds_20 FU 0 0 T1 := fun T hT => by
    obtain ⟨T1, e2, i2, -, -, -, -, -⟩ := (hT.thr 0).go 0 (w := -1) (by decide)
    have e2 : f_X6_goes 0 (-1) (setF 48 0 0 T) = some (b2 (decide (0 < nW V 0 (-1))), T1) := e2
    refine ⟨T1, i2, ?_⟩
    unfold f_X6_odds
    rw [stF_ok, ob, e2, ob]
    cases decide (0 < nW V 0 (-1)) <;> rfl
  cases hw : decide (0 < nW V 0 (-1)) with
  | true =>
    obtain ⟨T1, i1, e1⟩ := model S0 i0
    refine ⟨0, S0, T1, ?_, by rw [e1, hw, if_pos rfl], V, i1⟩
    unfold f_X5_odds
    rw [e0, ob, l0, le0_b nW_63, hw, if_pos rfl]
  | false =>
    have main := loopN (fun fuel v (s : Int32 × QS) => lp_X5_odds_24 fuel s.1 v s.2) id (fun n s => s.1 = nI (bN (odP V) n) ∧ IV V s.2) (vNs V) (by omega)
      (fun fuel s hI => by
        show lp_X5_odds_24 (fuel + 1) s.1 (iv (vNs V : Int)) s.2 = some s
        rw [lp_X5_odds_24, hI.2.2.1.2.2.1, if_pos (y_le (a := (vNs V : Int)) (b := (vNs V : Int)) (Int.le_refl _))])
      (fun fuel n s hlt hI => by
        obtain ⟨x, T⟩ := s
        obtain ⟨hx, hT⟩ := hI
        have hx : x = nI (bN (odP V) n) := hx
        have hT : IV V T := hT
        subst hx
        have d4 := (hT.2.1.2.2.2.2.1 n hlt).2.2.2.2
        cases hon : kOn V n with
        | false =>
          refine ⟨(nI (bN (odP V) (n + 1)), T), ?_, rfl, hT⟩
          show lp_X5_odds_24 (fuel + 1) (nI (bN (odP V) n)) (iv (n : Int)) T = lp_X5_odds_24 fuel (nI (bN (odP V) (n + 1))) (iv ((n + 1 : Nat) : Int)) T
          have eo : odP V n = false := by unfold odP; rw [hon, Bool.false_and]
          rw [lp_X5_odds_24, hT.2.1.2.2.1, if_neg (n_le (a := (vNs V : Int)) (b := (n : Int)) (by omega)), rq_iv (by omega), ob, d4, hon, if_pos (by decide), bN_s, eo, if_neg (by decide), Nat.add_zero, iv_one]
          rfl
        | true =>
          obtain ⟨T1, e1, i1, -, l1, -, -⟩ := hT.ask (set := 0) (by decide) (w := (n : Int)) (by omega)
          have e1 : f_X5_reckon 0 (iv (n : Int)) T = some T1 := e1
          refine ⟨(nI (bN (odP V) (n + 1)), T1), ?_, rfl, i1⟩
          show lp_X5_odds_24 (fuel + 1) (nI (bN (odP V) n)) (iv (n : Int)) T = lp_X5_odds_24 fuel (nI (bN (odP V) (n + 1))) (iv ((n + 1 : Nat) : Int)) T1
          rw [lp_X5_odds_24, hT.2.1.2.2.1, if_neg (n_le (a := (vNs V : Int)) (b := (n : Int)) (by omega)), rq_iv (by omega), ob, d4, hon, if_neg (by decide), e1, ob, l1, le0_b nW_63, shl_iv (by omega), iv_one]
          have eo : odP V n = decide (0 < nW V 0 (n : Int)) := by unfold odP; rw [hon, Bool.true_and]
          have fin : ∀ y : Int32, y = (if odP V n then nI (2 ^ n) else 0) → lp_X5_odds_24 fuel (nI (bN (odP V) n) ||| y) (iv ((n : Int) + 1)) T1 = lp_X5_odds_24 fuel (nI (bN (odP V) (n + 1))) (iv ((n + 1 : Nat) : Int)) T1 := fun y hy => by
            rw [or_bit V (odP V) hy]
            rfl
          cases hp : decide (0 < nW V 0 (n : Int)) with
          | true => rw [if_pos rfl, ob]; exact fin _ (by rw [eo, hp, if_pos rfl])
          | false => rw [if_neg (by decide), ob]; exact fin _ (by rw [eo, hp, if_neg (by decide)]))
      (0, S0) ⟨rfl, i0⟩
    obtain ⟨⟨x, S1⟩, e1, hx, i1⟩ := main
    have hx : x = nI (bN (odP V) (vNs V)) := hx
    have i1 : IV V S1 := i1
    subst hx
    obtain ⟨T0, j0, eT⟩ := model S1 i1
    have main2 := loopN (fun fuel v (s : Int32 × QS) => lp_X6_odds_20 fuel s.1 v s.2) id (fun n s => s.1 = nI (bN (odP V) n) ∧ IV V s.2) (vNs V) (by omega)
      (fun fuel s hI => by
        show lp_X6_odds_20 (fuel + 1) s.1 (iv (vNs V : Int)) s.2 = some s
        rw [lp_X6_odds_20, hI.2.2.2.2.1.2.2.1, if_pos (y_le (a := (vNs V : Int)) (b := (vNs V : Int)) (Int.le_refl _))])
      (fun fuel n s hlt hI => by
        obtain ⟨x, T⟩ := s
        obtain ⟨hx, hT⟩ := hI
        have hx : x = nI (bN (odP V) n) := hx
        have hT : IV V T := hT
        subst hx
        have m4 := (hT.2.2.2.1.2.2.2.2.1 n hlt).2.2.2.2
        cases hon : kOn V n with
        | false =>
          refine ⟨(nI (bN (odP V) (n + 1)), T), ?_, rfl, hT⟩
          show lp_X6_odds_20 (fuel + 1) (nI (bN (odP V) n)) (iv (n : Int)) T = lp_X6_odds_20 fuel (nI (bN (odP V) (n + 1))) (iv ((n + 1 : Nat) : Int)) T
          have eo : odP V n = false := by unfold odP; rw [hon, Bool.false_and]
          rw [lp_X6_odds_20, hT.2.2.2.1.2.2.1, if_neg (n_le (a := (vNs V : Int)) (b := (n : Int)) (by omega)), rd_iv (by omega), ob, Int.toNat_natCast, m4, hon, if_neg (by decide), ob]
          show lp_X6_odds_20 fuel (nI (bN (odP V) n) ||| 0) (iv (n : Int) + 1) T = _
          rw [or_bit V (odP V) (x := 0) (by rw [eo, if_neg (by decide)]), iv_one]
          rfl
        | true =>
          obtain ⟨T1, e1, i1, -, -, -, -, -⟩ := hT.go 0 (w := (n : Int)) (by omega)
          have e1 : f_X6_goes 0 (iv (n : Int)) T = some (b2 (decide (0 < nW V 0 (n : Int))), T1) := e1
          refine ⟨(nI (bN (odP V) (n + 1)), T1), ?_, rfl, i1⟩
          show lp_X6_odds_20 (fuel + 1) (nI (bN (odP V) n)) (iv (n : Int)) T = lp_X6_odds_20 fuel (nI (bN (odP V) (n + 1))) (iv ((n + 1 : Nat) : Int)) T1
          have eo : odP V n = decide (0 < nW V 0 (n : Int)) := by unfold odP; rw [hon, Bool.true_and]
          rw [lp_X6_odds_20, hT.2.2.2.1.2.2.1, if_neg (n_le (a := (vNs V : Int)) (b := (n : Int)) (by omega)), rd_iv (by omega), ob, Int.toNat_natCast, m4, hon, if_pos (by decide), e1, ob, shl_iv (by omega)]
          have fin : ∀ y : Int32, y = (if odP V n then nI (2 ^ n) else 0) → lp_X6_odds_20 fuel (nI (bN (odP V) n) ||| y) (iv (n : Int) + 1) T1 = lp_X6_odds_20 fuel (nI (bN (odP V) (n + 1))) (iv ((n + 1 : Nat) : Int)) T1 := fun y hy => by
            rw [or_bit V (odP V) hy, iv_one]
            rfl
          cases hp : decide (0 < nW V 0 (n : Int)) with
          | true => exact fin _ (by rw [eo, hp, if_pos rfl])
          | false => exact fin _ (by rw [eo, hp, if_neg (by decide)]))
      (0, T0) ⟨rfl, j0⟩
    obtain ⟨⟨x, S2⟩, e2, hx, i2⟩ := main2
    have hx : x = nI (bN (odP V) (vNs V)) := hx
    have i2 : IV V S2 := i2
    subst hx
    refine ⟨nI (bN (odP V) (vNs V)), S1, S2, ?_, ?_, V, i2⟩
    · unfold f_X5_odds
      rw [e0, ob, l0, le0_b nW_63, hw, if_neg (by decide)]
      rw [c_0]
      rw [← c_0] at e1 ⊢
      exact e1
    · rw [eT, hw, if_neg (by decide)]
      exact e2
/-! the fewest, and which -/
theorem b_best {V : Vw} {S : QS} (h : IV V S) {S1 : QS} (hP : MinP (S1.1 25 3) (PW V 0 (-1))) {v : Int32} (hB : Best (WM V) (2 ^ vNt V) v) : (S1.1 25 3 = -1 ∧ v = -1) ∨ ∃ m, m < 1024 ∧ v = nI m ∧ S1.1 25 3 = iv ((1024 * pc m + m : Nat) : Int) := by
  have hp := pow_le10 h.1
  rcases hP with ⟨p1, p2⟩ | ⟨x, p1, p2, p3, p4⟩
  · rcases hB with ⟨b1, -⟩ | ⟨m, -, -, b3, -⟩
    · exact Or.inl ⟨p1, b1⟩
    · exact absurd ((PW_WM h.1 _).mpr ⟨m, b3, rfl⟩) (p2 _)
  · obtain ⟨m0, q1, q2⟩ := (PW_WM h.1 x).mp p3
    have hm0 := WM_lt q1
    rcases hB with ⟨-, b2⟩ | ⟨m, b1, b2, b3, b4⟩
    · exact absurd q1 (b2 m0 hm0)
    · have c1 := b4 m0 hm0 q1
      have c2 := p4 _ ((PW_WM h.1 _).mpr ⟨m, b3, rfl⟩)
      have e : m0 = m := by
        rcases c1 with c1 | ⟨c1, c3⟩
        · omega
        · omega
      subst e
      exact Or.inr ⟨m0, by omega, b2, by rw [p1, q2]⟩
theorem pm_div {m : Nat} (h : m < 1024) : dvI (iv ((1024 * pc m + m : Nat) : Int)) 1024 = some (nI (pc m)) ∧ rmI (iv ((1024 * pc m + m : Nat) : Int)) 1024 = some (nI m) := by
  have hp := pc_le m
  have e : (((1024 * pc m + m : Nat) : Int)).tdiv 1024 = (pc m : Int) := by
    rw [show (1024 : Int) = ((1024 : Nat) : Int) from rfl, ← Int.ofNat_tdiv]
    congr 1
    omega
  constructor
  · rw [c_1024, dv_iv (by omega) (by omega), e, iv_nI]
  · rw [c_1024, rm_iv (by omega) (by omega), e, iv_nI]
    congr 2
    omega
theorem b_wrong {V : Vw} {S : QS} (h : IV V S) : ∃ x S1 S2, f_X5_wrong S = some (x, S1) ∧ f_X6_wrong S1 = some (x, S2) ∧ Inv S2 := by
  obtain ⟨S1, e1, i1, -, -, -, hP⟩ := h.ask (set := 0) (by decide) (w := -1) (by decide)
  have e1 : f_X5_reckon 0 (-1) S = some S1 := e1
  have iz := i1.thr 0
  obtain ⟨v, S2, e2, hB, lo, ll, hM2, h18, -, -⟩ := r_fewest iz.1 iz.2.2.2.1 iz.2.2.2.2
  have i2 : IV V S2 := iz.md lo (ll 25 (by decide)) hM2 h18
  unfold f_X5_wrong f_X6_wrong
  rw [e1, ob]
  rcases b_best h hP hB with ⟨q1, q2⟩ | ⟨m, m1, q2, q1⟩
  · refine ⟨-1, S1, S2, by rw [q1, if_pos rfl], ?_, V, i2⟩
    rw [stF_ok, ob, e2, ob, q2, if_neg (show ¬ (0 : Int32) ≤ -1 by decide)]
  · have hp := pc_le m
    refine ⟨nI (pc m), S1, S2, ?_, ?_, V, i2⟩
    · rw [q1, if_neg (iv_nm1 (by omega)), (pm_div m1).1, ob]
    · rw [stF_ok, ob, e2, ob, q2, if_pos (show (0 : Int32) ≤ nI m by rw [iv_nI, c_0]; exact y_le (by omega)), r_bits m1, ob]
theorem b_which {V : Vw} {S : QS} (h : IV V S) : ∃ x S1 S2, f_X5_which S = some (x, S1) ∧ f_X6_which S1 = some (x, S2) ∧ Inv S2 := by
  obtain ⟨S1, e1, i1, -, -, -, hP⟩ := h.ask (set := 0) (by decide) (w := -1) (by decide)
  have e1 : f_X5_reckon 0 (-1) S = some S1 := e1
  have iz := i1.thr 0
  obtain ⟨v, S2, e2, hB, lo, ll, hM2, h18, -, -⟩ := r_fewest iz.1 iz.2.2.2.1 iz.2.2.2.2
  have i2 : IV V S2 := iz.md lo (ll 25 (by decide)) hM2 h18
  unfold f_X5_which f_X6_which
  rw [e1, ob]
  rcases b_best h hP hB with ⟨q1, q2⟩ | ⟨m, m1, q2, q1⟩
  · refine ⟨-1, S1, S2, by rw [q1, if_pos rfl], ?_, V, i2⟩
    rw [stF_ok, ob, e2, ob, q2]
  · have hp := pc_le m
    refine ⟨nI m, S1, S2, ?_, ?_, V, i2⟩
    · rw [q1, if_neg (iv_nm1 (by omega)), (pm_div m1).2, ob]
    · rw [stF_ok, ob, e2, ob, q2]
