/-! BOTH SIDES: what is asked -/
theorem IV.ask {V : Vw} {S : QS} (h : IV V S) {set : Nat} (hset : set < 1024) {w : Int} (hw : -1 ≤ w ∧ w ≤ 100) : ∃ S1, f_X5_reckon (nI set) (iv w) S = some S1 ∧ IV V S1 ∧ (∀ k, 48 ≤ k → S1.1 k = S.1 k ∧ S1.2 k = S.2 k) ∧ S1.2 25 = lN (nW V set w) ∧
    (∀ r, r < 6 → ∀ u, -50 ≤ u → u ≤ 50 → Flag (S1.1 (kp r + 2) (ix u)) (Sn V set w r u)) ∧ MinP (S1.1 25 3) (PW V set w) := by
  obtain ⟨hV, hD, hC, hM, h18⟩ := h
  obtain ⟨S1, e1, d1, k1, r1, c1⟩ := s_reckon5 hV hset hw hD hC
  obtain ⟨q1, q2, q3⟩ := res_at hV r1
  exact ⟨S1, e1, ⟨hV, hD.dk hV d1, c1, hM.up (fun k hk => (k1 k hk).1), by rw [(k1 48 (by decide)).1]; exact h18⟩, k1, q1, q2, q3⟩
theorem IV.go {V : Vw} {S : QS} (h : IV V S) (set : Nat) {w : Int} (hw : -1 ≤ w ∧ w ≤ 100) : ∃ S1, f_X6_goes (nI set) (iv w) S = some (b2 (decide (0 < nW V set w)), S1) ∧ IV V S1 ∧ (∀ k, k < 48 → S1.1 k = S.1 k) ∧ S1.2 67 = S.2 67 ∧ S1.1 48 = S.1 48 ∧ S1.2 48 = lN (nW V set w) ∧
    ∀ r, r < 6 → ∀ u, -50 ≤ u → u ≤ 50 → Flag (S1.1 61 (cx r u)) (Sn V set w r u) := by
  obtain ⟨S1, e1, f1, l1, g1, -⟩ := r_goes (set := set) (w := w) (wd := false) h.1 hw h.2.2.2.1 h.2.2.2.2 (fun z => by cases z)
  have lo : ∀ k, k < 60 → S1.1 k = S.1 k := fun k hk => f1.1 k (by simp; omega)
  exact ⟨S1, e1, h.md (fun k hk => lo k (by omega)) (f1.2 25 (by decide)) (h.2.2.2.1.kp (fun k h1 h2 => lo k (by omega)) (by rw [lo 48 (by decide)]) (by rw [lo 48 (by decide)])) (by rw [lo 48 (by decide)]; exact h.2.2.2.2), fun k hk => lo k (by omega), f1.2 67 (by decide), lo 48 (by decide), l1, g1⟩
theorem nW_63 {V : Vw} {set : Nat} {w : Int} : nW V set w < 2 ^ 63 := by
  have := nW_lt (V := V) (set := set) (w := w)
  omega
theorem Sn_pos {V : Vw} {set : Nat} {w : Int} {r : Nat} {u : Int} (h : Sn V set w r u) : 0 < nW V set w := by
  have key : ∀ a b p, TW V set w a b p → 0 < nW V set w := by
    rintro a b p ⟨ha, hb, hp, hw, hn⟩
    exact sm_pos.mpr ⟨a, ha.1, ha.2, sm_pos.mpr ⟨b, hb.1, hb.2, sm_pos.mpr ⟨p, hp.1, hp.2, by rw [hw, if_pos rfl]; exact hn⟩⟩⟩
  match r, h with
  | 0, ⟨v, _, ⟨b, p, q⟩, _⟩ => exact key _ _ _ q
  | 1, ⟨b, p, q⟩ => exact key _ _ _ q
  | 2, ⟨a, b, q⟩ => exact key _ _ _ q
  | 3, ⟨v, _, ⟨a, p, q⟩, _⟩ => exact key _ _ _ q
  | 4, ⟨a, p, q⟩ => exact key _ _ _ q
  | _ + 5, ⟨a, b, p, q, _⟩ => exact key _ _ _ q
theorem nW_ex {V : Vw} {set : Nat} {w : Int} (h : 0 < nW V set w) : ∃ a b p, TW V set w a b p := by
  obtain ⟨a, a1, a2, h⟩ := sm_pos.mp h
  obtain ⟨b, b1, b2, h⟩ := sm_pos.mp h
  obtain ⟨p, p1, p2, h⟩ := sm_pos.mp h
  cases hw : wq V set w a b p with
  | false => rw [hw, if_neg (by decide)] at h; exact absurd h (Nat.lt_irrefl 0)
  | true => rw [hw, if_pos rfl] at h; exact ⟨a, b, p, ⟨a1, a2⟩, ⟨b1, b2⟩, ⟨p1, p2⟩, hw, h⟩
theorem nq_ex {V : Vw} {set : Nat} {w : Int} {c : Nat} {a : Int} (h : 0 < nq V set w c a) : ∃ f, (-50 ≤ f ∧ f ≤ 50) ∧ fq V set w c f a = true := by
  unfold nq at h
  split at h
  · obtain ⟨f, f1, f2, h⟩ := sm_pos.mp h
    cases hf : fq V set w c f a with
    | false => rw [hf, if_neg (by decide)] at h; exact absurd h (Nat.lt_irrefl 0)
    | true => exact ⟨f, ⟨f1, f2⟩, hf⟩
  · exact absurd h (Nat.lt_irrefl 0)
/-- with a way every speed shows a number -/
theorem Sn_ex {V : Vw} (hV : VOk V) {set : Nat} {w : Int} (h : 0 < nW V set w) {r : Nat} (hr : r < 6) : ∃ u, (-50 ≤ u ∧ u ≤ 50) ∧ Sn V set w r u := by
  obtain ⟨a, b, p, hT⟩ := nW_ex h
  obtain ⟨ha, hb, hp, hw, hn⟩ := id hT
  have n0 : 0 < nq V set w 0 a := Nat.pos_of_mul_pos_right hn
  have n1 : 0 < nq V set w 1 b := Nat.pos_of_mul_pos_left hn
  obtain ⟨f, f1, f2⟩ := nq_ex n0
  obtain ⟨g, g1, g2⟩ := nq_ex n1
  have hq : -50 ≤ qv V a b p ∧ qv V a b p ≤ 50 := by
    have h := hw
    unfold wq at h
    simp only [Bool.and_eq_true, decide_eq_true_eq] at h
    exact lq_50q hV h.2.2.2.2.1
  rcases (show r = 0 ∨ r = 1 ∨ r = 2 ∨ r = 3 ∨ r = 4 ∨ r = 5 by omega) with rfl | rfl | rfl | rfl | rfl | rfl
  · exact ⟨f, f1, a, ha, ⟨b, p, hT⟩, f2⟩
  · exact ⟨a, ha, b, p, hT⟩
  · exact ⟨p, hp, a, b, hT⟩
  · exact ⟨g, g1, b, hb, ⟨a, p, hT⟩, g2⟩
  · exact ⟨b, hb, a, p, hT⟩
  · exact ⟨_, hq, a, b, p, hT, rfl⟩
theorem cmp_self (x : Int64) : lg_cmp x x = 0 := by
  unfold lg_cmp
  simp
theorem b_ways {V : Vw} {S : QS} (h : IV V S) : ∃ x S1 S2, f_X5_ways S = some (x, S1) ∧ f_X6_ways S1 = some (x, S2) ∧ Inv S2 := by
  obtain ⟨S1, e1, i1, k1, l1, -, -⟩ := h.ask (set := 0) (by decide) (w := -1) (by decide)
  obtain ⟨S2, e2, i2, -, -, -, l2, -⟩ := (i1.thr 0).go 0 (w := -1) (by decide)
  refine ⟨lN (nW V 0 (-1)), S1, S2, ?_, ?_, V, i2⟩
  · unfold f_X5_ways
    have e1 : f_X5_reckon 0 (-1) S = some S1 := e1
    rw [e1, ob, l1]
  · unfold f_X6_ways
    have e2 : f_X6_goes 0 (-1) (setF 48 0 0 S1) = some (b2 (decide (0 < nW V 0 (-1))), S2) := e2
    rw [stF_ok, ob, e2, ob, l2]
theorem and_set (a : Int32) (m : Nat) : a &&& nI m = nI (a.toBitVec.toNat &&& m) := by
  apply Int32.toBitVec_inj.1
  show a.toBitVec &&& BitVec.ofNat 32 m = BitVec.ofNat 32 (a.toBitVec.toNat &&& m)
  apply BitVec.eq_of_getLsbD_eq
  intro i hi
  simp [hi]
/-- all tales, as a set -/
def allT (V : Vw) : Nat := 2 ^ vNt V - 1
theorem allT_lt {V : Vw} (hV : VOk V) : allT V < 1024 := by
  have := pow_le10 hV
  have := Nat.two_pow_pos (vNt V)
  unfold allT
  omega
theorem all_iv {V : Vw} (hV : VOk V) : ((1 : Int32) <<< (iv (vNt V : Int) &&& 31)) - 1 = nI (allT V) := by
  have h1 := hV.2.2.2.2.1
  have h2 := Nat.two_pow_pos (vNt V)
  rw [shl_iv (by omega), c_1, iv_nI, iv_nI, iv_sub]
  unfold allT
  congr 1
  omega
theorem d_all {V : Vw} {S : QS} (h : IV V S) : f_X5_allTales S = some (nI (allT V)) := by
  unfold f_X5_allTales
  rw [h.2.1.2.2.2.1, all_iv h.1]
theorem m_all {V : Vw} {S : QS} (h : IV V S) : f_X6_all S = some (nI (allT V)) := by
  unfold f_X6_all
  rw [h.2.2.2.1.2.2.2.1, all_iv h.1]
theorem le0_b {n : Nat} (h : n < 2 ^ 63) {α : Type} (x y : α) : (if (lg_cmp (lN n) 0) ≤ 0 then x else y) = if decide (0 < n) = true then y else x := by
  by_cases c : n = 0
  · rw [if_pos ((lN_le0 h).mpr c), if_neg (by simp [c])]
  · rw [if_neg (fun z => c ((lN_le0 h).mp z)), if_pos (by simp; omega)]
theorem b_fit {V : Vw} {S : QS} (h : IV V S) (a : Int32) : ∃ x S1 S2, f_X5_fit a S = some (x, S1) ∧ f_X6_fit a S1 = some (x, S2) ∧ Inv S2 := by
  have hlt := allT_lt h.1
  have hset : a.toBitVec.toNat &&& allT V < 1024 := by
    have h2 : a.toBitVec.toNat &&& allT V ≤ allT V := Nat.and_le_right
    omega
  obtain ⟨S1, e1, i1, k1, l1, -, -⟩ := h.ask hset (w := -1) (by decide)
  have i1z := i1.thr 0
  obtain ⟨S2, e2, i2, -, -, -, l2, -⟩ := i1z.go (a.toBitVec.toNat &&& allT V) (w := -1) (by decide)
  refine ⟨b2 (decide (0 < nW V (a.toBitVec.toNat &&& allT V) (-1))), S1, S2, ?_, ?_, V, i2⟩
  · unfold f_X5_fit
    rw [d_all h, ob, and_set, c_m1, e1, ob, l1, le0_b nW_63]
    cases decide (0 < nW V (a.toBitVec.toNat &&& allT V) (-1)) <;> rfl
  · unfold f_X6_fit
    rw [stF_ok, ob, m_all i1z, ob, and_set, c_m1, e2, ob, zb_ok (b2_or _), ob]
/-! the least and the greatest -/
def LeastP (P : Int → Prop) (u : Int) : Prop := (-50 ≤ u ∧ u ≤ 50) ∧ P u ∧ ∀ x, -50 ≤ x → x < u → ¬ P x
def MostP (P : Int → Prop) (u : Int) : Prop := (-50 ≤ u ∧ u ≤ 50) ∧ P u ∧ ∀ x, u < x → x ≤ 50 → ¬ P x
theorem LeastP.one {P : Int → Prop} {u v : Int} (h : LeastP P u) (h2 : LeastP P v) : u = v := by
  rcases (show u < v ∨ u = v ∨ v < u by omega) with c | c | c
  · exact absurd h.2.1 (h2.2.2 u h.1.1 c)
  · exact c
  · exact absurd h2.2.1 (h.2.2 v h2.1.1 c)
theorem MostP.one {P : Int → Prop} {u v : Int} (h : MostP P u) (h2 : MostP P v) : u = v := by
  rcases (show u < v ∨ u = v ∨ v < u by omega) with c | c | c
  · exact absurd h2.2.1 (h.2.2 v c h2.1.2)
  · exact c
  · exact absurd h.2.1 (h2.2.2 u c h.1.2)
theorem s_leastSeen {k : Nat} {S : QS} {P : Int → Prop} (hF : ∀ u, -50 ≤ u → u ≤ 50 → Flag (S.1 (k + 2) (ix u)) (P u)) (hx : ∃ u, (-50 ≤ u ∧ u ≤ 50) ∧ P u) : ∃ u, f_X3_leastSeen k S = some (iv u) ∧ LeastP P u := by
  have key : ∀ (d fuel : Nat) (v : Int), -50 ≤ v → v + d = 50 → d < fuel → (∀ x, -50 ≤ x → x < v → ¬ P x) → ∃ u, lp_X3_leastSeen_3 k S fuel (iv v) = some (iv u) ∧ LeastP P u := by
    intro d
    induction d with
    | zero =>
      intro fuel v h1 h2 h3 h4
      obtain ⟨f1, rfl⟩ : ∃ f1, fuel = f1 + 1 := ⟨fuel - 1, by omega⟩
      have e : v = 50 := by omega
      subst e
      refine ⟨50, by rw [lp_X3_leastSeen_3, if_pos (by decide)]; rfl, by omega, ?_, h4⟩
      obtain ⟨u, u1, u2⟩ := hx
      by_cases c : u = 50
      · rw [← c]; exact u2
      · exact absurd u2 (h4 u u1.1 (by omega))
    | succ d ih =>
      intro fuel v h1 h2 h3 h4
      obtain ⟨f1, rfl⟩ : ∃ f1, fuel = f1 + 1 := ⟨fuel - 1, by omega⟩
      have hv : -50 ≤ v ∧ v ≤ 50 := by omega
      rw [lp_X3_leastSeen_3, c_50, if_neg (n_le (a := 50) (b := v) (by omega)), s_isSeen hv, ob, iv_one]
      rcases hF v hv.1 hv.2 with ⟨q1, q2⟩ | ⟨q1, q2⟩
      · exact ⟨v, by rw [q1]; rfl, hv, q2, h4⟩
      · obtain ⟨u, u1, u2⟩ := ih f1 (v + 1) (by omega) (by omega) (by omega) (fun x x1 x2 => by
          by_cases c : x = v
          · rw [c]; exact q2
          · exact h4 x x1 (by omega))
        exact ⟨u, by rw [q1]; exact u1, u2⟩
  unfold f_X3_leastSeen
  rw [c_m50]
  exact key 100 FU (-50) (by omega) (by omega) (by decide) (fun x _ _ => by omega)
theorem s_greatestSeen {k : Nat} {S : QS} {P : Int → Prop} (hF : ∀ u, -50 ≤ u → u ≤ 50 → Flag (S.1 (k + 2) (ix u)) (P u)) (hx : ∃ u, (-50 ≤ u ∧ u ≤ 50) ∧ P u) : ∃ u, f_X3_greatestSeen k S = some (iv u) ∧ MostP P u := by
  have key : ∀ (d fuel : Nat) (v : Int), v ≤ 50 → v = -50 + d → d < fuel → (∀ x, v < x → x ≤ 50 → ¬ P x) → ∃ u, lp_X3_greatestSeen_3 k S fuel (iv v) = some (iv u) ∧ MostP P u := by
    intro d
    induction d with
    | zero =>
      intro fuel v h1 h2 h3 h4
      obtain ⟨f1, rfl⟩ : ∃ f1, fuel = f1 + 1 := ⟨fuel - 1, by omega⟩
      have e : v = -50 := by omega
      subst e
      refine ⟨-50, by rw [lp_X3_greatestSeen_3, if_pos (by decide)]; rfl, by omega, ?_, h4⟩
      obtain ⟨u, u1, u2⟩ := hx
      by_cases c : u = -50
      · rw [← c]; exact u2
      · exact absurd u2 (h4 u (by omega) u1.2)
    | succ d ih =>
      intro fuel v h1 h2 h3 h4
      obtain ⟨f1, rfl⟩ : ∃ f1, fuel = f1 + 1 := ⟨fuel - 1, by omega⟩
      have hv : -50 ≤ v ∧ v ≤ 50 := by omega
      rw [lp_X3_greatestSeen_3, c_m50, if_neg (n_le (a := v) (b := -50) (by omega)), s_isSeen hv, ob, iv_m1]
      rcases hF v hv.1 hv.2 with ⟨q1, q2⟩ | ⟨q1, q2⟩
      · exact ⟨v, by rw [q1]; rfl, hv, q2, h4⟩
      · obtain ⟨u, u1, u2⟩ := ih f1 (v - 1) (by omega) (by omega) (by omega) (fun x x1 x2 => by
          by_cases c : x = v
          · rw [c]; exact q2
          · exact h4 x (by omega) x2)
        exact ⟨u, by rw [q1]; exact u1, u2⟩
  unfold f_X3_greatestSeen
  rw [c_50]
  exact key 100 FU 50 (by omega) (by omega) (by decide) (fun x _ _ => by omega)
theorem r_least {c j : Nat} (hc : c < 2) (hj : j < 3) {q : Int32 × QS} {P : Int → Prop} (hF : ∀ u, -50 ≤ u → u ≤ 50 → Flag (q.2.1 61 (cx (3 * c + j) u)) (P u)) (hx : ∃ u, (-50 ≤ u ∧ u ≤ 50) ∧ P u) : ∃ u, lp_X6_span_67 (iv (c : Int)) (iv (j : Int)) 0 q FU (-50) = some (iv u, q.2) ∧ LeastP P u := by
  have er : 3 * iv (c : Int) + iv (j : Int) = iv ((3 * c + j : Nat) : Int) := by
    rw [c_3, iv_mul, iv_add]
    congr 1
  have key : ∀ (d fuel : Nat) (v : Int), -50 ≤ v → v + d = 50 → d < fuel → (∀ x, -50 ≤ x → x < v → ¬ P x) → ∃ u, lp_X6_span_67 (iv (c : Int)) (iv (j : Int)) 0 q fuel (iv v) = some (iv u, q.2) ∧ LeastP P u := by
    intro d
    induction d with
    | zero =>
      intro fuel v h1 h2 h3 h4
      obtain ⟨f1, rfl⟩ : ∃ f1, fuel = f1 + 1 := ⟨fuel - 1, by omega⟩
      have e : v = 50 := by omega
      subst e
      have hP : P 50 := by
        obtain ⟨u, u1, u2⟩ := hx
        by_cases c : u = 50
        · rw [← c]; exact u2
        · exact absurd u2 (h4 u u1.1 (by omega))
      refine ⟨50, ?_, by omega, hP, h4⟩
      rw [lp_X6_span_67, er, r_cell, ob, rdC (by omega) (by omega), ob]
      rcases hF 50 (by omega) (by omega) with ⟨q1, q2⟩ | ⟨q1, q2⟩
      · rw [q1, if_neg (by decide)]
      · exact absurd hP q2
    | succ d ih =>
      intro fuel v h1 h2 h3 h4
      obtain ⟨f1, rfl⟩ : ∃ f1, fuel = f1 + 1 := ⟨fuel - 1, by omega⟩
      have hv : -50 ≤ v ∧ v ≤ 50 := by omega
      rw [lp_X6_span_67, er, r_cell, ob, rdC (by omega) hv, ob, if_pos (rfl : (0 : Int32) = 0), ob, iv_one]
      rcases hF v hv.1 hv.2 with ⟨q1, q2⟩ | ⟨q1, q2⟩
      · exact ⟨v, by rw [q1, if_neg (by decide)], hv, q2, h4⟩
      · obtain ⟨u, u1, u2⟩ := ih f1 (v + 1) (by omega) (by omega) (by omega) (fun x x1 x2 => by
          by_cases c : x = v
          · rw [c]; exact q2
          · exact h4 x x1 (by omega))
        exact ⟨u, by rw [q1, if_pos rfl]; exact u1, u2⟩
  rw [c_m50]
  exact key 100 FU (-50) (by omega) (by omega) (by decide) (fun x _ _ => by omega)
theorem r_most {c j : Nat} (hc : c < 2) (hj : j < 3) {q : Int32 × QS} {P : Int → Prop} (hF : ∀ u, -50 ≤ u → u ≤ 50 → Flag (q.2.1 61 (cx (3 * c + j) u)) (P u)) (hx : ∃ u, (-50 ≤ u ∧ u ≤ 50) ∧ P u) : ∃ u, lp_X6_span_67 (iv (c : Int)) (iv (j : Int)) 1 q FU 50 = some (iv u, q.2) ∧ MostP P u := by
  have er : 3 * iv (c : Int) + iv (j : Int) = iv ((3 * c + j : Nat) : Int) := by
    rw [c_3, iv_mul, iv_add]
    congr 1
  have key : ∀ (d fuel : Nat) (v : Int), v ≤ 50 → v = -50 + d → d < fuel → (∀ x, v < x → x ≤ 50 → ¬ P x) → ∃ u, lp_X6_span_67 (iv (c : Int)) (iv (j : Int)) 1 q fuel (iv v) = some (iv u, q.2) ∧ MostP P u := by
    intro d
    induction d with
    | zero =>
      intro fuel v h1 h2 h3 h4
      obtain ⟨f1, rfl⟩ : ∃ f1, fuel = f1 + 1 := ⟨fuel - 1, by omega⟩
      have e : v = -50 := by omega
      subst e
      have hP : P (-50) := by
        obtain ⟨u, u1, u2⟩ := hx
        by_cases c : u = -50
        · rw [← c]; exact u2
        · exact absurd u2 (h4 u (by omega) u1.2)
      refine ⟨-50, ?_, by omega, hP, h4⟩
      rw [lp_X6_span_67, er, r_cell, ob, rdC (by omega) (by omega), ob]
      rcases hF (-50) (by omega) (by omega) with ⟨q1, q2⟩ | ⟨q1, q2⟩
      · rw [q1, if_neg (by decide)]
      · exact absurd hP q2
    | succ d ih =>
      intro fuel v h1 h2 h3 h4
      obtain ⟨f1, rfl⟩ : ∃ f1, fuel = f1 + 1 := ⟨fuel - 1, by omega⟩
      have hv : -50 ≤ v ∧ v ≤ 50 := by omega
      rw [lp_X6_span_67, er, r_cell, ob, rdC (by omega) hv, ob, if_neg (by decide : ¬ (1 : Int32) = 0), ob, iv_m1]
      rcases hF v hv.1 hv.2 with ⟨q1, q2⟩ | ⟨q1, q2⟩
      · exact ⟨v, by rw [q1, if_neg (by decide)], hv, q2, h4⟩
      · obtain ⟨u, u1, u2⟩ := ih f1 (v - 1) (by omega) (by omega) (by omega) (fun x x1 x2 => by
          by_cases c : x = v
          · rw [c]; exact q2
          · exact h4 x (by omega) x2)
        exact ⟨u, by rw [q1, if_pos rfl]; exact u1, u2⟩
  rw [c_50]
  exact key 100 FU 50 (by omega) (by omega) (by decide) (fun x _ _ => by omega)
theorem d_way {S : QS} {n : Nat} (hn : n < 2 ^ 63) (h : S.2 25 = lN n) : f_X5_testWay S = some (if decide (0 < n) = true then .inr () else .inl (nNS, S)) := by
  unfold f_X5_testWay
  rw [h]
  by_cases c : n = 0
  · rw [if_pos ((lN_eq0 hn).mpr c), if_neg (by simp [c])]
  · rw [if_neg (fun z => c ((lN_eq0 hn).mp z)), if_pos (by simp; omega)]
theorem b_span {V : Vw} {S : QS} (h : IV V S) (a b : Int32) (most tl : Bool) : SameL S (f_L_span a b (b2 most) (b2 tl) S) (f_X6_span a b (b2 most) (b2 tl)) := by
  cases hc : (okC a && okS b) with
  | false =>
    refine sameL_thr h 1 (by decide) ?_ ?_ (y := 0)
    · unfold f_L_span f_X5_span
      rw [d_speedOf_no hc, bxl, bhl]
      rfl
    · unfold f_X6_span
      rw [stF_ok, ob, m_noSpeed, ob, hc, thr_n, if_neg b2t]
  | true =>
    have hc1 := hc
    rw [Bool.and_eq_true] at hc1
    obtain ⟨c, hc2, rfl⟩ := ok_car hc1.1
    obtain ⟨j, hj, rfl⟩ := ok_spd hc1.2
    obtain ⟨set, hset⟩ : ∃ set, set = if tl then allT V else 0 := ⟨_, rfl⟩
    have hlt : set < 1024 := by
      have := allT_lt h.1
      rw [hset]
      split <;> omega
    have dset : ((if b2 tl = 0 then (some 0) else ((f_X5_allTales S).bind fun v6 => some v6)) : Option Int32) = some (nI set) := by
      rw [hset, d_all h]
      cases tl <;> rfl
    obtain ⟨S1, e1, i1, k1, l1, g1, -⟩ := h.ask hlt (w := -1) (by decide)
    have mset : ∀ T, IV V T → ((if b2 tl = 0 then (some 0) else ((f_X6_all T).bind fun v9 => some v9)) : Option Int32) = some (nI set) := fun T hT => by
      rw [hset, m_all hT]
      cases tl <;> rfl
    cases hw : decide (0 < nW V set (-1)) with
    | false =>
      have i1z := i1.thr 0
      obtain ⟨S2, e2, i2, -, -, h48, -, -⟩ := i1z.go set (w := -1) (by decide)
      refine ⟨2, S1, 0, setF 48 0 2 S2, ?_, ?_, st_eq _ _ _ _, fun z => absurd z (by decide), V, i2.thr 2⟩
      · unfold f_L_span f_X5_span
        rw [d_speedOf hc2 hj, bxr, dset, ob, c_m1, e1, ob, d_way nW_63 l1, hw, if_neg (by decide), bxl, bhl, if_neg s_NS1, if_pos rfl]
      · unfold f_X6_span
        rw [stF_ok, ob, m_noSpeed, ob, hc, thr_y, if_pos b2f]
        show (((if b2 tl = 0 then (some 0) else ((f_X6_all (setF 48 0 0 S1)).bind fun v9 => some v9)) : Option Int32).bind _) = _
        rw [mset _ i1z, ob, c_m1, e2, ob, hw, b2_not, ob, thr_n, if_neg b2t]
    | true =>
      have hpos : 0 < nW V set (-1) := of_decide_eq_true hw
      obtain ⟨T, hT⟩ : ∃ T : Int32 → QS, T = fun y => setL 67 y.toInt64 S1 := ⟨_, rfl⟩
      have hr : 3 * c + j < 6 := by omega
      have hex := Sn_ex h.1 hpos hr
      obtain ⟨y, hy1, hy2⟩ : ∃ y : Int, ((if b2 most = 0 then ((f_X3_leastSeen (kp (3 * c + j)) S1).bind fun v12 => some (.inr (v12, S1))) else ((f_X3_greatestSeen (kp (3 * c + j)) S1).bind fun v14 => some (.inr (v14, S1)))) : Option ((String × QS) ⊕ (Int32 × QS))) = some (.inr (iv y, S1)) ∧ (if most then MostP (Sn V set (-1) (3 * c + j)) y else LeastP (Sn V set (-1) (3 * c + j)) y) := by
        cases most with
        | false =>
          obtain ⟨y, q1, q2⟩ := s_leastSeen (g1 _ hr) hex
          exact ⟨y, by rw [if_pos (by decide), q1, ob], q2⟩
        | true =>
          obtain ⟨y, q1, q2⟩ := s_greatestSeen (g1 _ hr) hex
          exact ⟨y, by rw [if_neg (by decide), q1, ob], q2⟩
      have iTz := (i1.out (iv y).toInt64).thr 0
      obtain ⟨S2, e2, i2, -, l67, h48, -, g2⟩ := iTz.go set (w := -1) (by decide)
      refine ⟨0, setL 67 (iv y).toInt64 S1, iv y, S2, ?_, ?_, by rw [h48, st_eq], fun _ => by rw [l67, st_2]; exact sl_eq _ _ _, V, i2⟩
      · unfold f_L_span f_X5_span
        rw [d_speedOf hc2 hj, bxr, dset, ob, c_m1, e1, ob, d_way nW_63 l1, hw, if_pos rfl, bxr, hy1, bhr]
        rfl
      · unfold f_X6_span
        rw [stF_ok, ob, m_noSpeed, ob, hc, thr_y, if_pos b2f]
        show (((if b2 tl = 0 then (some 0) else ((f_X6_all (setF 48 0 0 (setL 67 (iv y).toInt64 S1))).bind fun v9 => some v9)) : Option Int32).bind _) = _
        rw [mset _ iTz, ob, c_m1, e2, ob, hw, b2_not, ob, thr_y, if_pos b2f]
        show (((if b2 most = 0 then (some (-50)) else (some 50)) : Option Int32).bind fun q15 => lp_X6_span_67 (iv (c : Int)) (iv (j : Int)) (b2 most) (b2 false, S2) FU q15) = _
        cases most with
        | false =>
          obtain ⟨y2, q1, q2⟩ := r_least hc2 hj (q := (b2 false, S2)) (g2 _ hr) hex
          have e : y = y2 := hy2.one q2
          subst e
          rw [if_pos b2f, ob, b2f]
          exact q1
        | true =>
          obtain ⟨y2, q1, q2⟩ := r_most hc2 hj (q := (b2 false, S2)) (g2 _ hr) hex
          have e : y = y2 := hy2.one q2
          subst e
          rw [if_neg b2t, ob, show b2 true = 1 from rfl]
          exact q1
