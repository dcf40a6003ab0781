/-! all pushes from one AT of car 0 -/
def Flag (x : Int32) (P : Prop) : Prop := (x = 1 ∧ P) ∨ (x = 0 ∧ ¬ P)
theorem Flag.cg {x : Int32} {P Q : Prop} (h : Flag x P) (e : P ↔ Q) : Flag x Q := h.elim (fun z => Or.inl ⟨z.1, e.mp z.2⟩) (fun z => Or.inr ⟨z.1, fun q => z.2 (e.mpr q)⟩)
theorem Flag.set {x y : Int32} {P Q : Prop} (h : Flag x P) {c : Prop} (dc : Decidable c) (hy : y = @ite _ c dc 1 x) (e : c ↔ Q) : Flag y (P ∨ Q) := by
  by_cases q : c
  · rw [if_pos q] at hy
    exact Or.inl ⟨hy, Or.inr (e.mp q)⟩
  · rw [if_neg q] at hy
    rw [hy]
    exact h.cg ⟨Or.inl, fun z => z.elim id (fun z => absurd (e.mpr z) q)⟩
/-- the price of a way's three: AT of both, AFTER of both -/
def PT (V : Vw) (set : Nat) (w L G a k b : Int) (x : Nat) : Prop := ∃ y z, PA V set w 1 b y ∧ PA V set w 0 a z ∧ x = y + pq V 5 (b + k * G) + z + pq V 2 (a - k * L)
/-- what has been met so far: the triples T, n ways -/
def Acc (V : Vw) (set : Nat) (w L G : Int) (T : Int → Int → Int → Prop) (n : Nat) (S : QS) : Prop := S.2 25 = lN n ∧ MinP (S.1 25 3) (fun x => ∃ a k b, T a k b ∧ PT V set w L G a k b x) ∧ ∀ u, -50 ≤ u → u ≤ 50 → Flag (S.1 32 (ix u)) (∃ k b, T u k b) ∧ Flag (S.1 35 (ix u)) (∃ a k b, T a k b ∧ u = a - k * L) ∧ Flag (S.1 43 (ix u)) (∃ a k, T a k u) ∧ Flag (S.1 46 (ix u)) (∃ a k b, T a k b ∧ u = b + k * G)
theorem Acc.cg {V : Vw} {set : Nat} {w L G : Int} {T T2 : Int → Int → Int → Prop} {n : Nat} {S : QS} (h : Acc V set w L G T n S) (e : ∀ a k b, T a k b ↔ T2 a k b) : Acc V set w L G T2 n S := by
  have : T = T2 := funext fun a => funext fun k => funext fun b => propext (e a k b)
  rw [← this]
  exact h
theorem acc_meet {V : Vw} (hV : VOk V) {set : Nat} {w L G a k : Int} (hL : 1 ≤ L ∧ L ≤ 100) (hG : 1 ≤ G ∧ G ≤ 100) (hk : 1 ≤ k ∧ k ≤ 101) {S : QS} (hM : Md V set w L G S) (ha : -50 ≤ a ∧ a ≤ 50) (hp : -50 ≤ a - k * L ∧ a - k * L ≤ 50) (hao : S.1 31 (ix a) ≠ -1) (hpo : S.1 34 (ix (a - k * L)) ≠ -1)
    {T : Int → Int → Int → Prop} {n : Nat} (hA : Acc V set w L G T n S) :
    ∃ S1, f_X1_meet (iv a) (iv k) S = some S1 ∧ Fr [25, 32, 35, 43, 46] S S1 ∧ Md V set w L G S1 ∧ Acc V set w L G (fun a2 k2 b2 => T a2 k2 b2 ∨ (a2 = a ∧ k2 = k ∧ Mt V set w L G a k b2)) (n + sm (mtq V set w L G a k) * nq V set w 0 a) S1 := by
  obtain ⟨h1, h2, h3⟩ := hA
  obtain ⟨S1, e1, f1, g4, g5, gn, gp, gs⟩ := s_meet hV hL hG hk hM ha hp hao hpo h1 h2
  refine ⟨S1, e1, f1, hM.fr f1 g4 g5, gn, gp.cg (fun x => ?_), fun u hu1 hu2 => ?_⟩
  · constructor
    · rintro (⟨a2, k2, b2, q1, q2⟩ | ⟨b, q1, q2⟩)
      · exact ⟨a2, k2, b2, Or.inl q1, q2⟩
      · exact ⟨a, k, b, Or.inr ⟨rfl, rfl, q1⟩, q2⟩
    · rintro ⟨a2, k2, b2, q1 | ⟨rfl, rfl, q1⟩, q2⟩
      · exact Or.inl ⟨a2, k2, b2, q1, q2⟩
      · exact Or.inr ⟨b2, q1, q2⟩
  · obtain ⟨p1, p2, p3, p4⟩ := h3 u hu1 hu2
    obtain ⟨r1, r2, r3, r4, r5⟩ := gs u hu1 hu2
    refine ⟨(p1.set _ r1 (Q := ∃ b, u = a ∧ Mt V set w L G a k b) ?_).cg ?_, (p2.set _ r2 (Q := ∃ b, u = a - k * L ∧ Mt V set w L G a k b) ?_).cg ?_, (p3.set _ r3 (Q := Mt V set w L G a k u) ?_).cg ?_, ?_⟩
    · rw [mt_pos]
      exact ⟨fun ⟨⟨b, hb⟩, q⟩ => ⟨b, q, hb⟩, fun ⟨b, q, hb⟩ => ⟨⟨b, hb⟩, q⟩⟩
    · constructor
      · rintro (⟨k2, b2, q⟩ | ⟨b, q, hb⟩)
        · exact ⟨k2, b2, Or.inl q⟩
        · exact ⟨k, b, Or.inr ⟨q, rfl, hb⟩⟩
      · rintro ⟨k2, b2, q | ⟨q, rfl, hb⟩⟩
        · exact Or.inl ⟨k2, b2, q⟩
        · exact Or.inr ⟨b2, q, hb⟩
    · rw [mt_pos]
      exact ⟨fun ⟨⟨b, hb⟩, q⟩ => ⟨b, q, hb⟩, fun ⟨b, q, hb⟩ => ⟨⟨b, hb⟩, q⟩⟩
    · constructor
      · rintro (⟨a2, k2, b2, q, q2⟩ | ⟨b, q, hb⟩)
        · exact ⟨a2, k2, b2, Or.inl q, q2⟩
        · exact ⟨a, k, b, Or.inr ⟨rfl, rfl, hb⟩, q⟩
      · rintro ⟨a2, k2, b2, q | ⟨rfl, rfl, hb⟩, q2⟩
        · exact Or.inl ⟨a2, k2, b2, q, q2⟩
        · exact Or.inr ⟨b2, q2, hb⟩
    · exact ⟨fun q => ⟨⟨hu1, hu2⟩, q⟩, fun q => q.2⟩
    · constructor
      · rintro (⟨a2, k2, q⟩ | hb)
        · exact ⟨a2, k2, Or.inl q⟩
        · exact ⟨a, k, Or.inr ⟨rfl, rfl, hb⟩⟩
      · rintro ⟨a2, k2, q | ⟨rfl, rfl, hb⟩⟩
        · exact Or.inl ⟨a2, k2, q⟩
        · exact Or.inr hb
    · have fin : Flag (S1.1 46 (ix u)) ((∃ a2 k2 b2, T a2 k2 b2 ∧ u = b2 + k2 * G) ∨ Mt V set w L G a k (u - k * G)) := by
        by_cases hr : -50 ≤ u - k * G ∧ u - k * G ≤ 50
        · exact p4.set _ (r4 hr) ⟨fun q => ⟨hr, q⟩, fun q => q.2⟩
        · rw [r5 hr]
          exact p4.cg ⟨Or.inl, fun z => z.elim id (fun q => absurd q.1 hr)⟩
      refine fin.cg ?_
      constructor
      · rintro (⟨a2, k2, b2, q, q2⟩ | hb)
        · exact ⟨a2, k2, b2, Or.inl q, q2⟩
        · exact ⟨a, k, u - k * G, Or.inr ⟨rfl, rfl, hb⟩, by omega⟩
      · rintro ⟨a2, k2, b2, q | ⟨rfl, rfl, hb⟩, q2⟩
        · exact Or.inl ⟨a2, k2, b2, q, q2⟩
        · refine Or.inr ?_
          rw [show u - k2 * G = b2 by omega]
          exact hb
/-- one AT's pushes -/
def Hq (V : Vw) (set : Nat) (w L G a k : Int) : Nat := if aq V set w 0 (a - k * L) then sm (mtq V set w L G a k) * nq V set w 0 a else 0
def Tq (V : Vw) (set : Nat) (w L G a k b : Int) : Prop := aq V set w 0 (a - k * L) = true ∧ Mt V set w L G a k b
theorem aq_50 {V : Vw} (hV : VOk V) {set : Nat} {w : Int} {v : Int} (h : aq V set w 0 v = true) : -50 ≤ v ∧ v ≤ 50 := by
  unfold aq at h
  simp only [Bool.and_eq_true] at h
  exact lt_50 hV (by decide) h.1
theorem s_pushFrom {V : Vw} (hV : VOk V) {set : Nat} {w L G a : Int} (hL : 1 ≤ L ∧ L ≤ 100) (hG : 1 ≤ G ∧ G ≤ 100) (ha : -50 ≤ a ∧ a ≤ 50) {T0 : Int → Int → Int → Prop} {n0 : Nat} {S : QS} (hM : Md V set w L G S) (hao : S.1 31 (ix a) ≠ -1) (hA : Acc V set w L G T0 n0 S) :
    ∃ S1, f_X1_pushFrom (iv a) S = some S1 ∧ Fr [25, 32, 35, 43, 46] S S1 ∧ Md V set w L G S1 ∧ Acc V set w L G (fun a2 k2 b2 => T0 a2 k2 b2 ∨ (a2 = a ∧ (1 ≤ k2 ∧ k2 ≤ 101) ∧ Tq V set w L G a k2 b2)) (n0 + fb_sm (fun i => Hq V set w L G a ((i : Int) + 1)) 101) S1 := by
  have key : ∀ (d i fuel : Nat) (S : QS), i + d = 101 → d < fuel → Md V set w L G S → S.1 31 (ix a) ≠ -1 → Acc V set w L G (fun a2 k2 b2 => T0 a2 k2 b2 ∨ (a2 = a ∧ (1 ≤ k2 ∧ k2 ≤ i) ∧ Tq V set w L G a k2 b2)) (n0 + fb_sm (fun i => Hq V set w L G a ((i : Int) + 1)) i) S →
      ∃ S1, lp_X1_pushFrom_2 (iv a) fuel (iv ((i : Int) + 1)) S = some S1 ∧ Fr [25, 32, 35, 43, 46] S S1 ∧ Md V set w L G S1 ∧ Acc V set w L G (fun a2 k2 b2 => T0 a2 k2 b2 ∨ (a2 = a ∧ (1 ≤ k2 ∧ k2 ≤ 101) ∧ Tq V set w L G a k2 b2)) (n0 + fb_sm (fun i => Hq V set w L G a ((i : Int) + 1)) 101) S1 := by
    intro d
    induction d with
    | zero =>
      intro i fuel S hi hf hM hao hA
      obtain ⟨f1, rfl⟩ : ∃ f1, fuel = f1 + 1 := ⟨fuel - 1, by omega⟩
      have e : i = 101 := by omega
      subst e
      exact ⟨S, by rw [lp_X1_pushFrom_2, if_pos (by decide)], Fr.rf, hM, hA⟩
    | succ d ih =>
      intro i fuel S hi hf hM hao hA
      obtain ⟨f1, rfl⟩ : ∃ f1, fuel = f1 + 1 := ⟨fuel - 1, by omega⟩
      obtain ⟨m4, m5, s0, s1, q1, ⟨bo, to, b1, b2, b3, b4, b5, b6, b7⟩, q3, q4⟩ := id hM
      obtain ⟨k, hk⟩ : ∃ k : Int, k = (i : Int) + 1 := ⟨_, rfl⟩
      have bL : 1 ≤ k * L ∧ k * L ≤ 10100 := ⟨by have := Int.mul_le_mul (show 1 ≤ k by omega) hL.1 (by omega) (by omega); omega, by have := Int.mul_le_mul (show k ≤ 101 by omega) hL.2 (by omega) (by omega); omega⟩
      have sumS : fb_sm (fun i => Hq V set w L G a ((i : Int) + 1)) (i + 1) = fb_sm (fun i => Hq V set w L G a ((i : Int) + 1)) i + Hq V set w L G a k := by rw [fb_sm_succ, hk]
      have openA : ∀ p, -50 ≤ p → p ≤ 50 → aq V set w 0 p = true → bo ≤ p := fun p h1 h2 h3 => by
        have e := (s0 p h1 h2).2.2
        rw [h3, if_pos rfl] at e
        have := pq_le hV (3 * 0 + 2) p
        exact (b7 p h1 h2 (by rw [show S.1 (33 + 1) = S.1 (26 + 8) from rfl, e]; exact iv_nm1 (by omega))).1
      by_cases hlow : a - k * L < bo
      · have no : ∀ k2 : Int, k ≤ k2 → aq V set w 0 (a - k2 * L) = false := fun k2 h2 => by
          cases hq : aq V set w 0 (a - k2 * L) with
          | false => rfl
          | true =>
            have h3 := aq_50 hV hq
            have h4 := openA _ h3.1 h3.2 hq
            have h5 : k * L ≤ k2 * L := Int.mul_le_mul_of_nonneg_right h2 (by omega)
            omega
        refine ⟨S, ?_, Fr.rf, hM, ?_⟩
        · rw [lp_X1_pushFrom_2, ← hk, if_neg (by rw [c_101]; exact n_lt (by omega)), m4, b1, iv_mul, iv_sub, if_pos (y_lt hlow)]
        · have e : fb_sm (fun i => Hq V set w L G a ((i : Int) + 1)) 101 = fb_sm (fun i => Hq V set w L G a ((i : Int) + 1)) i := by
            have z : fb_sm (fun j => Hq V set w L G a (((i + j : Nat) : Int) + 1)) (d + 1) = 0 := fb_sm_0 (fun j hj => by
              unfold Hq
              rw [no _ (by omega)]
              rfl)
            rw [show 101 = i + (d + 1) by omega, fb_sm_split, z, Nat.add_zero]
          rw [e]
          refine hA.cg (fun a2 k2 b2 => ?_)
          constructor
          · rintro (q | ⟨q, q2, q3⟩)
            · exact Or.inl q
            · exact Or.inr ⟨q, by omega, q3⟩
          · rintro (q | ⟨q, q2, q3⟩)
            · exact Or.inl q
            · refine Or.inr ⟨q, ⟨q2.1, ?_⟩, q3⟩
              rcases Int.lt_or_le (i : Int) k2 with z | z
              · have := q3.1
                rw [no k2 (by omega)] at this
                cases this
              · exact z
      · have hp : -50 ≤ a - k * L ∧ a - k * L ≤ 50 := by omega
        have head : lp_X1_pushFrom_2 (iv a) (f1 + 1) (iv k) S = if S.1 34 (ix (a - k * L)) = -1 then lp_X1_pushFrom_2 (iv a) f1 (iv (k + 1)) S else (f_X1_meet (iv a) (iv k) S).bind fun S6 => lp_X1_pushFrom_2 (iv a) f1 (iv (k + 1)) S6 := by
          rw [lp_X1_pushFrom_2, if_neg (by rw [c_101]; exact n_lt (by omega)), m4, b1, iv_mul, iv_sub, if_neg (n_lt (by omega)), s_isOpen hp, ob, iv_one]
          show (if (if S.1 34 (ix (a - k * L)) = -1 then (0 : Int32) else 1) = 0 then _ else _) = _
          by_cases c : S.1 34 (ix (a - k * L)) = -1
          · rw [if_pos c, if_pos rfl, if_pos c]
          · rw [if_neg c, if_neg (by decide), if_neg c]
        have j3 : S.1 34 (ix (a - k * L)) = if aq V set w 0 (a - k * L) then iv (pq V 2 (a - k * L) : Int) else -1 := (s0 _ hp.1 hp.2).2.2
        have hpq := pq_le hV 2 (a - k * L)
        have ek : k + 1 = ((i + 1 : Nat) : Int) + 1 := by omega
        cases hq : aq V set w 0 (a - k * L) with
        | false =>
          rw [hq, if_neg (by decide)] at j3
          obtain ⟨S1, e1, f2, g1, g2⟩ := ih (i + 1) f1 S (by omega) (by omega) hM hao (by
            have e : Hq V set w L G a k = 0 := by unfold Hq; rw [hq]; rfl
            rw [sumS, e, Nat.add_zero]
            refine hA.cg (fun a2 k2 b2 => ?_)
            constructor
            · rintro (q | ⟨q, q2, q3⟩)
              · exact Or.inl q
              · exact Or.inr ⟨q, by omega, q3⟩
            · rintro (q | ⟨q, q2, q3⟩)
              · exact Or.inl q
              · refine Or.inr ⟨q, ⟨q2.1, ?_⟩, q3⟩
                rcases Int.lt_or_le (i : Int) k2 with z | z
                · have := q3.1
                  rw [show k2 = k by omega, hq] at this
                  cases this
                · exact z)
          exact ⟨S1, by rw [← hk, head, if_pos j3, ek]; exact e1, f2, g1, g2⟩
        | true =>
          rw [hq, if_pos rfl] at j3
          have jo : S.1 34 (ix (a - k * L)) ≠ -1 := by rw [j3]; exact iv_nm1 (by omega)
          obtain ⟨S6, e6, f6, M6, A6⟩ := acc_meet hV hL hG (k := k) (by omega) hM ha hp hao jo hA
          obtain ⟨S1, e1, f2, g1, g2⟩ := ih (i + 1) f1 S6 (by omega) (by omega) M6 (by rw [f6.1 31 (by decide)]; exact hao) (by
            have e : Hq V set w L G a k = sm (mtq V set w L G a k) * nq V set w 0 a := by unfold Hq; rw [hq, if_pos rfl]
            rw [sumS, e, ← Nat.add_assoc]
            refine A6.cg (fun a2 k2 b2 => ?_)
            constructor
            · rintro ((q | ⟨q, q2, q3⟩) | ⟨q, q2, q3⟩)
              · exact Or.inl q
              · exact Or.inr ⟨q, by omega, q3⟩
              · subst q2
                exact Or.inr ⟨q, by omega, hq, q3⟩
            · rintro (q | ⟨q, q2, q3⟩)
              · exact Or.inl (Or.inl q)
              · by_cases z : k2 = k
                · subst z
                  exact Or.inr ⟨q, rfl, q3.2⟩
                · exact Or.inl (Or.inr ⟨q, by omega, q3⟩))
          exact ⟨S1, by rw [← hk, head, if_neg jo, e6, ob, ek]; exact e1, f6.tr f2, g1, g2⟩
  obtain ⟨S1, h1, h2, h3, h4⟩ := key 101 0 FU S (by omega) (by decide) hM hao (by
    refine hA.cg (fun a2 k2 b2 => ?_)
    constructor
    · exact Or.inl
    · rintro (q | ⟨q, q2, q3⟩)
      · exact q
      · omega)
  exact ⟨S1, h1, h2, h3, h4⟩
