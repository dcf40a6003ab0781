/-! THE DESK: prices at their least, a car cleared, its sums, FIRST joined to AT -/
theorem sq_b {v : Int} (h : -50 ≤ v ∧ v ≤ 50) : 0 ≤ v * v ∧ v * v ≤ 2500 := by
  have key : ∀ n : Nat, n ≤ 50 → 0 ≤ (n : Int) * n ∧ (n : Int) * n ≤ 2500 := fun n hn => by
    refine ⟨Int.mul_nonneg (by omega) (by omega), ?_⟩
    have := Nat.mul_le_mul hn hn
    omega
  by_cases c : 0 ≤ v
  · have := key v.toNat (by omega)
    rw [Int.toNat_of_nonneg c] at this
    exact this
  · have := key (-v).toNat (by omega)
    rw [Int.toNat_of_nonneg (by omega), Int.neg_mul_neg] at this
    exact this
def MinP (m : Int32) (P : Nat → Prop) : Prop := (m = -1 ∧ ∀ x, ¬ P x) ∨ ∃ x : Nat, m = iv (x : Int) ∧ x ≤ 1000000 ∧ P x ∧ ∀ y, P y → x ≤ y
theorem MinP.cg {m : Int32} {P Q : Nat → Prop} (h : MinP m P) (e : ∀ x, P x ↔ Q x) : MinP m Q := by
  rcases h with ⟨h1, h2⟩ | ⟨x, h1, h2, h3, h4⟩
  · exact Or.inl ⟨h1, fun x z => h2 x ((e x).mpr z)⟩
  · exact Or.inr ⟨x, h1, h2, (e x).mp h3, fun y z => h4 y ((e y).mpr z)⟩
theorem MinP.none {P : Nat → Prop} (h : ∀ x, ¬ P x) : MinP (-1) P := Or.inl ⟨rfl, h⟩
theorem iv_nm1 {x : Nat} (h : x ≤ 2000000) : iv (x : Int) ≠ -1 := by
  rw [c_m1]
  exact n_eq (by omega)
theorem MinP.ne {m : Int32} {P : Nat → Prop} (h : MinP m P) : m ≠ -1 ↔ ∃ x, P x := by
  rcases h with ⟨h1, h2⟩ | ⟨x, h1, h2, h3, h4⟩
  · exact ⟨fun z => absurd h1 z, fun ⟨x, z⟩ => absurd z (h2 x)⟩
  · exact ⟨fun _ => ⟨x, h3⟩, fun _ => by rw [h1]; exact iv_nm1 (by omega)⟩
theorem MinP.eqn {m : Int32} {P : Nat → Prop} (h : MinP m P) : m = -1 ↔ ∀ x, ¬ P x := by
  constructor
  · intro z x hx
    exact (h.ne.mpr ⟨x, hx⟩) z
  · intro z
    rcases h with ⟨h1, h2⟩ | ⟨x, h1, h2, h3, h4⟩
    · exact h1
    · exact absurd h3 (z x)
theorem MinP.add {m : Int32} {P : Nat → Prop} (h : MinP m P) {x : Nat} (hx : x ≤ 1000000) : MinP (if m = -1 then iv (x : Int) else if m ≤ iv (x : Int) then m else iv (x : Int)) (fun y => P y ∨ y = x) := by
  rcases h with ⟨h1, h2⟩ | ⟨z, h1, h2, h3, h4⟩
  · rw [if_pos h1]
    exact Or.inr ⟨x, rfl, hx, Or.inr rfl, fun y hy => hy.elim (fun q => absurd q (h2 y)) (fun q => by omega)⟩
  · rw [if_neg (by rw [h1]; exact iv_nm1 (by omega)), h1]
    by_cases c : z ≤ x
    · rw [if_pos (y_le (a := z) (b := x) (by omega))]
      exact Or.inr ⟨z, rfl, h2, Or.inl h3, fun y hy => hy.elim (fun q => h4 y q) (fun q => by omega)⟩
    · rw [if_neg (n_le (a := z) (b := x) (by omega))]
      exact Or.inr ⟨x, rfl, hx, Or.inr rfl, fun y hy => hy.elim (fun q => by have := h4 y q; omega) (fun q => by omega)⟩
/-- a fixed price on top -/
theorem MinP.plus {m : Int32} {P : Nat → Prop} (h : MinP m P) {d : Nat} (hd : d ≤ 100000) (hP : ∀ x, P x → x ≤ 100000) : MinP (if m = -1 then -1 else iv (d : Int) + m) (fun y => ∃ x, P x ∧ y = d + x) := by
  rcases h with ⟨h1, h2⟩ | ⟨z, h1, h2, h3, h4⟩
  · rw [if_pos h1]
    exact MinP.none (fun y ⟨x, hx, _⟩ => h2 x hx)
  · rw [if_neg (by rw [h1]; exact iv_nm1 (by omega)), h1, iv_add]
    have hz := hP z h3
    refine Or.inr ⟨d + z, by rw [Int.natCast_add], by omega, ⟨z, h3, rfl⟩, ?_⟩
    rintro y ⟨x, hx, rfl⟩
    have := h4 x hx
    omega
/-- a car's row of first fields: what skids take -/
theorem s_takenB {k : Nat} {v bl bg : Int} {S : QS} (hv : -50 ≤ v ∧ v ≤ 50) (h1 : S.1 k 7 = iv bl) (h2 : S.1 k 8 = iv bg) (b1 : -10000000 ≤ bl ∧ bl ≤ 10000000) (b3 : -10000000 ≤ bg ∧ bg ≤ 10000000) : f_X0_isTakenBehind k (iv v) S = some (b2 (decide (bl ≤ 51 * v * v) && decide (51 * v * v ≤ bg))) := by
  unfold f_X0_isTakenBehind
  have hb : 0 ≤ v * v ∧ v * v ≤ 2500 := sq_b hv
  have e : 51 * v * v = 51 * (v * v) := Int.mul_assoc _ _ _
  rw [c_51, iv_mul, iv_mul, h1, h2]
  exact q_btw (v := 51 * v * v) (lo := bl) (hi := bg)
theorem s_takenA {k : Nat} {v p al ag : Int} {S : QS} (hv : -50 ≤ v ∧ v ≤ 50) (hp : -50 ≤ p ∧ p ≤ 50) (h1 : S.1 k 5 = iv al) (h2 : S.1 k 6 = iv ag) (b1 : -10000000 ≤ al ∧ al ≤ 10000000) (b3 : -10000000 ≤ ag ∧ ag ≤ 10000000) : f_X0_isTakenAhead k (iv p) (iv v) S = some (b2 (decide (al ≤ 51 * (p * p - v * v)) && decide (51 * (p * p - v * v) ≤ ag))) := by
  unfold f_X0_isTakenAhead
  have hb : 0 ≤ v * v ∧ v * v ≤ 2500 := sq_b hv
  have hb2 : 0 ≤ p * p ∧ p * p ≤ 2500 := sq_b hp
  have e : 51 * p * p - 51 * v * v = 51 * (p * p - v * v) := by rw [Int.mul_assoc, Int.mul_assoc, Int.mul_sub]
  rw [c_51, iv_mul, iv_mul, iv_mul, iv_mul, iv_sub, h1, h2, e]
  exact q_btw (v := 51 * (p * p - v * v)) (lo := al) (hi := ag)
/-- bounds of the sums over skids -/
theorem sLn_b {V : Vw} (hV : VOk V) (w : Int) (c : Nat) (b : Bool) : ∀ n, n ≤ vNs V → 0 ≤ sLn V w c b n ∧ sLn V w c b n ≤ 300000 * n
  | 0, _ => by simp [sLn, fb_si]
  | n + 1, h => by
    have h1 := sLn_b hV w c b n (by omega)
    have h2 := hV.2.2.2.1 n (by omega)
    have e : sLn V w c b (n + 1) = sLn V w c b n + (if oq V w c b n then kLo V n else 0) := fb_si_succ _ _
    rw [e]
    split <;> omega
theorem sHn_b {V : Vw} (hV : VOk V) (w : Int) (c : Nat) (b : Bool) : ∀ n, n ≤ vNs V → 0 ≤ sHn V w c b n ∧ sHn V w c b n ≤ 300000 * n
  | 0, _ => by simp [sHn, fb_si]
  | n + 1, h => by
    have h1 := sHn_b hV w c b n (by omega)
    have h2 := hV.2.2.2.1 n (by omega)
    have e : sHn V w c b (n + 1) = sHn V w c b n + (if oq V w c b n then kHi V n else 0) := fb_si_succ _ _
    rw [e]
    split <;> omega
theorem sL_b {V : Vw} (hV : VOk V) (w : Int) (c : Nat) (b : Bool) : 0 ≤ sL V w c b ∧ sL V w c b ≤ 3600000 := by
  have := sLn_b hV w c b (vNs V) (Nat.le_refl _)
  have := hV.2.2.1
  unfold sL
  omega
theorem sH_b {V : Vw} (hV : VOk V) (w : Int) (c : Nat) (b : Bool) : 0 ≤ sH V w c b ∧ sH V w c b ≤ 3600000 := by
  have := sHn_b hV w c b (vNs V) (Nat.le_refl _)
  have := hV.2.2.1
  unfold sH
  omega
/-- FIRST of a pace, one way or the other -/
def ff (v p : Int) : Int := if 0 ≤ v then p else -p
theorem ff_b {v p : Int} (h : -50 ≤ p ∧ p ≤ 50) : -50 ≤ ff v p ∧ ff v p ≤ 50 := by unfold ff; split <;> omega
theorem ff_sq (v p : Int) : ff v p * ff v p = p * p := by
  unfold ff
  split
  · rfl
  · rw [Int.neg_mul_neg]
theorem fq_low {V : Vw} (hV : VOk V) {set : Nat} {w : Int} {c : Nat} {v p : Int} (hv : -50 ≤ v ∧ v ≤ 50) (hp : -50 ≤ p) (h : p < v ∨ p < -v) : fq V set w c (ff v p) v = false := by
  cases hq : fq V set w c (ff v p) v with
  | false => rfl
  | true =>
    exfalso
    unfold fq at hq
    simp only [Bool.and_eq_true] at hq
    obtain ⟨h1, -, h3⟩ := hq
    unfold tkA at h3
    simp only [Bool.and_eq_true, decide_eq_true_eq] at h3
    have h4 := (sL_b hV w c false).1
    have h5 := ff_sq v p
    rw [h5] at h3
    have h6 : v * v ≤ p * p := by omega
    have hpos : 0 < p ∨ (v = 0 ∧ 0 ≤ p) := by
      unfold sgq ff at h1
      by_cases c1 : 0 < v
      · rw [if_pos c1, if_pos (by omega), decide_eq_true_eq] at h1
        exact Or.inl h1
      · by_cases c2 : v < 0
        · rw [if_neg c1, if_pos c2, if_neg (by omega), decide_eq_true_eq] at h1
          exact Or.inl (by omega)
        · rw [if_neg c1, if_neg c2, if_pos (by omega), decide_eq_true_eq] at h1
          exact Or.inr ⟨by omega, h1⟩
    rcases hpos with z | ⟨z1, z2⟩
    · by_cases c1 : 0 ≤ v
      · have h7 : p < v := by omega
        have h8 : p * p < v * v := Int.lt_of_le_of_lt (Int.mul_le_mul_of_nonneg_left (Int.le_of_lt h7) (Int.le_of_lt z)) (Int.mul_lt_mul_of_pos_right h7 (by omega))
        omega
      · have h7 : p < -v := by omega
        have h8 : p * p < (-v) * (-v) := Int.lt_of_le_of_lt (Int.mul_le_mul_of_nonneg_left (Int.le_of_lt h7) (Int.le_of_lt z)) (Int.mul_lt_mul_of_pos_right h7 (by omega))
        rw [Int.neg_mul_neg] at h8
        omega
    · omega
theorem fq_hi {V : Vw} {set : Nat} {w : Int} {c : Nat} {v p : Int} (h : v ≤ p) (h2 : -v ≤ p) : fq V set w c (ff v p) v = (lq V set (3 * c) (ff v p) && (decide (sL V w c false ≤ 51 * (p * p - v * v)) && decide (51 * (p * p - v * v) ≤ sH V w c false))) := by
  have e : sgq (ff v p) v = true := by
    unfold sgq ff
    by_cases c1 : 0 < v
    · rw [if_pos c1, if_pos (by omega), decide_eq_true_eq]
      omega
    · by_cases c2 : v < 0
      · rw [if_neg c1, if_pos c2, if_neg (by omega), decide_eq_true_eq]
        omega
      · rw [if_neg c1, if_neg c2, if_pos (by omega), decide_eq_true_eq]
        omega
  unfold fq tkA
  rw [e, ff_sq, Bool.true_and]
/-- the numbers of FIRST for one AT, counted by pace -/
theorem nq_pace {V : Vw} {set : Nat} {w : Int} {c : Nat} {v : Int} : sm (fun p => if fq V set w c (ff v p) v then 1 else 0) = sm (fun f => if fq V set w c f v then 1 else 0) := by
  by_cases c1 : 0 ≤ v
  · refine sm_cong (fun p _ _ => ?_)
    simp only [ff, if_pos c1]
  · rw [← sm_rev (fun f => if fq V set w c f v then 1 else 0)]
    refine sm_cong (fun p _ _ => ?_)
    simp only [ff, if_neg c1]
/-- what a car's places hold before FIRST is joined -/
def CF (V : Vw) (set : Nat) (w : Int) (c k : Nat) (S : QS) : Prop := S.1 k 5 = iv (sL V w c false) ∧ S.1 k 6 = iv (sH V w c false) ∧ S.1 k 7 = iv (sL V w c true) ∧ S.1 k 8 = iv (sH V w c true) ∧ S.1 k 9 = b2 (decide (sN V w c true ≠ 0)) ∧ ∀ f, -50 ≤ f → f ≤ 50 → S.1 (k + 2) (ix f) = if lq V set (3 * c) f then iv (pq V (3 * c) f : Int) else -1
theorem CF.fr {V : Vw} {set : Nat} {w : Int} {c k : Nat} {S S1 : QS} (h : CF V set w c k S) (h1 : S1.1 k = S.1 k) (h2 : S1.1 (k + 2) = S.1 (k + 2)) : CF V set w c k S1 := by
  unfold CF at h ⊢
  rw [h1, h2]
  exact h
/-- the prices of FIRST for one AT -/
def PF (V : Vw) (set : Nat) (w : Int) (c : Nat) (v : Int) : Nat → Prop := fun x => ∃ f, -50 ≤ f ∧ f ≤ 50 ∧ fq V set w c f v = true ∧ x = pq V (3 * c) f
/-- the prices of AT with FIRST -/
def PA (V : Vw) (set : Nat) (w : Int) (c : Nat) (v : Int) : Nat → Prop := fun y => lq V set (3 * c + 1) v = true ∧ ∃ x, PF V set w c v x ∧ y = pq V (3 * c + 1) v + x
theorem pq_le {V : Vw} (hV : VOk V) (r : Nat) (v : Int) : pq V r v ≤ 11263 := pr_le hV.2.2.2.2.1
theorem iv_abs {v : Int} (h : -50 ≤ v ∧ v ≤ 50) : (if 0 ≤ iv v then iv v else 0 - iv v) = iv (if 0 ≤ v then v else -v) := by
  rw [c_0]
  by_cases c : 0 ≤ v
  · rw [if_pos (y_le (a := 0) (b := v) c), if_pos c]
  · rw [if_neg (n_le (a := 0) (b := v) (by omega)), if_neg c, iv_sub]
    congr 1
    omega
theorem s_join {V : Vw} (hV : VOk V) {set : Nat} {w : Int} {c k : Nat} {S : QS} (hc : CF V set w c k S) {v : Int} (hv : -50 ≤ v ∧ v ≤ 50) (hl : lq V set (3 * c + 1) v = true) (hp : S.1 (k + 5) (ix v) = iv (pq V (3 * c + 1) v : Int)) :
    ∃ y, MinP y (PA V set w c v) ∧ f_X0_joinFirsts k (iv v) S = some (setF (k + 5) (ix v) y (setF (k + 10) (ix v) (iv (nq V set w c v : Int)) S)) := by
  obtain ⟨c5, c6, -, -, -, cF⟩ := hc
  have b1 := sL_b hV w c false
  have b3 := sH_b hV w c false
  obtain ⟨v0, hv0⟩ : ∃ v0, v0 = if 0 ≤ v then v else -v := ⟨_, rfl⟩
  have hv1 : 0 ≤ v0 ∧ v0 ≤ 50 ∧ v ≤ v0 ∧ -v ≤ v0 := by rw [hv0]; split <;> omega
  obtain ⟨G, hG⟩ : ∃ G : Int → Nat, ∀ p, G p = if fq V set w c (ff v p) v then 1 else 0 := ⟨_, fun _ => rfl⟩
  have main := up_loop (fun fuel p (s : Int32 × Int32) => lp_X0_joinFirsts_10 k (iv v) S fuel s.1 s.2 p) (fun p s => s.1 = iv (smv G p : Int) ∧ MinP s.2 (fun x => ∃ q, v0 ≤ q ∧ q < p ∧ fq V set w c (ff v q) v = true ∧ x = pq V (3 * c) (ff v q))) v0 50
    (fun fuel p s h3 h4 hI => by
      obtain ⟨i1, i2⟩ := hI
      obtain ⟨s1, s2⟩ := s
      dsimp only at i1 i2
      subst i1
      have hpr : -50 ≤ p ∧ p ≤ 50 := by omega
      have hT := s_takenA (k := k) (S := S) hv hpr c5 c6 (by omega) (by omega)
      have hFQ := fq_hi (V := V) (set := set) (w := w) (c := c) (v := v) (p := p) (by omega) (by omega)
      have hff := ff_b (v := v) hpr
      have hFv := cF (ff v p) hff.1 hff.2
      have hS := smv_s G (v := p) (by omega)
      have hq : ((if b2 (decide (sL V w c false ≤ 51 * (p * p - v * v)) && decide (51 * (p * p - v * v) ≤ sH V w c false)) = 0 then (some (-1)) else ((f_X0_firstFor (iv p) (iv v)).bind fun v9 => (f_X3_priceOf (k + 1) v9 S).bind fun v11 => some v11)) : Option Int32) = some (if fq V set w c (ff v p) v = true then iv (pq V (3 * c) (ff v p) : Int) else -1) := by
        cases ht : (decide (sL V w c false ≤ 51 * (p * p - v * v)) && decide (51 * (p * p - v * v) ≤ sH V w c false)) with
        | false =>
          rw [if_pos (by decide), if_neg]
          rw [hFQ, ht, Bool.and_false]
          decide
        | true =>
          rw [if_neg (by decide), s_firstFor (by omega), ob, show (if 0 ≤ v then p else -p) = ff v p from rfl, s_priceOf hff, ob]
          show some (S.1 (k + 2) (ix (ff v p))) = _
          rw [hFv, hFQ, ht, Bool.and_true]
      by_cases g : fq V set w c (ff v p) v = true
      · rw [if_pos g] at hq
        have hx := pq_le hV (3 * c) (ff v p)
        refine ⟨(iv (smv G (p + 1) : Int), _), ?_, rfl, MinP.cg (i2.add (x := pq V (3 * c) (ff v p)) (by omega)) (fun x => ?_)⟩
        · show lp_X0_joinFirsts_10 k (iv v) S (fuel + 1) (iv (smv G p : Int)) s2 (iv p) = lp_X0_joinFirsts_10 k (iv v) S fuel (iv (smv G (p + 1) : Int)) _ (iv (p + 1))
          rw [lp_X0_joinFirsts_10, if_neg (hi50 h4), hT, ob, hq, ob, if_neg (iv_nm1 (by omega)), s_cheaper, ob, iv_one, iv_one, hS, hG, if_pos g]
          rfl
        · constructor
          · rintro (⟨q, h5, h6, h7, h8⟩ | h5)
            · exact ⟨q, h5, by omega, h7, h8⟩
            · exact ⟨p, h3, by omega, g, h5⟩
          · rintro ⟨q, h5, h6, h7, h8⟩
            by_cases e : q = p
            · subst e
              exact Or.inr h8
            · exact Or.inl ⟨q, h5, by omega, h7, h8⟩
      · rw [if_neg g] at hq
        refine ⟨(iv (smv G p : Int), s2), ?_, ?_, MinP.cg i2 (fun x => ?_)⟩
        · show lp_X0_joinFirsts_10 k (iv v) S (fuel + 1) (iv (smv G p : Int)) s2 (iv p) = lp_X0_joinFirsts_10 k (iv v) S fuel (iv (smv G p : Int)) s2 (iv (p + 1))
          rw [lp_X0_joinFirsts_10, if_neg (hi50 h4), hT, ob, hq, ob, if_pos rfl, iv_one]
        · show iv _ = iv _
          rw [hS, hG, if_neg g]
          rfl
        · constructor
          · rintro ⟨q, h5, h6, h7, h8⟩
            exact ⟨q, h5, by omega, h7, h8⟩
          · rintro ⟨q, h5, h6, h7, h8⟩
            by_cases e : q = p
            · subst e
              exact absurd h7 g
            · exact ⟨q, h5, by omega, h7, h8⟩)
    (51 - v0).toNat FU v0 (0, -1) (by omega) (by omega) (by show _ < 1100; omega) ⟨by
      show (0 : Int32) = iv _
      rw [smv_z (fun q h1 h2 => by rw [hG, fq_low hV hv h1 (by rw [hv0] at h2; split at h2 <;> omega)]; rfl)]
      decide, MinP.none (fun x ⟨q, h1, h2, _⟩ => by omega)⟩
  obtain ⟨⟨s1, s2⟩, f1, e1, i1, i2⟩ := main
  dsimp only at i1 i2 e1
  have e2 : lp_X0_joinFirsts_10 k (iv v) S FU 0 (-1) (iv v0) = some (iv (nq V set w c v : Int), s2) := by
    rw [e1, show (50 : Int) + 1 = 51 by rfl, lp_X0_joinFirsts_10, if_pos gt50, i1]
    have e3 : smv G (50 + 1) = nq V set w c v := by
      unfold nq
      rw [if_pos hl, ← nq_pace]
      exact sm_cong (fun p _ _ => hG p)
    rw [e3]
  have hM : MinP s2 (PF V set w c v) := i2.cg (fun x => by
    constructor
    · rintro ⟨q, h1, h2, h3, h4⟩
      have := ff_b (v := v) (p := q) (by omega)
      exact ⟨ff v q, this.1, this.2, h3, h4⟩
    · rintro ⟨f, h1, h2, h3, h4⟩
      have hff : ff v (ff v f) = f := by unfold ff; split <;> omega
      refine ⟨ff v f, ?_, ?_, by rw [hff]; exact h3, by rw [hff]; exact h4⟩
      · have hb := ff_b (v := v) (p := f) ⟨h1, h2⟩
        rcases Int.lt_or_le (ff v f) v0 with z | z
        · have := fq_low hV (set := set) (w := w) (c := c) hv hb.1 (p := ff v f) (by rw [hv0] at z; split at z <;> omega)
          rw [hff, h3] at this
          cases this
        · exact z
      · have := ff_b (v := v) (p := f) ⟨h1, h2⟩
        omega)
  have hPF : ∀ x, PF V set w c v x → x ≤ 100000 := fun x ⟨f, _, _, _, h⟩ => by
    have := pq_le hV (3 * c) f
    omega
  refine ⟨if s2 = -1 then -1 else iv (pq V (3 * c + 1) v : Int) + s2, (hM.plus (d := pq V (3 * c + 1) v) (by have := pq_le hV (3 * c + 1) v; omega) hPF).cg (fun y => ⟨fun z => ⟨hl, z⟩, fun z => z.2⟩), ?_⟩
  unfold f_X0_joinFirsts
  rw [iv_abs hv, ← hv0, e2, ob]
  dsimp only
  rw [if_neg (lo50 hv.1), if_neg (hi50 hv.2), wr50 hv, ob, ob]
  have eo : (setF (k + 10) (ix v) (iv (nq V set w c v : Int)) S).1 (k + 4 + 1) (ix v) = iv (pq V (3 * c + 1) v : Int) := by
    rw [st_nek (by omega)]
    exact hp
  have q3 : ((if s2 = (-1) then (some (-1)) else ((f_X3_priceOf (k + 4) (iv v) (setF (k + 10) (ix v) (iv (nq V set w c v : Int)) S)).bind fun v19 => some (v19 + s2))) : Option Int32) = some (if s2 = -1 then -1 else iv (pq V (3 * c + 1) v : Int) + s2) := by
    by_cases g : s2 = -1
    · rw [if_pos g, if_pos g]
    · rw [if_neg g, if_neg g, s_priceOf hv, ob, eo]
  rw [q3, ob, s_setPrice hv, ob]
