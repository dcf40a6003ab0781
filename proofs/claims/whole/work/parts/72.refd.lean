/-! THE REFERENCE: all ways walked through -/
theorem prod_b {m x : Int} (hm : 1 ≤ m ∧ m ≤ 100) (hx : -50 ≤ x ∧ x ≤ 50) : 0 ≤ m * x * x ∧ m * x * x ≤ 250000 := by
  have h := sq_b hx
  have e : m * x * x = m * (x * x) := Int.mul_assoc _ _ _
  have h1 : 0 ≤ m * (x * x) := Int.mul_nonneg (by omega) h.1
  have h2 : 0 ≤ (100 - m) * (x * x) := Int.mul_nonneg (by omega) h.1
  rw [Int.sub_mul] at h2
  omega
theorem lin_b {m x : Int} (hm : 1 ≤ m ∧ m ≤ 100) (hx : -100 ≤ x ∧ x ≤ 100) : -10000 ≤ m * x ∧ m * x ≤ 10000 := by
  have h1 : 0 ≤ m * (100 - x) := Int.mul_nonneg (by omega) (by omega)
  have h2 : 0 ≤ m * (100 + x) := Int.mul_nonneg (by omega) (by omega)
  rw [Int.mul_sub] at h1
  rw [Int.mul_add] at h2
  omega
theorem qr_b {V : Vw} (hV : VOk V) {a b p : Int} (ha : -50 ≤ a ∧ a ≤ 50) (hb : -50 ≤ b ∧ b ≤ 50) (hp : -50 ≤ p ∧ p ≤ 50) : -20000 ≤ qr V a b p ∧ qr V a b p ≤ 20000 := by
  have h1 := lin_b (hV.1 0 (by decide)) (x := a - p) (by omega)
  have h2 := lin_b (hV.1 1 (by decide)) (x := b) (by omega)
  unfold qr
  omega
theorem tdiv_b {x m : Int} (hx : -20000 ≤ x ∧ x ≤ 20000) : -20000 ≤ x.tdiv m ∧ x.tdiv m ≤ 20000 := by
  have h : (x.tdiv m).natAbs = x.natAbs / m.natAbs := Int.natAbs_tdiv x m
  have h2 : x.natAbs / m.natAbs ≤ x.natAbs := Nat.div_le_self _ _
  omega
theorem rdM0 {V : Vw} {S : QS} (hM : MR V S) : rdA 49 2 0 S = some (iv (vM V 0)) := by
  rw [c_0, rd_iv (by decide)]
  exact congrArg some hM.1.1
theorem rdM1 {V : Vw} {S : QS} (hM : MR V S) : rdA 49 2 1 S = some (iv (vM V 1)) := by
  rw [c_1, rd_iv (by decide)]
  exact congrArg some hM.1.2
/-- places 61 and 63 alone, and one long -/
def Fg (S S1 : QS) : Prop := (∀ k, k ≠ 61 → k ≠ 63 → S1.1 k = S.1 k) ∧ ∀ k, k ≠ 48 → k ≠ 63 → S1.2 k = S.2 k
theorem Fg.rf {S : QS} : Fg S S := ⟨fun _ _ _ => rfl, fun _ _ _ => rfl⟩
theorem Fg.tr {S S1 S2 : QS} (h : Fg S S1) (h2 : Fg S1 S2) : Fg S S2 := ⟨fun k a b => (h2.1 k a b).trans (h.1 k a b), fun k a b => (h2.2 k a b).trans (h.2 k a b)⟩
theorem Fg.of63 {S S1 : QS} (h : Fr [63] S S1) : Fg S S1 := ⟨fun k _ b => h.1 k (nm1 b), fun k _ b => h.2 k (nm1 b)⟩
theorem MR.fg {V : Vw} {S S1 : QS} (h : MR V S) (hf : Fg S S1) : MR V S1 := h.kp (fun k h1 h2 => hf.1 k (by omega) (by omega)) (by rw [hf.1 48 (by decide) (by decide)]) (by rw [hf.1 48 (by decide) (by decide)])
/-- the reference before it walks -/
def GM (V : Vw) (set : Nat) (w : Int) (wd : Bool) (s : QS) : Prop := MR V s ∧ (∀ c, c < 2 → ∀ u, -50 ≤ u → u ≤ 50 → s.1 62 (cx c u) = iv (nq V set w c u : Int) ∧ s.1 60 (cx (3 * c + 2) u) = b2 (aq V set w c u)) ∧ s.1 48 18 = b2 wd ∧ (wd = true → MkOk V s)
theorem GM.fg {V : Vw} {set : Nat} {w : Int} {wd : Bool} {S S1 : QS} (h : GM V set w wd S) (hf : Fg S S1) : GM V set w wd S1 := by
  obtain ⟨h1, h2, h3, h4⟩ := h
  refine ⟨h1.fg hf, ?_, by rw [hf.1 48 (by decide) (by decide)]; exact h3, fun z => (h4 z).fr (hf.1 65 (by decide) (by decide)) (hf.1 66 (by decide) (by decide))⟩
  rw [hf.1 62 (by decide) (by decide), hf.1 60 (by decide) (by decide)]
  exact h2
/-- what one way makes false: a mask -/
def KM (V : Vw) (a b p : Int) (m : Nat) : Prop := ∃ x y, MD V 0 a x ∧ MD V 1 b y ∧ m = (x ||| y) ||| (fl V 2 p ||| fl V 5 (qv V a b p))
def AccM (V : Vw) (wd : Bool) (T : Int → Int → Int → Prop) (n : Nat) (s : QS) : Prop := s.2 48 = lN n ∧
  (∀ u, -50 ≤ u → u ≤ 50 → Flag (s.1 61 (cx 1 u)) (∃ b p, T u b p) ∧ Flag (s.1 61 (cx 4 u)) (∃ a p, T a u p) ∧ Flag (s.1 61 (cx 2 u)) (∃ a b, T a b u) ∧ Flag (s.1 61 (cx 5 u)) (∃ a b p, T a b p ∧ u = qv V a b p) ∧ s.1 61 (cx 0 u) = 0 ∧ s.1 61 (cx 3 u) = 0) ∧
  (wd = true → ∀ m, m < 1024 → Flag (s.1 63 m) (∃ a b p, T a b p ∧ KM V a b p m))
theorem AccM.cg {V : Vw} {wd : Bool} {T T2 : Int → Int → Int → Prop} {n : Nat} {S : QS} (h : AccM V wd T n S) (e : ∀ a b p, T a b p ↔ T2 a b p) : AccM V wd T2 n S := by
  have : T = T2 := funext fun a => funext fun k => funext fun b => propext (e a k b)
  rw [← this]
  exact h
theorem cx_iff {r r2 : Nat} {v v2 : Int} (h1 : -50 ≤ v ∧ v ≤ 50) (h2 : -50 ≤ v2 ∧ v2 ≤ 50) : cx r v = cx r2 v2 ↔ r = r2 ∧ v = v2 := by
  unfold cx ix
  omega
def flg (V : Vw) (a b p : Int) (s : QS) : QS := setF 61 (cx 5 (qv V a b p)) 1 (setF 61 (cx 2 p) 1 (setF 61 (cx 4 b) 1 (setF 61 (cx 1 a) 1 s)))
theorem flg_at {V : Vw} {a b p : Int} (ha : -50 ≤ a ∧ a ≤ 50) (hb : -50 ≤ b ∧ b ≤ 50) (hp : -50 ≤ p ∧ p ≤ 50) (hq : -50 ≤ qv V a b p ∧ qv V a b p ≤ 50) {s : QS} {r : Nat} {u : Int} (hu : -50 ≤ u ∧ u ≤ 50) :
    (flg V a b p s).1 61 (cx r u) = if r = 5 ∧ u = qv V a b p then 1 else if r = 2 ∧ u = p then 1 else if r = 4 ∧ u = b then 1 else if r = 1 ∧ u = a then 1 else s.1 61 (cx r u) := by
  unfold flg
  rw [st_1, st_1, st_1, st_1]
  simp only [cx_iff hu hq, cx_iff hu hp, cx_iff hu hb, cx_iff hu ha, true_and]
theorem flg_ne {V : Vw} {a b p : Int} {s : QS} {k : Nat} (h : k ≠ 61) : (flg V a b p s).1 k = s.1 k := by
  unfold flg
  rw [st_nek h, st_nek h, st_nek h, st_nek h]
/-- one way more -/
theorem acc_way {V : Vw} {wd : Bool} {T : Int → Int → Int → Prop} {n d : Nat} {s : QS} (h : AccM V wd T n s) {a b p : Int} (ha : -50 ≤ a ∧ a ≤ 50) (hb : -50 ≤ b ∧ b ≤ 50) (hp : -50 ≤ p ∧ p ≤ 50) (hq : -50 ≤ qv V a b p ∧ qv V a b p ≤ 50)
    {s1 : QS} (h2 : s1.2 48 = lN (n + d)) (h61 : s1.1 61 = (flg V a b p s).1 61) (h63 : wd = true → ∀ m, m < 1024 → Flag (s1.1 63 m) ((∃ a b p, T a b p ∧ KM V a b p m) ∨ KM V a b p m)) :
    AccM V wd (fun a2 b2 p2 => T a2 b2 p2 ∨ (a2 = a ∧ b2 = b ∧ p2 = p)) (n + d) s1 := by
  obtain ⟨-, g, -⟩ := h
  refine ⟨h2, fun u hu1 hu2 => ?_, fun z m hm => (h63 z m hm).cg ?_⟩
  · obtain ⟨g1, g4, g2, g5, g0, g3⟩ := g u hu1 hu2
    have at61 : ∀ r, s1.1 61 (cx r u) = if r = 5 ∧ u = qv V a b p then 1 else if r = 2 ∧ u = p then 1 else if r = 4 ∧ u = b then 1 else if r = 1 ∧ u = a then 1 else s.1 61 (cx r u) := fun r => by
      rw [h61]
      exact flg_at ha hb hp hq ⟨hu1, hu2⟩
    refine ⟨(g1.set (c := u = a) inferInstance (y := s1.1 61 (cx 1 u)) ?_ (Q := u = a) Iff.rfl).cg ?_, (g4.set (c := u = b) inferInstance (y := s1.1 61 (cx 4 u)) ?_ (Q := u = b) Iff.rfl).cg ?_, (g2.set (c := u = p) inferInstance (y := s1.1 61 (cx 2 u)) ?_ (Q := u = p) Iff.rfl).cg ?_, (g5.set (c := u = qv V a b p) inferInstance (y := s1.1 61 (cx 5 u)) ?_ (Q := u = qv V a b p) Iff.rfl).cg ?_, ?_, ?_⟩
    · rw [at61 1, if_neg (fun z => by omega), if_neg (fun z => by omega), if_neg (fun z => by omega)]
      by_cases c : u = a
      · rw [if_pos ⟨rfl, c⟩, if_pos c]
      · rw [if_neg (fun z => c z.2), if_neg c]
    · constructor
      · rintro (⟨b2, p2, q⟩ | rfl)
        · exact ⟨b2, p2, Or.inl q⟩
        · exact ⟨b, p, Or.inr ⟨rfl, rfl, rfl⟩⟩
      · rintro ⟨b2, p2, q | ⟨q, -, -⟩⟩
        · exact Or.inl ⟨b2, p2, q⟩
        · exact Or.inr q
    · rw [at61 4, if_neg (fun z => by omega), if_neg (fun z => by omega)]
      by_cases c : u = b
      · rw [if_pos ⟨rfl, c⟩, if_pos c]
      · rw [if_neg (fun z => c z.2), if_neg (fun z => by omega), if_neg c]
    · constructor
      · rintro (⟨b2, p2, q⟩ | rfl)
        · exact ⟨b2, p2, Or.inl q⟩
        · exact ⟨a, p, Or.inr ⟨rfl, rfl, rfl⟩⟩
      · rintro ⟨b2, p2, q | ⟨-, q, -⟩⟩
        · exact Or.inl ⟨b2, p2, q⟩
        · exact Or.inr q
    · rw [at61 2, if_neg (fun z => by omega)]
      by_cases c : u = p
      · rw [if_pos ⟨rfl, c⟩, if_pos c]
      · rw [if_neg (fun z => c z.2), if_neg (fun z => by omega), if_neg (fun z => by omega), if_neg c]
    · constructor
      · rintro (⟨b2, p2, q⟩ | rfl)
        · exact ⟨b2, p2, Or.inl q⟩
        · exact ⟨a, b, Or.inr ⟨rfl, rfl, rfl⟩⟩
      · rintro ⟨b2, p2, q | ⟨-, -, q⟩⟩
        · exact Or.inl ⟨b2, p2, q⟩
        · exact Or.inr q
    · rw [at61 5]
      by_cases c : u = qv V a b p
      · rw [if_pos ⟨rfl, c⟩, if_pos c]
      · rw [if_neg (fun z => c z.2), if_neg (fun z => by omega), if_neg (fun z => by omega), if_neg (fun z => by omega), if_neg c]
    · constructor
      · rintro (⟨a2, b2, p2, q, q2⟩ | q)
        · exact ⟨a2, b2, p2, Or.inl q, q2⟩
        · exact ⟨a, b, p, Or.inr ⟨rfl, rfl, rfl⟩, q⟩
      · rintro ⟨a2, b2, p2, q | ⟨rfl, rfl, rfl⟩, q2⟩
        · exact Or.inl ⟨a2, b2, p2, q, q2⟩
        · exact Or.inr q2
    · rw [at61 0, if_neg (fun z => by omega), if_neg (fun z => by omega), if_neg (fun z => by omega), if_neg (fun z => by omega)]
      exact g0
    · rw [at61 3, if_neg (fun z => by omega), if_neg (fun z => by omega), if_neg (fun z => by omega), if_neg (fun z => by omega)]
      exact g3
  · constructor
    · rintro (⟨a2, b2, p2, q, q2⟩ | q)
      · exact ⟨a2, b2, p2, Or.inl q, q2⟩
      · exact ⟨a, b, p, Or.inr ⟨rfl, rfl, rfl⟩, q⟩
    · rintro ⟨a2, b2, p2, q | ⟨rfl, rfl, rfl⟩, q2⟩
      · exact Or.inl ⟨a2, b2, p2, q, q2⟩
      · exact Or.inr q2
/-- one AFTER of car 0 looked at -/
theorem r_step75 {V : Vw} (hV : VOk V) {set : Nat} {w : Int} {wd : Bool} {s : QS} (hG : GM V set w wd s) {a b p : Int} (ha : -50 ≤ a ∧ a ≤ 50) (hb : -50 ≤ b ∧ b ≤ 50) (hba : b < a) (hp : -50 ≤ p ∧ p ≤ 50) {n0 n1 : Nat} (hn0 : n0 ≤ 101) (hn1 : n1 ≤ 101) (fuel : Nat) :
    (wq V set w a b p = false → lp_X6_goes_75 (iv a) (iv b) (iv (n0 : Int)) (iv (n1 : Int)) (fuel + 1) (iv p) s = lp_X6_goes_75 (iv a) (iv b) (iv (n0 : Int)) (iv (n1 : Int)) fuel (iv (p + 1)) s) ∧
    (wq V set w a b p = true → lp_X6_goes_75 (iv a) (iv b) (iv (n0 : Int)) (iv (n1 : Int)) (fuel + 1) (iv p) s = if s.1 48 18 = 0 then lp_X6_goes_75 (iv a) (iv b) (iv (n0 : Int)) (iv (n1 : Int)) fuel (iv (p + 1)) (flg V a b p (setL 48 (s.2 48 + lN (n0 * n1)) s)) else
      (f_X6_masks (iv a) (iv b) (nI (fl V 2 p ||| fl V 5 (qv V a b p))) (flg V a b p (setL 48 (s.2 48 + lN (n0 * n1)) s))).bind fun S68 => lp_X6_goes_75 (iv a) (iv b) (iv (n0 : Int)) (iv (n1 : Int)) fuel (iv (p + 1)) S68) := by
  obtain ⟨hM, hC, -, -⟩ := hG
  have M0 := hV.1 0 (by decide)
  have M1 := hV.1 1 (by decide)
  have hr := qr_b hV ha hb hp
  have hqb : -20000 ≤ qv V a b p ∧ qv V a b p ≤ 20000 := tdiv_b hr
  have l1 := lin_b M0 (x := a - p) (by omega)
  have l2 := lin_b M1 (x := b) (by omega)
  have hqm : -2000000 ≤ qv V a b p * vM V 1 ∧ qv V a b p * vM V 1 ≤ 2000000 := by
    have h1 : 0 ≤ (20000 - qv V a b p) * vM V 1 := Int.mul_nonneg (by omega) (by omega)
    have h2 : 0 ≤ (20000 + qv V a b p) * vM V 1 := Int.mul_nonneg (by omega) (by omega)
    rw [Int.sub_mul] at h1
    rw [Int.add_mul] at h2
    omega
  have aft : ∀ u, -50 ≤ u → u ≤ 50 → s.1 60 (cx 2 u) = b2 (aq V set w 0 u) ∧ s.1 60 (cx 5 u) = b2 (aq V set w 1 u) := fun u h1 h2 => ⟨(hC 0 (by decide) u h1 h2).2, (hC 1 (by decide) u h1 h2).2⟩
  have eqr : iv (vM V 0) * (iv a - iv p) + iv (vM V 1) * iv b = iv (qr V a b p) := by
    rw [iv_sub, iv_mul, iv_mul, iv_add]
    rfl
  have cell2 : f_X6_cell 2 (iv p) = some (iv (101 * ((2 : Nat) : Int) + p + 50)) := r_cell
  have cell5 : ∀ q : Int, f_X6_cell 5 (iv q) = some (iv (101 * ((5 : Nat) : Int) + q + 50)) := fun q => r_cell
  have cell1 : f_X6_cell 1 (iv a) = some (iv (101 * ((1 : Nat) : Int) + a + 50)) := r_cell
  have cell4 : f_X6_cell 4 (iv b) = some (iv (101 * ((4 : Nat) : Int) + b + 50)) := r_cell
  have head : ∀ X : Option QS, (if iv (qv V a b p) * iv (vM V 1) = iv (qr V a b p) then (if iv (qv V a b p) < iv p then lp_X6_goes_75 (iv a) (iv b) (iv (n0 : Int)) (iv (n1 : Int)) fuel (iv (p + 1)) s
      else (if 50 < iv (qv V a b p) then lp_X6_goes_75 (iv a) (iv b) (iv (n0 : Int)) (iv (n1 : Int)) fuel (iv (p + 1)) s
      else (if b2 (aq V set w 0 p) = 0 then lp_X6_goes_75 (iv a) (iv b) (iv (n0 : Int)) (iv (n1 : Int)) fuel (iv (p + 1)) s
      else ((rdA 60 606 (iv (101 * ((5 : Nat) : Int) + qv V a b p + 50)) s).bind fun v35 => if v35 = 0 then lp_X6_goes_75 (iv a) (iv b) (iv (n0 : Int)) (iv (n1 : Int)) fuel (iv (p + 1)) s
      else (if iv (vM V 0 * p * p + vM V 1 * qv V a b p * qv V a b p) ≤ iv (vM V 0 * a * a + vM V 1 * b * b) then
        (wrZ 61 606 (iv (101 * ((5 : Nat) : Int) + qv V a b p + 50)) 1 (setF 61 (cx 2 p) 1 (setF 61 (cx 4 b) 1 (setF 61 (cx 1 a) 1 (setL 48 (s.2 48 + lN (n0 * n1)) s))))).bind fun S61 => if (S61.1 48 18) = 0 then (lp_X6_goes_75 (iv a) (iv b) (iv (n0 : Int)) (iv (n1 : Int)) fuel (iv (p + 1)) S61)
          else ((f_X6_falses 2 (iv p) S61).bind fun v64 => (f_X6_falses 5 (iv (qv V a b p)) S61).bind fun v66 => (f_X6_masks (iv a) (iv b) (v64 ||| v66) S61).bind fun S68 => lp_X6_goes_75 (iv a) (iv b) (iv (n0 : Int)) (iv (n1 : Int)) fuel (iv (p + 1)) S68)
        else lp_X6_goes_75 (iv a) (iv b) (iv (n0 : Int)) (iv (n1 : Int)) fuel (iv (p + 1)) s))))) else lp_X6_goes_75 (iv a) (iv b) (iv (n0 : Int)) (iv (n1 : Int)) fuel (iv (p + 1)) s) = X → lp_X6_goes_75 (iv a) (iv b) (iv (n0 : Int)) (iv (n1 : Int)) (fuel + 1) (iv p) s = X := by
    rintro X rfl
    rw [lp_X6_goes_75, if_neg (hi50 hp.2)]
    simp only [rdM0 hM, rdM1 hM, ob, eqr]
    rw [dv_iv (by omega) (by omega), ob, show (qr V a b p).tdiv (vM V 1) = qv V a b p from rfl]
    simp only [cell2, cell5, cell1, cell4, ob, rdC (show 2 < 6 by decide) hp, (aft p hp.1 hp.2).1, iv_one, stL, wzC (show 1 < 6 by decide) ha (Or.inr rfl), wzC (show 4 < 6 by decide) hb (Or.inr rfl), wzC (show 2 < 6 by decide) hp (Or.inr rfl), iv_mul, iv_add, iv_long (x := (n0 : Int)) (by omega), iv_long (x := (n1 : Int)) (by omega), Int.toNat_natCast, lN_mul]
  have ewq : wq V set w a b p = (decide (qv V a b p * vM V 1 = qr V a b p) && (decide (p ≤ qv V a b p) && (aq V set w 0 p && (aq V set w 1 (qv V a b p) && decide (vM V 0 * p * p + vM V 1 * qv V a b p * qv V a b p ≤ vM V 0 * a * a + vM V 1 * b * b))))) := by
    unfold wq
    rw [decide_eq_true hba, Bool.true_and]
  rw [ewq]
  by_cases c1 : qv V a b p * vM V 1 = qr V a b p
  · rw [decide_eq_true c1, Bool.true_and]
    by_cases c2 : p ≤ qv V a b p
    · rw [decide_eq_true c2, Bool.true_and]
      by_cases c3 : qv V a b p ≤ 50
      · have hq : -50 ≤ qv V a b p ∧ qv V a b p ≤ 50 := by omega
        have e0 := prod_b M0 ha
        have e1 := prod_b M1 hb
        have e2 := prod_b M0 hp
        have e3 := prod_b M1 hq
        cases c4 : aq V set w 0 p with
        | false =>
          refine ⟨fun _ => head _ ?_, fun z => by rw [Bool.false_and] at z; cases z⟩
          rw [iv_mul, if_pos (by rw [c1]), if_neg (n_lt (a := qv V a b p) (b := p) c2), if_neg (hi50 c3), c4, if_pos (by decide)]
        | true =>
          cases c5 : aq V set w 1 (qv V a b p) with
          | false =>
            refine ⟨fun _ => head _ ?_, fun z => by rw [Bool.false_and, Bool.and_false] at z; cases z⟩
            rw [iv_mul, if_pos (by rw [c1]), if_neg (n_lt (a := qv V a b p) (b := p) c2), if_neg (hi50 c3), c4, if_neg (by decide), rdC (by decide) hq, ob, (aft _ hq.1 hq.2).2, c5, if_pos (by decide)]
          | true =>
            by_cases c6 : vM V 0 * p * p + vM V 1 * qv V a b p * qv V a b p ≤ vM V 0 * a * a + vM V 1 * b * b
            · refine ⟨fun z => (by rw [decide_eq_true c6] at z; cases z), fun _ => head _ ?_⟩
              have hMf : MR V (flg V a b p (setL 48 (s.2 48 + lN (n0 * n1)) s)) := hM.kp (fun k h1 h2 => by rw [flg_ne (by omega), sl_1]) (by rw [flg_ne (by omega), sl_1]) (by rw [flg_ne (by omega), sl_1])
              rw [iv_mul, if_pos (by rw [c1]), if_neg (n_lt (a := qv V a b p) (b := p) c2), if_neg (hi50 c3), c4, if_neg (by decide), rdC (by decide) hq, ob, (aft _ hq.1 hq.2).2, c5, if_neg (by decide), if_pos (y_le c6 (by omega) (by omega)), wzC (by decide) hq (Or.inr rfl), ob]
              show (if (flg V a b p (setL 48 (s.2 48 + lN (n0 * n1)) s)).1 48 18 = 0 then _ else ((f_X6_falses (iv ((2 : Nat) : Int)) (iv p) (flg V a b p (setL 48 (s.2 48 + lN (n0 * n1)) s))).bind fun v64 => (f_X6_falses (iv ((5 : Nat) : Int)) (iv (qv V a b p)) (flg V a b p (setL 48 (s.2 48 + lN (n0 * n1)) s))).bind fun v66 => _)) = _
              rw [r_falses hV hMf (by decide) hp, ob, r_falses hV hMf (by decide) hq, ob, fa_or, flg_ne (by decide), sl_1]
              rfl
            · refine ⟨fun _ => head _ ?_, fun z => by rw [decide_eq_false c6] at z; cases z⟩
              rw [iv_mul, if_pos (by rw [c1]), if_neg (n_lt (a := qv V a b p) (b := p) c2), if_neg (hi50 c3), c4, if_neg (by decide), rdC (by decide) hq, ob, (aft _ hq.1 hq.2).2, c5, if_neg (by decide), if_neg (n_le (by omega) (by omega) (by omega))]
      · have c5 : aq V set w 1 (qv V a b p) = false := by
          cases h : aq V set w 1 (qv V a b p) with
          | false => rfl
          | true => exact absurd (lq_50q hV h).2 c3
        refine ⟨fun _ => head _ ?_, fun z => by rw [c5, Bool.false_and, Bool.and_false] at z; cases z⟩
        rw [iv_mul, if_pos (by rw [c1]), if_neg (n_lt (a := qv V a b p) (b := p) c2), if_pos (by rw [c_50]; exact y_lt (a := 50) (b := qv V a b p) (by omega))]
    · refine ⟨fun _ => head _ ?_, fun z => by rw [decide_eq_false c2, Bool.false_and] at z; cases z⟩
      rw [iv_mul, if_pos (by rw [c1]), if_pos (y_lt (a := qv V a b p) (b := p) (by omega))]
  · refine ⟨fun _ => head _ ?_, fun z => by rw [decide_eq_false c1, Bool.false_and] at z; cases z⟩
    rw [iv_mul, if_neg (n_eq c1)]
