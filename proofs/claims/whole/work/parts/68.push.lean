/-! one push is one AFTER: the ways of the desk are those of the reference -/
theorem share_x {m o : Nat} (hm : 1 ≤ m) : m / Nat.gcd m o * o = o / Nat.gcd o m * m := by
  have hg : 0 < Nat.gcd m o := Nat.gcd_pos_of_pos_left o hm
  rw [Nat.gcd_comm o m]
  obtain ⟨x, hx⟩ := Nat.gcd_dvd_left m o
  obtain ⟨y, hy⟩ := Nat.gcd_dvd_right m o
  have e1 : m / Nat.gcd m o = x := Nat.div_eq_of_eq_mul_right hg hx
  have e2 : o / Nat.gcd m o = y := Nat.div_eq_of_eq_mul_right hg hy
  have h1 : x * o = x * (Nat.gcd m o * y) := congrArg (x * ·) hy
  have h2 : y * m = y * (Nat.gcd m o * x) := congrArg (y * ·) hx
  rw [e1, e2, h1, h2, Nat.mul_left_comm x, Nat.mul_left_comm y, Nat.mul_comm x y]
theorem share_d {m o x : Nat} (hm : 1 ≤ m) (h : m ∣ o * x) : m / Nat.gcd m o ∣ x := by
  have hg : 0 < Nat.gcd m o := Nat.gcd_pos_of_pos_left o hm
  have hc : Nat.Coprime (m / Nat.gcd m o) (o / Nat.gcd m o) := Nat.coprime_div_gcd_div_gcd hg
  have h2 : Nat.gcd m o * (m / Nat.gcd m o) ∣ Nat.gcd m o * (o / Nat.gcd m o * x) := by
    rw [Nat.mul_div_cancel' (Nat.gcd_dvd_left m o), ← Nat.mul_assoc, Nat.mul_div_cancel' (Nat.gcd_dvd_right m o)]
    exact h
  exact Nat.Coprime.dvd_of_dvd_mul_left hc (Nat.dvd_of_mul_dvd_mul_left hg h2)
theorem mul_sgn {c t : Int} (hc : 0 < c) : 0 ≤ c * t ↔ 0 ≤ t := by
  constructor
  · intro h
    refine Int.not_lt.mp (fun z => ?_)
    have h2 : c * t < 0 := Int.mul_neg_of_pos_of_neg hc z
    omega
  · exact fun h => Int.mul_nonneg (by omega) h
theorem q_pos {V : Vw} (hV : VOk V) : (1 ≤ qL V ∧ qL V ≤ 100) ∧ (1 ≤ qG V ∧ qG V ≤ 100) ∧ (1 ≤ vM V 0 ∧ vM V 0 ≤ 100) ∧ (1 ≤ vM V 1 ∧ vM V 1 ≤ 100) := by
  have M0 := hV.1 0 (by decide)
  have M1 := hV.1 1 (by decide)
  exact ⟨share_b (by omega), share_b (by omega), M0, M1⟩
theorem q_x {V : Vw} (hV : VOk V) : qL V * vM V 0 = qG V * vM V 1 := by
  have M0 := hV.1 0 (by decide)
  have M1 := hV.1 1 (by decide)
  have h := share_x (m := (vM V 1).toNat) (o := (vM V 0).toNat) (by omega)
  have h2 := congrArg (Nat.cast : Nat → Int) h
  rw [Int.natCast_mul, Int.natCast_mul, Int.toNat_of_nonneg (by omega), Int.toNat_of_nonneg (by omega)] at h2
  exact h2
theorem q_dvd {V : Vw} (hV : VOk V) {x y : Int} (hx : 0 ≤ x) (h : vM V 0 * x = vM V 1 * y) : ∃ k, x = k * qL V := by
  have M0 := hV.1 0 (by decide)
  have M1 := hV.1 1 (by decide)
  have hy : 0 ≤ y := by
    have h1 : 0 ≤ vM V 1 * y := by rw [← h]; exact Int.mul_nonneg (by omega) hx
    exact (mul_sgn (by omega)).mp h1
  have hn : (vM V 0).toNat * x.toNat = (vM V 1).toNat * y.toNat := by
    apply Int.ofNat_inj.mp
    rw [Int.natCast_mul, Int.natCast_mul, Int.toNat_of_nonneg hx, Int.toNat_of_nonneg hy, Int.toNat_of_nonneg (by omega), Int.toNat_of_nonneg (by omega)]
    exact h
  obtain ⟨k, hk⟩ := share_d (m := (vM V 1).toNat) (o := (vM V 0).toNat) (x := x.toNat) (by omega) ⟨_, hn⟩
  refine ⟨(k : Int), ?_⟩
  have h2 := congrArg (Nat.cast : Nat → Int) hk
  rw [Int.natCast_mul, Int.toNat_of_nonneg hx, Int.mul_comm] at h2
  exact h2
theorem qr_at {V : Vw} (hV : VOk V) (a b k : Int) : qr V a b (a - k * qL V) = (b + k * qG V) * vM V 1 := by
  have h := q_x hV
  unfold qr
  generalize qL V = L at h ⊢
  generalize qG V = G at h ⊢
  generalize vM V 0 = m0 at h ⊢
  generalize vM V 1 = m1 at h ⊢
  grind
theorem qv_at {V : Vw} (hV : VOk V) (a b k : Int) : qv V a b (a - k * qL V) = b + k * qG V := by
  have M1 := hV.1 1 (by decide)
  unfold qv
  rw [qr_at hV]
  exact Int.mul_tdiv_cancel _ (by omega)
theorem en_at {V : Vw} (hV : VOk V) {a b k : Int} (hk : 1 ≤ k) : vM V 0 * (a - k * qL V) * (a - k * qL V) + vM V 1 * (b + k * qG V) * (b + k * qG V) ≤ vM V 0 * a * a + vM V 1 * b * b ↔ k * (qL V + qG V) ≤ 2 * (a - b) := by
  obtain ⟨l1, g1, M0, M1⟩ := q_pos hV
  have h := q_x hV
  generalize qL V = L at h l1 ⊢
  generalize qG V = G at h g1 ⊢
  generalize vM V 0 = m0 at h M0 ⊢
  generalize vM V 1 = m1 at h M1 ⊢
  have e : m0 * a * a + m1 * b * b - (m0 * (a - k * L) * (a - k * L) + m1 * (b + k * G) * (b + k * G)) = (L * m0) * k * (2 * (a - b) - k * (L + G)) := by grind
  have hc : 0 < L * m0 * k := Int.mul_pos (Int.mul_pos (by omega) (by omega)) (by omega)
  have h2 := mul_sgn (t := 2 * (a - b) - k * (L + G)) hc
  rw [← e] at h2
  generalize m0 * (a - k * L) * (a - k * L) + m1 * (b + k * G) * (b + k * G) = y1 at h2 ⊢
  generalize m0 * a * a + m1 * b * b = y2 at h2 ⊢
  generalize k * (L + G) = y3 at h2 ⊢
  constructor
  · intro z
    have := h2.mp (by omega)
    omega
  · intro z
    have := h2.mpr (by omega)
    omega
/-- the pushes that lead from AT a, b to some AFTER -/
def pk (V : Vw) (set : Nat) (w a b k : Int) : Bool := rgq (qL V) (qG V) a k b && (aq V set w 0 (a - k * qL V) && aq V set w 1 (b + k * qG V))
theorem rg_iff {L G a k b : Int} : rgq L G a k b = true ↔ a - k * (L + G) ≤ b ∧ k * (L + G) ≤ 2 * (a - b) := by
  unfold rgq
  simp only [Bool.and_eq_true, decide_eq_true_eq]
theorem wq_at {V : Vw} (hV : VOk V) {set : Nat} {w a b k : Int} (hk : 1 ≤ k) : wq V set w a b (a - k * qL V) = true ↔ pk V set w a b k = true := by
  obtain ⟨l1, g1, M0, M1⟩ := q_pos hV
  unfold wq pk
  simp only [Bool.and_eq_true, decide_eq_true_eq]
  rw [rg_iff, qv_at hV, qr_at hV, en_at hV hk]
  have hm : 0 < k * (qL V + qG V) := Int.mul_pos (by omega) (by omega)
  have e : k * (qL V + qG V) = k * qL V + k * qG V := Int.mul_add _ _ _
  generalize k * (qL V + qG V) = y1 at hm e ⊢
  constructor
  · rintro ⟨h1, -, h3, h4, h5, h6⟩
    exact ⟨⟨by omega, h6⟩, h4, h5⟩
  · rintro ⟨⟨h1, h2⟩, h4, h5⟩
    exact ⟨by omega, rfl, by omega, h4, h5, h2⟩
theorem wq_k {V : Vw} (hV : VOk V) {set : Nat} {w a b p : Int} (ha : a ≤ 50) (hp : -50 ≤ p) (h : wq V set w a b p = true) : ∃ k, (1 ≤ k ∧ k ≤ 101) ∧ p = a - k * qL V ∧ pk V set w a b k = true := by
  obtain ⟨l1, g1, M0, M1⟩ := q_pos hV
  have h0 := h
  unfold wq at h
  simp only [Bool.and_eq_true, decide_eq_true_eq] at h
  obtain ⟨h1, h2, h3, -, -, -⟩ := h
  unfold qr at h2
  generalize qv V a b p = q at h2 h3
  have e : vM V 0 * (a - p) = vM V 1 * (q - b) := by
    generalize vM V 0 = m0 at h2 ⊢
    generalize vM V 1 = m1 at h2 ⊢
    grind
  have hx : 0 < a - p := by
    refine Int.not_le.mp (fun z => ?_)
    have e1 : 0 ≤ vM V 0 * (p - a) := Int.mul_nonneg (by omega) (by omega)
    have e2 : vM V 0 * (p - a) = vM V 1 * (b - q) := by
      generalize vM V 0 = m0 at e ⊢
      generalize vM V 1 = m1 at e ⊢
      grind
    rw [e2] at e1
    have e3 := (mul_sgn (by omega)).mp e1
    omega
  obtain ⟨k, hk⟩ := q_dvd hV (by omega) e
  have hk1 : 1 ≤ k := by
    refine Int.not_lt.mp (fun z => ?_)
    have e1 : 0 ≤ qL V * (-k) := Int.mul_nonneg (by omega) (by omega)
    rw [Int.mul_neg, Int.mul_comm, ← hk] at e1
    omega
  have hk2 : k ≤ 101 := by
    have e1 : 0 ≤ (qL V - 1) * k := Int.mul_nonneg (by omega) (by omega)
    rw [Int.sub_mul, Int.one_mul, Int.mul_comm, ← hk] at e1
    omega
  have hp : p = a - k * qL V := by omega
  subst hp
  exact ⟨k, ⟨hk1, hk2⟩, rfl, (wq_at hV hk1).mp h0⟩
/-- the ways: AT a, b and AFTER p of car 0 -/
def TW (V : Vw) (set : Nat) (w a b p : Int) : Prop := (-50 ≤ a ∧ a ≤ 50) ∧ (-50 ≤ b ∧ b ≤ 50) ∧ (-50 ≤ p ∧ p ≤ 50) ∧ wq V set w a b p = true ∧ 0 < nT V set w a b
theorem tt_pk {V : Vw} {set : Nat} {w a k b : Int} : TT V set w (qL V) (qG V) a k b ↔ (-50 ≤ a ∧ a ≤ 50) ∧ (-50 ≤ b ∧ b ≤ 50) ∧ (1 ≤ k ∧ k ≤ 101) ∧ pk V set w a b k = true ∧ 0 < nT V set w a b := by
  unfold TT Tq Mt pk okq nT
  simp only [Bool.and_eq_true, decide_eq_true_eq]
  constructor
  · rintro ⟨h1, h2, h3, h4, h5, h6, h7, h8⟩
    exact ⟨h1, h5, h3, ⟨h6, h4, h8⟩, Nat.mul_pos h2 h7⟩
  · rintro ⟨h1, h5, h3, ⟨h6, h4, h8⟩, hn⟩
    exact ⟨h1, Nat.pos_of_mul_pos_right hn, h3, h4, h5, h6, Nat.pos_of_mul_pos_left hn, h8⟩
theorem pk_50 {V : Vw} (hV : VOk V) {set : Nat} {w a b k : Int} (h : pk V set w a b k = true) : (-50 ≤ a - k * qL V ∧ a - k * qL V ≤ 50) ∧ (-50 ≤ b + k * qG V ∧ b + k * qG V ≤ 50) := by
  unfold pk at h
  simp only [Bool.and_eq_true] at h
  exact ⟨aq_50 hV h.2.1, lq_50q hV h.2.2⟩
theorem tt_tw {V : Vw} (hV : VOk V) {set : Nat} {w a k b : Int} (h : TT V set w (qL V) (qG V) a k b) : TW V set w a b (a - k * qL V) := by
  obtain ⟨h1, h2, h3, h4, h5⟩ := tt_pk.mp h
  exact ⟨h1, h2, (pk_50 hV h4).1, (wq_at hV h3.1).mpr h4, h5⟩
theorem tw_tt {V : Vw} (hV : VOk V) {set : Nat} {w a b p : Int} (h : TW V set w a b p) : ∃ k, TT V set w (qL V) (qG V) a k b ∧ p = a - k * qL V ∧ qv V a b p = b + k * qG V := by
  obtain ⟨h1, h2, h3, h4, h5⟩ := h
  obtain ⟨k, k1, k2, k3⟩ := wq_k hV h1.2 h3.1 h4
  exact ⟨k, tt_pk.mpr ⟨h1, h2, k1, k3, h5⟩, k2, by rw [k2]; exact qv_at hV a b k⟩
theorem b2n_mul (c : Bool) (n : Nat) : (if c then n else 0) = n * (if c then 1 else 0) := by cases c <;> simp
theorem pk_count {V : Vw} (hV : VOk V) {set : Nat} {w a b : Int} (ha : -50 ≤ a ∧ a ≤ 50) : fb_sm (fun i => if pk V set w a b ((i : Int) + 1) then 1 else 0) 101 = sm (fun p => if wq V set w a b p then 1 else 0) := by
  obtain ⟨l1, g1, M0, M1⟩ := q_pos hV
  have inj : ∀ k k2 : Int, a - k * qL V = a - k2 * qL V → k = k2 := fun k k2 h => by
    have e : (k - k2) * qL V = 0 := by rw [Int.sub_mul]; omega
    rcases Int.mul_eq_zero.mp e with z | z <;> omega
  refine fb_sm_match (m := 101) (n := 101) (P := fun i => pk V set w a b ((i : Int) + 1)) (Q := fun j => wq V set w a b ((j : Int) - 50)) (R := fun i j => pk V set w a b ((i : Int) + 1) && decide ((j : Int) - 50 = a - ((i : Int) + 1) * qL V)) (fun i hi hP => ?_) (fun i hi hP j hj => ?_) (fun j hj hQ => ?_) (fun j hj hQ i hi => ?_)
  · have hP : pk V set w a b ((i : Int) + 1) = true := hP
    have h5 : -50 ≤ a - ((i : Int) + 1) * qL V ∧ a - ((i : Int) + 1) * qL V ≤ 50 := (pk_50 hV hP).1
    refine ⟨(a - ((i : Int) + 1) * qL V + 50).toNat, by omega, fun j2 hj2 => ?_⟩
    simp only [Bool.and_eq_true, decide_eq_true_eq]
    constructor
    · rintro ⟨-, h⟩; omega
    · intro h; exact ⟨hP, by omega⟩
  · show (pk V set w a b ((i : Int) + 1) && _) = false
    rw [show pk V set w a b ((i : Int) + 1) = false from hP, Bool.false_and]
  · obtain ⟨k, k1, k2, k3⟩ := wq_k hV ha.2 (by omega) hQ
    refine ⟨(k - 1).toNat, by omega, fun i2 hi2 => ?_⟩
    simp only [Bool.and_eq_true, decide_eq_true_eq]
    constructor
    · rintro ⟨-, h⟩
      have := inj k ((i2 : Int) + 1) (by rw [← k2, h])
      omega
    · intro h
      have e : (i2 : Int) + 1 = k := by omega
      rw [e]
      exact ⟨k3, k2⟩
  · show (_ && decide _) = false
    cases hp : pk V set w a b ((i : Int) + 1) with
    | false => rfl
    | true =>
      rw [Bool.true_and, decide_eq_false_iff_not]
      intro z
      have h := (wq_at hV (k := (i : Int) + 1) (by omega)).mpr hp
      rw [← z] at h
      rw [show wq V set w a b ((j : Int) - 50) = false from hQ] at h
      cases h
theorem Nq_sum {V : Vw} {set : Nat} {w a : Int} : Nq V set w (qL V) (qG V) a = sm (fun b => nT V set w a b * fb_sm (fun i => if pk V set w a b ((i : Int) + 1) then 1 else 0) 101) := by
  have e1 : ∀ i : Nat, Hq V set w (qL V) (qG V) a ((i : Int) + 1) = sm (fun b => nT V set w a b * (if pk V set w a b ((i : Int) + 1) then 1 else 0)) := fun i => by
    unfold Hq
    cases h : aq V set w 0 (a - ((i : Int) + 1) * qL V) with
    | false =>
      rw [if_neg (by decide)]
      refine (smv_z (fun b _ _ => ?_)).symm
      rw [if_neg, Nat.mul_zero]
      unfold pk
      rw [h, Bool.false_and, Bool.and_false]
      decide
    | true =>
      rw [if_pos rfl, Nat.mul_comm, ← sm_mul]
      refine sm_cong (fun b _ _ => ?_)
      unfold mtq pk nT okq
      rw [h, Bool.true_and, ← b2n_mul]
      cases rgq (qL V) (qG V) a ((i : Int) + 1) b <;> cases aq V set w 1 (b + ((i : Int) + 1) * qG V) <;> rcases Nat.eq_zero_or_pos (nq V set w 1 b) with z | z <;> simp [z]
  unfold Nq
  rw [fb_sm_cong (fun i _ => e1 i)]
  show fb_sm (fun i => fb_sm (fun j => nT V set w a ((j : Int) - 50) * (if pk V set w a ((j : Int) - 50) ((i : Int) + 1) then 1 else 0)) 101) 101 = fb_sm (fun j => nT V set w a ((j : Int) - 50) * fb_sm (fun i => if pk V set w a ((j : Int) - 50) ((i : Int) + 1) then 1 else 0) 101) 101
  rw [fb_sm_swap]
  exact fb_sm_cong (fun j _ => fb_sm_mul _ _ _)
theorem nW_eq {V : Vw} (hV : VOk V) {set : Nat} {w : Int} : sm (Nq V set w (qL V) (qG V)) = nW V set w := by
  unfold nW
  refine sm_cong (fun a h1 h2 => ?_)
  rw [Nq_sum]
  refine sm_cong (fun b h3 h4 => ?_)
  rw [pk_count hV ⟨h1, h2⟩, ← sm_mul]
  exact sm_cong (fun p _ _ => (b2n_mul _ _).symm)
/-- a speed is this number by some way -/
def Sn (V : Vw) (set : Nat) (w : Int) (r : Nat) (u : Int) : Prop :=
  match r with
  | 0 => ∃ v, (-50 ≤ v ∧ v ≤ 50) ∧ (∃ b p, TW V set w v b p) ∧ fq V set w 0 u v = true
  | 1 => ∃ b p, TW V set w u b p
  | 2 => ∃ a b, TW V set w a b u
  | 3 => ∃ v, (-50 ≤ v ∧ v ≤ 50) ∧ (∃ a p, TW V set w a v p) ∧ fq V set w 1 u v = true
  | 4 => ∃ a p, TW V set w a u p
  | _ => ∃ a b p, TW V set w a b p ∧ u = qv V a b p
/-- what a way costs -/
def PW (V : Vw) (set : Nat) (w : Int) (x : Nat) : Prop := ∃ a b p, TW V set w a b p ∧ ∃ y z, PA V set w 1 b y ∧ PA V set w 0 a z ∧ x = y + pq V 5 (qv V a b p) + z + pq V 2 p
theorem res_at {V : Vw} (hV : VOk V) {set : Nat} {w : Int} {S : QS} (h : Res V set w S) : S.2 25 = lN (nW V set w) ∧ (∀ r, r < 6 → ∀ u, -50 ≤ u → u ≤ 50 → Flag (S.1 (kp r + 2) (ix u)) (Sn V set w r u)) ∧ MinP (S.1 25 3) (PW V set w) := by
  obtain ⟨⟨h1, h2, h3⟩, h4, h5⟩ := h
  have A0 : ∀ u, (∃ k b, TT V set w (qL V) (qG V) u k b) ↔ ∃ b p, TW V set w u b p := fun u => ⟨fun ⟨k, b, q⟩ => ⟨b, _, tt_tw hV q⟩, fun ⟨b, p, q⟩ => by
    obtain ⟨k, q1, -⟩ := tw_tt hV q
    exact ⟨k, b, q1⟩⟩
  have A1 : ∀ u, (∃ a k, TT V set w (qL V) (qG V) a k u) ↔ ∃ a p, TW V set w a u p := fun u => ⟨fun ⟨a, k, q⟩ => ⟨a, _, tt_tw hV q⟩, fun ⟨a, p, q⟩ => by
    obtain ⟨k, q1, -⟩ := tw_tt hV q
    exact ⟨a, k, q1⟩⟩
  refine ⟨by rw [h1, nW_eq hV], fun r hr u hu1 hu2 => ?_, h2.cg (fun x => ?_)⟩
  · rcases (show r = 0 ∨ r = 1 ∨ r = 2 ∨ r = 3 ∨ r = 4 ∨ r = 5 by omega) with rfl | rfl | rfl | rfl | rfl | rfl
    · refine (h4 u hu1 hu2).cg ?_
      exact ⟨fun ⟨v, q1, q2, q3⟩ => ⟨v, q1, (A0 v).mp q2, q3⟩, fun ⟨v, q1, q2, q3⟩ => ⟨v, q1, (A0 v).mpr q2, q3⟩⟩
    · exact (h3 u hu1 hu2).1.cg (A0 u)
    · refine (h3 u hu1 hu2).2.1.cg ?_
      constructor
      · rintro ⟨a, k, b, q, rfl⟩
        exact ⟨a, b, tt_tw hV q⟩
      · rintro ⟨a, b, q⟩
        obtain ⟨k, q1, q2, -⟩ := tw_tt hV q
        exact ⟨a, k, b, q1, q2⟩
    · refine (h5 u hu1 hu2).cg ?_
      exact ⟨fun ⟨v, q1, q2, q3⟩ => ⟨v, q1, (A1 v).mp q2, q3⟩, fun ⟨v, q1, q2, q3⟩ => ⟨v, q1, (A1 v).mpr q2, q3⟩⟩
    · exact (h3 u hu1 hu2).2.2.1.cg (A1 u)
    · refine (h3 u hu1 hu2).2.2.2.cg ?_
      constructor
      · rintro ⟨a, k, b, q, rfl⟩
        exact ⟨a, b, _, tt_tw hV q, (qv_at hV a b k).symm⟩
      · rintro ⟨a, b, p, q, rfl⟩
        obtain ⟨k, q1, -, q3⟩ := tw_tt hV q
        exact ⟨a, k, b, q1, q3⟩
  · constructor
    · rintro ⟨a, k, b, q, y, z, y1, z1, rfl⟩
      exact ⟨a, b, _, tt_tw hV q, y, z, y1, z1, by rw [qv_at hV]⟩
    · rintro ⟨a, b, p, q, y, z, y1, z1, rfl⟩
      obtain ⟨k, q1, q2, q3⟩ := tw_tt hV q
      exact ⟨a, k, b, q1, y, z, y1, z1, by rw [q3, ← q2]⟩
