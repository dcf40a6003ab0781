/-! sums over -50 .. 50 -/
theorem ob {α β : Type} (a : α) (f : α → Option β) : (some a).bind f = f a := rfl
def smv (f : Int → Nat) (v : Int) : Nat := fb_sm (fun j => f ((j : Int) - 50)) (ix v)
def sm (f : Int → Nat) : Nat := smv f 51
theorem smv_0 (f : Int → Nat) : smv f (-50) = 0 := rfl
theorem smv_s (f : Int → Nat) {v : Int} (h : -50 ≤ v) : smv f (v + 1) = smv f v + f v := by
  unfold smv
  have e : ix (v + 1) = ix v + 1 := by unfold ix; omega
  have e2 : ((ix v : Nat) : Int) - 50 = v := by unfold ix; omega
  rw [e, fb_sm_succ, e2]
theorem smv_cong {f g : Int → Nat} {v : Int} (h : ∀ w, -50 ≤ w → w < v → f w = g w) : smv f v = smv g v := by
  unfold smv
  exact fb_sm_cong (fun k hk => h _ (by omega) (by unfold ix at hk; omega))
theorem sm_cong {f g : Int → Nat} (h : ∀ w, -50 ≤ w → w ≤ 50 → f w = g w) : sm f = sm g := smv_cong (fun w h1 h2 => h w h1 (by omega))
theorem fb_sm_0 {f : Nat → Nat} : ∀ {n : Nat}, (∀ k, k < n → f k = 0) → fb_sm f n = 0
  | 0, _ => rfl
  | n + 1, h => by rw [fb_sm_succ, fb_sm_0 (fun k hk => h k (by omega)), h n (by omega)]
theorem smv_z {f : Int → Nat} {v : Int} (h : ∀ w, -50 ≤ w → w < v → f w = 0) : smv f v = 0 := by
  unfold smv
  exact fb_sm_0 (fun k hk => h _ (by omega) (by unfold ix at hk; omega))
theorem smv_up {f : Int → Nat} {v : Int} (h1 : -50 ≤ v) (hv : v ≤ 51) (h : ∀ w, v ≤ w → w ≤ 50 → f w = 0) : smv f v = sm f := by
  have key : ∀ n : Nat, v + n ≤ 51 → smv f (v + n) = smv f v := by
    intro n
    induction n with
    | zero => intro _; simp
    | succ n ih =>
      intro hn
      have e : v + ((n + 1 : Nat) : Int) = (v + n) + 1 := by omega
      rw [e, smv_s f (by omega), ih (by omega), h (v + n) (by omega) (by omega)]
      rfl
  have := key (51 - v).toNat (by omega)
  rw [show v + ((51 - v).toNat : Int) = 51 by omega] at this
  exact this.symm
theorem fb_sm_swap (f : Nat → Nat → Nat) (m : Nat) : ∀ n, fb_sm (fun i => fb_sm (fun j => f i j) m) n = fb_sm (fun j => fb_sm (fun i => f i j) n) m
  | 0 => (fb_sm_0 (fun _ _ => rfl)).symm
  | n + 1 => by
    rw [fb_sm_succ, fb_sm_swap f m n, ← fb_sm_add]
    rfl
theorem fb_sm_mul (c : Nat) (f : Nat → Nat) : ∀ n, fb_sm (fun k => c * f k) n = c * fb_sm f n
  | 0 => rfl
  | n + 1 => by rw [fb_sm_succ, fb_sm_succ, fb_sm_mul c f n, Nat.mul_add]
theorem sm_mul (c : Nat) (f : Int → Nat) : sm (fun v => c * f v) = c * sm f := fb_sm_mul c _ _
theorem sm_swap (f : Int → Int → Nat) : sm (fun a => sm (fun b => f a b)) = sm (fun b => sm (fun a => f a b)) := fb_sm_swap (fun i j => f ((i : Int) - 50) ((j : Int) - 50)) 101 101
theorem smv_le {f : Int → Nat} {c : Nat} {v : Int} (h : ∀ w, -50 ≤ w → w < v → f w ≤ c) : smv f v ≤ ix v * c := fb_sm_bound (fun k hk => h _ (by omega) (by unfold ix at hk; omega))
theorem sm_le {f : Int → Nat} {c : Nat} (h : ∀ w, -50 ≤ w → w ≤ 50 → f w ≤ c) : sm f ≤ 101 * c := smv_le (fun w h1 h2 => h w h1 (by omega))
theorem fb_sm_pos {f : Nat → Nat} : ∀ {n : Nat}, 0 < fb_sm f n → ∃ k, k < n ∧ 0 < f k
  | 0, h => absurd h (by simp [fb_sm])
  | n + 1, h => by
    rw [fb_sm_succ] at h
    rcases Nat.eq_zero_or_pos (f n) with z | z
    · obtain ⟨k, h1, h2⟩ := fb_sm_pos (f := f) (n := n) (by omega)
      exact ⟨k, by omega, h2⟩
    · exact ⟨n, by omega, z⟩
theorem smv_pos {f : Int → Nat} {v : Int} : 0 < smv f v ↔ ∃ w, -50 ≤ w ∧ w < v ∧ 0 < f w := by
  constructor
  · intro h
    obtain ⟨k, h1, h2⟩ := fb_sm_pos h
    exact ⟨(k : Int) - 50, by omega, by unfold ix at h1; omega, h2⟩
  · rintro ⟨w, h1, h2, h3⟩
    have h4 := fb_sm_part (fun j : Nat => f ((j : Int) - 50)) (i := ix w) (n := ix v) (by unfold ix; omega)
    have e : ((ix w : Nat) : Int) - 50 = w := by unfold ix; omega
    simp only [e] at h4
    unfold smv
    omega
theorem sm_pos {f : Int → Nat} : 0 < sm f ↔ ∃ w, -50 ≤ w ∧ w ≤ 50 ∧ 0 < f w := by
  rw [show sm f = smv f 51 from rfl, smv_pos]
  constructor
  · rintro ⟨w, h1, h2, h3⟩; exact ⟨w, h1, by omega, h3⟩
  · rintro ⟨w, h1, h2, h3⟩; exact ⟨w, h1, by omega, h3⟩
/-- one place alone -/
theorem fb_sm_one (c : Nat) {i n : Nat} (h : i < n) : fb_sm (fun k => if k = i then c else 0) n = c := by
  have h1 := fb_sm_upd (fun _ => 0) c h
  have h2 : fb_sm (fun _ => 0) n = 0 := fb_sm_0 (fun _ _ => rfl)
  simp only [h2] at h1
  omega
/-- the sum read from the other end -/
theorem fb_sm_rev (f : Nat → Nat) : ∀ n, fb_sm (fun k => f (n - 1 - k)) n = fb_sm f n
  | 0 => rfl
  | n + 1 => by
    have e : fb_sm (fun k => f (n + 1 - 1 - k)) (n + 1) = f n + fb_sm (fun k => f (n - 1 - k)) n := by
      have h := fb_sm_split (fun k => f (n + 1 - 1 - k)) 1 n
      rw [Nat.add_comm 1 n] at h
      rw [h]
      have e1 : fb_sm (fun k => f (n + 1 - 1 - k)) 1 = f n := by
        show 0 + f (n + 1 - 1 - 0) = f n
        rw [Nat.zero_add]; congr 1
      rw [e1]
      congr 1
      exact fb_sm_cong (fun k hk => by congr 1; omega)
    rw [e, fb_sm_rev f n, fb_sm_succ]
    omega
theorem sm_rev (f : Int → Nat) : sm (fun v => f (-v)) = sm f := by
  show fb_sm (fun j => f (-((j : Int) - 50))) 101 = fb_sm (fun j => f ((j : Int) - 50)) 101
  rw [← fb_sm_rev (fun j => f ((j : Int) - 50)) 101]
  exact fb_sm_cong (fun k hk => by congr 1; omega)
/-- two ways to count pairs that answer each other -/
theorem fb_sm_match {P : Nat → Bool} {Q : Nat → Bool} {R : Nat → Nat → Bool} {m n : Nat} (hP : ∀ k, k < m → P k = true → ∃ j, j < n ∧ ∀ j2, j2 < n → (R k j2 = true ↔ j2 = j)) (hP0 : ∀ k, k < m → P k = false → ∀ j, j < n → R k j = false)
    (hQ : ∀ j, j < n → Q j = true → ∃ k, k < m ∧ ∀ k2, k2 < m → (R k2 j = true ↔ k2 = k)) (hQ0 : ∀ j, j < n → Q j = false → ∀ k, k < m → R k j = false) : fb_sm (fun k => if P k then 1 else 0) m = fb_sm (fun j => if Q j then 1 else 0) n := by
  have e1 : fb_sm (fun k => if P k then 1 else 0) m = fb_sm (fun k => fb_sm (fun j => if R k j then 1 else 0) n) m := by
    refine fb_sm_cong (fun k hk => ?_)
    cases hp : P k with
    | false =>
      simp only [if_false, Bool.false_eq_true]
      exact (fb_sm_0 (fun j hj => by rw [hP0 k hk hp j hj]; rfl)).symm
    | true =>
      obtain ⟨j, h1, h2⟩ := hP k hk hp
      rw [if_pos rfl]
      refine (fb_sm_one 1 h1).symm.trans (fb_sm_cong (fun j2 hj2 => ?_))
      by_cases c : j2 = j
      · rw [if_pos c, if_pos ((h2 j2 hj2).mpr c)]
      · rw [if_neg c, if_neg (fun z => c ((h2 j2 hj2).mp z))]
  have e2 : fb_sm (fun j => if Q j then 1 else 0) n = fb_sm (fun j => fb_sm (fun k => if R k j then 1 else 0) m) n := by
    refine fb_sm_cong (fun j hj => ?_)
    cases hq : Q j with
    | false =>
      simp only [if_false, Bool.false_eq_true]
      exact (fb_sm_0 (fun k hk => by rw [hQ0 j hj hq k hk]; rfl)).symm
    | true =>
      obtain ⟨k, h1, h2⟩ := hQ j hj hq
      rw [if_pos rfl]
      refine (fb_sm_one 1 h1).symm.trans (fb_sm_cong (fun k2 hk2 => ?_))
      by_cases c : k2 = k
      · rw [if_pos c, if_pos ((h2 k2 hk2).mpr c)]
      · rw [if_neg c, if_neg (fun z => c ((h2 k2 hk2).mp z))]
  rw [e1, e2, fb_sm_swap]
/-! THE SCENE: what was told -/
abbrev Vw : Type := (Nat → Int) × (Nat → Int) × (Nat → Int) × Nat × (Nat → Nat × Bool × Int × Int × Bool) × Nat × (Nat → Nat × Int × Int)
def vM (V : Vw) (c : Nat) : Int := V.1 c
def vLo (V : Vw) (r : Nat) : Int := V.2.1 r
def vHi (V : Vw) (r : Nat) : Int := V.2.2.1 r
def vNs (V : Vw) : Nat := V.2.2.2.1
def kCar (V : Vw) (s : Nat) : Nat := (V.2.2.2.2.1 s).1
def kBeh (V : Vw) (s : Nat) : Bool := (V.2.2.2.2.1 s).2.1
def kLo (V : Vw) (s : Nat) : Int := (V.2.2.2.2.1 s).2.2.1
def kHi (V : Vw) (s : Nat) : Int := (V.2.2.2.2.1 s).2.2.2.1
def kOn (V : Vw) (s : Nat) : Bool := (V.2.2.2.2.1 s).2.2.2.2
def vNt (V : Vw) : Nat := V.2.2.2.2.2.1
def tRow (V : Vw) (t : Nat) : Nat := (V.2.2.2.2.2.2 t).1
def tLo (V : Vw) (t : Nat) : Int := (V.2.2.2.2.2.2 t).2.1
def tHi (V : Vw) (t : Nat) : Int := (V.2.2.2.2.2.2 t).2.2
/-- the bounds that every telling keeps -/
def VOk (V : Vw) : Prop := (∀ c, c < 2 → 1 ≤ vM V c ∧ vM V c ≤ 100) ∧ (∀ r, r < 6 → -50 ≤ vLo V r ∧ vLo V r ≤ 50 ∧ -50 ≤ vHi V r ∧ vHi V r ≤ 50) ∧ vNs V ≤ 12 ∧ (∀ s, s < vNs V → kCar V s < 2 ∧ 0 ≤ kLo V s ∧ kLo V s ≤ 300000 ∧ 0 ≤ kHi V s ∧ kHi V s ≤ 300000) ∧ vNt V ≤ 10 ∧ ∀ t, t < vNt V → tRow V t < 6 ∧ -50 ≤ tLo V t ∧ tLo V t ≤ 50 ∧ -50 ≤ tHi V t ∧ tHi V t ≤ 50
def allB (p : Nat → Bool) : Nat → Bool
  | 0 => true
  | n + 1 => allB p n && p n
theorem allB_s (p : Nat → Bool) (n : Nat) : allB p (n + 1) = (allB p n && p n) := rfl
theorem allB_iff {p : Nat → Bool} : ∀ {n : Nat}, allB p n = true ↔ ∀ t, t < n → p t = true
  | 0 => ⟨fun _ t h => absurd h (Nat.not_lt_zero t), fun _ => rfl⟩
  | n + 1 => by
    rw [allB_s, Bool.and_eq_true, allB_iff (n := n)]
    constructor
    · rintro ⟨h1, h2⟩ t ht
      rcases Nat.lt_or_ge t n with q | q
      · exact h1 t q
      · rw [show t = n by omega]; exact h2
    · intro h
      exact ⟨fun t ht => h t (by omega), h n (by omega)⟩
/-- a tale is of this row, and not so at this number -/
def tB (V : Vw) (r : Nat) (v : Int) (t : Nat) : Bool := decide (tRow V t = r) && !(decide (tLo V t ≤ v) && decide (v ≤ tHi V t))
/-- a number that a row lets, with the first n tales of a set -/
def ltN (V : Vw) (set r : Nat) (v : Int) (n : Nat) : Bool := (decide (vLo V r ≤ v) && decide (v ≤ vHi V r)) && allB (fun t => !(tB V r v t && set.testBit t)) n
def lq (V : Vw) (set r : Nat) (v : Int) : Bool := ltN V set r v (vNt V)
/-- its price, by the first n tales -/
def prN (V : Vw) (r : Nat) (v : Int) (n : Nat) : Nat := fb_sm (fun t => if tB V r v t then 1024 + 2 ^ t else 0) n
def pq (V : Vw) (r : Nat) (v : Int) : Nat := prN V r v (vNt V)
/-- a skid that counts, of a car, on a side, and is not left out -/
def oq (V : Vw) (w : Int) (c : Nat) (b : Bool) (s : Nat) : Bool := kOn V s && (decide ((s : Int) ≠ w) && (decide (kCar V s = c) && (kBeh V s == b)))
def sLn (V : Vw) (w : Int) (c : Nat) (b : Bool) (n : Nat) : Int := fb_si (fun s => if oq V w c b s then kLo V s else 0) n
def sHn (V : Vw) (w : Int) (c : Nat) (b : Bool) (n : Nat) : Int := fb_si (fun s => if oq V w c b s then kHi V s else 0) n
def sNn (V : Vw) (w : Int) (c : Nat) (b : Bool) (n : Nat) : Nat := fb_sm (fun s => if oq V w c b s then 1 else 0) n
def sL (V : Vw) (w : Int) (c : Nat) (b : Bool) : Int := sLn V w c b (vNs V)
def sH (V : Vw) (w : Int) (c : Nat) (b : Bool) : Int := sHn V w c b (vNs V)
def sN (V : Vw) (w : Int) (c : Nat) (b : Bool) : Nat := sNn V w c b (vNs V)
def tkA (V : Vw) (w : Int) (c : Nat) (x : Int) : Bool := decide (sL V w c false ≤ x) && decide (x ≤ sH V w c false)
def tkB (V : Vw) (w : Int) (c : Nat) (x : Int) : Bool := decide (sN V w c true = 0) || (decide (sL V w c true ≤ x) && decide (x ≤ sH V w c true))
def sgq (f a : Int) : Bool := if 0 < a then decide (0 < f) else if a < 0 then decide (f < 0) else decide (0 ≤ f)
/-- FIRST f leads to AT a -/
def fq (V : Vw) (set : Nat) (w : Int) (c : Nat) (f a : Int) : Bool := sgq f a && (lq V set (3 * c) f && tkA V w c (51 * (f * f - a * a)))
def nq (V : Vw) (set : Nat) (w : Int) (c : Nat) (a : Int) : Nat := if lq V set (3 * c + 1) a then sm (fun f => if fq V set w c f a then 1 else 0) else 0
def aq (V : Vw) (set : Nat) (w : Int) (c : Nat) (p : Int) : Bool := lq V set (3 * c + 2) p && tkB V w c (51 * p * p)
def qr (V : Vw) (a b p : Int) : Int := vM V 0 * (a - p) + vM V 1 * b
def qv (V : Vw) (a b p : Int) : Int := (qr V a b p).tdiv (vM V 1)
/-- AT a, b and AFTER p of car 0 meet all that is asked beside FIRST -/
def wq (V : Vw) (set : Nat) (w : Int) (a b p : Int) : Bool := decide (b < a) && (decide (qv V a b p * vM V 1 = qr V a b p) && (decide (p ≤ qv V a b p) && (aq V set w 0 p && (aq V set w 1 (qv V a b p) && decide (vM V 0 * p * p + vM V 1 * qv V a b p * qv V a b p ≤ vM V 0 * a * a + vM V 1 * b * b)))))
def nT (V : Vw) (set : Nat) (w : Int) (a b : Int) : Nat := nq V set w 0 a * nq V set w 1 b
def nW (V : Vw) (set : Nat) (w : Int) : Nat := sm (fun a => sm (fun b => sm (fun p => if wq V set w a b p then nT V set w a b else 0)))
theorem lt_in {V : Vw} {set r n : Nat} {v : Int} (h : ltN V set r v n = true) : vLo V r ≤ v ∧ v ≤ vHi V r := by
  unfold ltN at h
  simp only [Bool.and_eq_true, decide_eq_true_eq] at h
  exact h.1
theorem lt_50 {V : Vw} (hV : VOk V) {set r n : Nat} (hr : r < 6) {v : Int} (h : ltN V set r v n = true) : -50 ≤ v ∧ v ≤ 50 := by
  have h1 := lt_in h
  have h2 := hV.2.1 r hr
  omega
theorem pr_le {V : Vw} {r n : Nat} {v : Int} (hn : n ≤ 10) : prN V r v n ≤ 10240 + 1023 := by
  have key : ∀ n, prN V r v n + 1 ≤ n * 1024 + 2 ^ n := by
    intro n
    induction n with
    | zero => simp [prN, fb_sm]
    | succ n ih =>
      have e : prN V r v (n + 1) = prN V r v n + (if tB V r v n then 1024 + 2 ^ n else 0) := fb_sm_succ _ _
      have e2 : (2 : Nat) ^ (n + 1) = 2 ^ n + 2 ^ n := by rw [Nat.pow_succ]; omega
      rw [e, e2]
      generalize 2 ^ n = z at ih ⊢
      have e3 : (n + 1) * 1024 = n * 1024 + 1024 := Nat.succ_mul n 1024
      rw [e3]
      generalize n * 1024 = y at ih ⊢
      cases tB V r v n with
      | true =>
        rw [if_pos rfl]
        omega
      | false =>
        rw [if_neg (by decide)]
        omega
  have h1 := key n
  have h2 : (2 : Nat) ^ n ≤ 2 ^ 10 := Nat.pow_le_pow_right (by decide) hn
  have h3 : (2 : Nat) ^ 10 = 1024 := by decide
  omega
theorem na_le {V : Vw} {set : Nat} {w : Int} {c : Nat} {a : Int} : nq V set w c a ≤ 101 := by
  unfold nq
  split
  · have h := sm_le (f := fun f => if fq V set w c f a then 1 else 0) (c := 1) (fun f _ _ => by split <;> omega)
    omega
  · omega
