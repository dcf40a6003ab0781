/-! one push: the meetings of one AT of car 0 -/
theorem MinP.join {m n : Int32} {P Q : Nat → Prop} (h : MinP m P) (h2 : MinP n Q) (hn : n ≠ -1) : MinP (if m = -1 then n else if m ≤ n then m else n) (fun x => P x ∨ Q x) := by
  rcases h2 with ⟨z, -⟩ | ⟨y, g1, g2, g3, g4⟩
  · exact absurd z hn
  · rcases h with ⟨h1, h2⟩ | ⟨z, h1, h2, h3, h4⟩
    · rw [if_pos h1]
      exact Or.inr ⟨y, g1, g2, Or.inr g3, fun x hx => hx.elim (fun q => absurd q (h2 x)) (g4 x)⟩
    · rw [if_neg (by rw [h1]; exact iv_nm1 (by omega)), h1, g1]
      by_cases c : z ≤ y
      · rw [if_pos (y_le (a := z) (b := y) (by omega))]
        exact Or.inr ⟨z, rfl, h2, Or.inl h3, fun x hx => hx.elim (h4 x) (fun q => by have := g4 x q; omega)⟩
      · rw [if_neg (n_le (a := z) (b := y) (by omega))]
        exact Or.inr ⟨y, rfl, g2, Or.inr g3, fun x hx => hx.elim (fun q => by have := h4 x q; omega) (g4 x)⟩
theorem MinP.shift {m : Int32} {P : Nat → Prop} (h : MinP m P) (hm : m ≠ -1) {d : Nat} (hd : d ≤ 100000) (hP : ∀ x, P x → x ≤ 500000) : MinP (m + iv (d : Int)) (fun y => ∃ x, P x ∧ y = x + d) ∧ m + iv (d : Int) ≠ -1 := by
  rcases h with ⟨h1, h2⟩ | ⟨z, h1, h2, h3, h4⟩
  · exact absurd h1 hm
  · have hz := hP z h3
    have e : m + iv (d : Int) = iv ((z + d : Nat) : Int) := by rw [h1, iv_add]; rfl
    rw [e]
    refine ⟨Or.inr ⟨z + d, rfl, by omega, ⟨z, h3, rfl⟩, ?_⟩, iv_nm1 (by omega)⟩
    rintro y ⟨x, hx, rfl⟩
    have := h4 x hx
    omega
theorem PA_le {V : Vw} (hV : VOk V) {set : Nat} {w : Int} {c : Nat} {v : Int} {x : Nat} (h : PA V set w c v x) : x ≤ 22526 := by
  obtain ⟨-, y, ⟨f, -, -, -, rfl⟩, rfl⟩ := h
  have h1 := pq_le hV (3 * c) f
  have h2 := pq_le hV (3 * c + 1) v
  omega
theorem PA_ex {V : Vw} {set : Nat} {w : Int} {c : Nat} {v : Int} : (∃ x, PA V set w c v x) ↔ 0 < nq V set w c v := by
  unfold nq
  constructor
  · rintro ⟨x, h1, y, ⟨f, h2, h3, h4, -⟩, -⟩
    rw [if_pos h1, sm_pos]
    exact ⟨f, h2, h3, by rw [if_pos h4]; decide⟩
  · intro h
    cases hl : lq V set (3 * c + 1) v with
    | false =>
      rw [hl, if_neg (by decide)] at h
      omega
    | true =>
      rw [hl, if_pos rfl, sm_pos] at h
      obtain ⟨f, h2, h3, h4⟩ := h
      cases hf : fq V set w c f v with
      | false =>
        rw [hf, if_neg (by decide)] at h4
        omega
      | true => exact ⟨_, hl, _, ⟨f, h2, h3, hf, rfl⟩, rfl⟩
def okq (V : Vw) (set : Nat) (w G k b : Int) : Bool := decide (0 < nq V set w 1 b) && aq V set w 1 (b + k * G)
def rgq (L G a k b : Int) : Bool := decide (a - k * (L + G) ≤ b) && decide (k * (L + G) ≤ 2 * (a - b))
def mtq (V : Vw) (set : Nat) (w L G a k b : Int) : Nat := if rgq L G a k b && okq V set w G k b then nq V set w 1 b else 0
/-- the prices of car 1, one push -/
def PB (V : Vw) (set : Nat) (w L G a k : Int) (P : Int → Prop) : Nat → Prop := fun x => ∃ b, -50 ≤ b ∧ b ≤ 50 ∧ P b ∧ (rgq L G a k b && okq V set w G k b) = true ∧ ∃ y, PA V set w 1 b y ∧ x = y + pq V 5 (b + k * G)
theorem s_meetloop {V : Vw} (hV : VOk V) {set : Nat} {w L G a k : Int} {S : QS} (hG : S.1 25 5 = iv G) (h1 : ∀ u, -50 ≤ u → u ≤ 50 → Set1 V set w 1 37 u S) {fr to : Int} (hft : fr ≤ to + 1) (hfr : -50 ≤ fr) (hto : to ≤ 50)
    (hin : ∀ b, fr ≤ b → b ≤ to → -50 ≤ b + k * G ∧ b + k * G ≤ 50 ∧ rgq L G a k b = true) (hout : ∀ b, -50 ≤ b → b ≤ 50 → (rgq L G a k b && okq V set w G k b) = true → fr ≤ b ∧ b ≤ to) :
    ∃ (pr : Int32) (S1 : QS), lp_X1_meet_122 (iv k) S (iv to) FU 0 (-1) (iv fr) S = some (lN (sm (mtq V set w L G a k)), pr, S1) ∧ MinP pr (PB V set w L G a k (fun _ => True)) ∧ Fr [43, 46] S S1 ∧
      (∀ u, -50 ≤ u → u ≤ 50 → S1.1 43 (ix u) = if (rgq L G a k u && okq V set w G k u) = true then 1 else S.1 43 (ix u)) ∧
      (∀ u, -50 ≤ u → u ≤ 50 → (-50 ≤ u - k * G ∧ u - k * G ≤ 50 → S1.1 46 (ix u) = if (rgq L G a k (u - k * G) && okq V set w G k (u - k * G)) = true then 1 else S.1 46 (ix u)) ∧ (¬ (-50 ≤ u - k * G ∧ u - k * G ≤ 50) → S1.1 46 (ix u) = S.1 46 (ix u))) := by
  have main := up_loop (fun fuel b (s : Int64 × Int32 × QS) => lp_X1_meet_122 (iv k) S (iv to) fuel s.1 s.2.1 b s.2.2)
    (fun b s => s.1 = lN (smv (mtq V set w L G a k) b) ∧ MinP s.2.1 (PB V set w L G a k (fun b2 => b2 < b)) ∧ Fr [43, 46] S s.2.2 ∧ (∀ u, -50 ≤ u → u ≤ 50 → s.2.2.1 43 (ix u) = if (rgq L G a k u && okq V set w G k u) = true ∧ u < b then 1 else S.1 43 (ix u)) ∧
      ∀ u, -50 ≤ u → u ≤ 50 → s.2.2.1 46 (ix u) = if (-50 ≤ u - k * G ∧ u - k * G ≤ 50) ∧ (rgq L G a k (u - k * G) && okq V set w G k (u - k * G)) = true ∧ u - k * G < b then 1 else S.1 46 (ix u)) fr to
    (fun fuel b s h3 h4 hI => by
      obtain ⟨w6, v7, s⟩ := s
      obtain ⟨i1, i2, i3, i4, i5⟩ := hI
      dsimp only at i1 i2 i3 i4 i5
      obtain ⟨p1, p2, p3⟩ := hin b h3 h4
      have hb : -50 ≤ b ∧ b ≤ 50 := by omega
      obtain ⟨j1, j2, -⟩ := h1 b hb.1 hb.2
      have j3 := (h1 (b + k * G) p1 p2).2.2
      have e42 : s.1 42 (ix b) = S.1 42 (ix b) := by rw [i3.1 42 (by decide)]
      have e45 : s.1 45 (ix (b + k * G)) = S.1 45 (ix (b + k * G)) := by rw [i3.1 45 (by decide)]
      have e47 : s.1 47 (ix b) = S.1 47 (ix b) := by rw [i3.1 47 (by decide)]
      have hS := smv_s (mtq V set w L G a k) (v := b) hb.1
      have skip : okq V set w G k b = false → lp_X1_meet_122 (iv k) S (iv to) (fuel + 1) w6 v7 (iv b) s = lp_X1_meet_122 (iv k) S (iv to) fuel w6 v7 (iv (b + 1)) s → ∃ s1 : Int64 × Int32 × QS, lp_X1_meet_122 (iv k) S (iv to) (fuel + 1) w6 v7 (iv b) s = lp_X1_meet_122 (iv k) S (iv to) fuel s1.1 s1.2.1 (iv (b + 1)) s1.2.2 ∧ (s1.1 = lN (smv (mtq V set w L G a k) (b + 1)) ∧ MinP s1.2.1 (PB V set w L G a k (fun b2 => b2 < b + 1)) ∧ Fr [43, 46] S s1.2.2 ∧ (∀ u, -50 ≤ u → u ≤ 50 → s1.2.2.1 43 (ix u) = if (rgq L G a k u && okq V set w G k u) = true ∧ u < b + 1 then 1 else S.1 43 (ix u)) ∧
          ∀ u, -50 ≤ u → u ≤ 50 → s1.2.2.1 46 (ix u) = if (-50 ≤ u - k * G ∧ u - k * G ≤ 50) ∧ (rgq L G a k (u - k * G) && okq V set w G k (u - k * G)) = true ∧ u - k * G < b + 1 then 1 else S.1 46 (ix u)) := fun ho hl => by
        have lift : ∀ u, (rgq L G a k u && okq V set w G k u) = true → (u < b + 1 ↔ u < b) := fun u hu => by
          constructor
          · intro z
            rcases Int.lt_or_eq_of_le (show u ≤ b by omega) with q | q
            · exact q
            · subst q
              rw [ho, Bool.and_false] at hu
              cases hu
          · intro z
            omega
        refine ⟨(w6, v7, s), hl, ?_, i2.cg (fun x => ?_), i3, fun u hu1 hu2 => ?_, fun u hu1 hu2 => ?_⟩
        · show w6 = _
          rw [i1, hS]
          unfold mtq
          rw [ho, Bool.and_false, if_neg (by decide)]
          rfl
        · constructor
          · rintro ⟨b2, q1, q2, q3, q4, q5⟩
            exact ⟨b2, q1, q2, (lift b2 q4).mpr q3, q4, q5⟩
          · rintro ⟨b2, q1, q2, q3, q4, q5⟩
            exact ⟨b2, q1, q2, (lift b2 q4).mp q3, q4, q5⟩
        · show s.1 43 (ix u) = _
          rw [i4 u hu1 hu2]
          by_cases c : (rgq L G a k u && okq V set w G k u) = true
          · simp only [c, lift u c]
          · rw [if_neg (fun z => c z.1), if_neg (fun z => c z.1)]
        · show s.1 46 (ix u) = _
          rw [i5 u hu1 hu2]
          by_cases c : (rgq L G a k (u - k * G) && okq V set w G k (u - k * G)) = true
          · simp only [c, lift _ c]
          · rw [if_neg (fun z => c z.2.1), if_neg (fun z => c z.2.1)]
      have head : lp_X1_meet_122 (iv k) S (iv to) (fuel + 1) w6 v7 (iv b) s = if S.1 42 (ix b) = -1 then lp_X1_meet_122 (iv k) S (iv to) fuel w6 v7 (iv (b + 1)) s else if S.1 45 (ix (b + k * G)) = -1 then lp_X1_meet_122 (iv k) S (iv to) fuel w6 v7 (iv (b + 1)) s else
          lp_X1_meet_122 (iv k) S (iv to) fuel (w6 + (S.1 47 (ix b)).toInt64) (if v7 = -1 then S.1 42 (ix b) + S.1 45 (ix (b + k * G)) else if v7 ≤ S.1 42 (ix b) + S.1 45 (ix (b + k * G)) then v7 else S.1 42 (ix b) + S.1 45 (ix (b + k * G))) (iv (b + 1)) (setF 46 (ix (b + k * G)) 1 (setF 43 (ix b) 1 s)) := by
        rw [lp_X1_meet_122, if_neg (n_lt (a := to) (b := b) h4), hG, iv_mul, iv_add, rd50 hb, ob, rd50 ⟨p1, p2⟩, ob, e42, e45, iv_one]
        by_cases c1 : S.1 42 (ix b) = -1
        · rw [if_pos c1, if_pos c1]
        · rw [if_neg c1, if_neg c1]
          by_cases c2 : S.1 45 (ix (b + k * G)) = -1
          · rw [if_pos c2, if_pos c2]
          · rw [if_neg c2, if_neg c2, rd50 hb, ob, e47, s_cheaper, ob, wz50 hb (Or.inr rfl), ob, wz50 ⟨p1, p2⟩ (Or.inr rfl), ob]
      by_cases c1 : S.1 42 (ix b) = -1
      · refine skip ?_ (by rw [head, if_pos c1])
        have : ¬ 0 < nq V set w 1 b := fun z => by
          obtain ⟨x, hx⟩ := PA_ex.mpr z
          exact (j1.eqn.mp c1) x hx
        unfold okq
        rw [decide_eq_false this, Bool.false_and]
      · have hnq : 0 < nq V set w 1 b := PA_ex.mp (j1.ne.mp c1)
        have e45b : S.1 45 (ix (b + k * G)) = if aq V set w 1 (b + k * G) then iv (pq V 5 (b + k * G) : Int) else -1 := j3
        have hpq := pq_le hV 5 (b + k * G)
        cases ha : aq V set w 1 (b + k * G) with
        | false =>
          rw [ha, if_neg (by decide)] at e45b
          refine skip ?_ (by rw [head, if_neg c1, if_pos e45b])
          unfold okq
          rw [ha, Bool.and_false]
        | true =>
          rw [ha, if_pos rfl] at e45b
          have ho : okq V set w G k b = true := by
            unfold okq
            rw [ha, decide_eq_true hnq]
            rfl
          have hm : (rgq L G a k b && okq V set w G k b) = true := by rw [p3, ho]; rfl
          have e47b : (S.1 47 (ix b)).toInt64 = lN (nq V set w 1 b) := by
            have e9 : S.1 47 (ix b) = iv (nq V set w 1 b : Int) := j2 c1
            have hle := na_le (V := V) (set := set) (w := w) (c := 1) (a := b)
            rw [e9, iv_long (x := (nq V set w 1 b : Int)) (by omega)]
            rfl
          obtain ⟨m1, m2⟩ := j1.shift c1 (d := pq V 5 (b + k * G)) (by omega) (fun x hx => by have := PA_le hV hx; omega)
          have m1 : MinP (S.1 42 (ix b) + S.1 45 (ix (b + k * G))) (fun y => ∃ x, PA V set w 1 b x ∧ y = x + pq V 5 (b + k * G)) := by rw [e45b]; exact m1
          have m2 : S.1 42 (ix b) + S.1 45 (ix (b + k * G)) ≠ -1 := by rw [e45b]; exact m2
          refine ⟨(lN (smv (mtq V set w L G a k) (b + 1)), (if v7 = -1 then S.1 42 (ix b) + S.1 45 (ix (b + k * G)) else if v7 ≤ S.1 42 (ix b) + S.1 45 (ix (b + k * G)) then v7 else S.1 42 (ix b) + S.1 45 (ix (b + k * G))), setF 46 (ix (b + k * G)) 1 (setF 43 (ix b) 1 s)), ?_, rfl, MinP.cg (i2.join m1 m2) (fun x => ?_), (i3.tr (Fr.set (by simp))).tr (Fr.set (by simp)), fun u hu1 hu2 => ?_, fun u hu1 hu2 => ?_⟩
          · show lp_X1_meet_122 (iv k) S (iv to) (fuel + 1) w6 v7 (iv b) s = lp_X1_meet_122 (iv k) S (iv to) fuel (lN (smv (mtq V set w L G a k) (b + 1))) (if v7 = -1 then S.1 42 (ix b) + S.1 45 (ix (b + k * G)) else if v7 ≤ S.1 42 (ix b) + S.1 45 (ix (b + k * G)) then v7 else S.1 42 (ix b) + S.1 45 (ix (b + k * G))) (iv (b + 1)) (setF 46 (ix (b + k * G)) 1 (setF 43 (ix b) 1 s))
            have e : mtq V set w L G a k b = nq V set w 1 b := by unfold mtq; rw [hm, if_pos rfl]
            rw [head, if_neg c1, if_neg (by rw [e45b]; exact iv_nm1 (by omega)), e47b, i1, lN_add, hS, e]
          · constructor
            · rintro (⟨b2, q1, q2, q3, q4, q5⟩ | ⟨y, q1, q2⟩)
              · exact ⟨b2, q1, q2, by omega, q4, q5⟩
              · exact ⟨b, hb.1, hb.2, by omega, hm, y, q1, q2⟩
            · rintro ⟨b2, q1, q2, q3, q4, y, q5, q6⟩
              by_cases c : b2 = b
              · subst c
                exact Or.inr ⟨y, q5, q6⟩
              · exact Or.inl ⟨b2, q1, q2, by omega, q4, y, q5, q6⟩
          · show (setF 46 (ix (b + k * G)) 1 (setF 43 (ix b) 1 s)).1 43 (ix u) = _
            rw [st_nek (by decide)]
            by_cases c : u = b
            · subst c
              rw [st_eq, if_pos ⟨hm, by omega⟩]
            · rw [st_nej (ix_ne hu1 hb.1 c), i4 u hu1 hu2]
              have : (u < b + 1) ↔ (u < b) := by omega
              simp only [this]
          · show (setF 46 (ix (b + k * G)) 1 (setF 43 (ix b) 1 s)).1 46 (ix u) = _
            by_cases c : u = b + k * G
            · subst c
              have e : b + k * G - k * G = b := by omega
              rw [st_eq, if_pos ⟨by rw [e]; exact hb, by rw [e]; exact hm, by rw [e]; omega⟩]
            · rw [st_nej (ix_ne hu1 p1 c), st_nek (by decide), i5 u hu1 hu2]
              have : (u - k * G < b + 1) ↔ (u - k * G < b) := by omega
              simp only [this])
    (to + 1 - fr).toNat FU fr (0, -1, S) (by omega) (by omega) (by show _ < 1100; omega) ⟨by
      show (0 : Int64) = _
      rw [smv_z (fun b hb1 hb2 => by
        unfold mtq
        cases hm : (rgq L G a k b && okq V set w G k b) with
        | false => rfl
        | true =>
          have := hout b hb1 (by omega) hm
          omega)]
      rfl, MinP.none (fun x ⟨b, q1, q2, q3, q4, _⟩ => by have := hout b q1 q2 q4; omega), Fr.rf, fun u hu1 hu2 => by
      rw [if_neg]
      rintro ⟨q1, q2⟩
      have := hout u hu1 hu2 q1
      omega, fun u hu1 hu2 => by
      rw [if_neg]
      rintro ⟨q0, q1, q2⟩
      have := hout _ q0.1 q0.2 q1
      omega⟩
  obtain ⟨⟨w6, v7, s⟩, f1, e1, i1, i2, i3, i4, i5⟩ := main
  dsimp only at i1 i2 i3 i4 i5
  refine ⟨v7, s, ?_, i2.cg (fun x => ?_), i3, fun u hu1 hu2 => ?_, fun u hu1 hu2 => ⟨fun hr => ?_, fun hr => ?_⟩⟩
  · have e2 : lp_X1_meet_122 (iv k) S (iv to) FU 0 (-1) (iv fr) S = lp_X1_meet_122 (iv k) S (iv to) (f1 + 1) w6 v7 (iv (to + 1)) s := e1
    rw [e2, lp_X1_meet_122, if_pos (y_lt (a := to) (b := to + 1) (by omega)), i1, smv_up (by omega) (by omega) (fun b hb1 hb2 => by
      unfold mtq
      cases hm : (rgq L G a k b && okq V set w G k b) with
      | false => rfl
      | true =>
        have := hout b (by omega) hb2 hm
        omega)]
  · constructor
    · rintro ⟨b2, q1, q2, q3, q4, q5⟩
      exact ⟨b2, q1, q2, trivial, q4, q5⟩
    · rintro ⟨b2, q1, q2, q3, q4, q5⟩
      have := hout b2 q1 q2 q4
      exact ⟨b2, q1, q2, by omega, q4, q5⟩
  · rw [i4 u hu1 hu2]
    by_cases c : (rgq L G a k u && okq V set w G k u) = true
    · have := hout u hu1 hu2 c
      rw [if_pos ⟨c, by omega⟩, if_pos c]
    · rw [if_neg (fun z => c z.1), if_neg c]
  · rw [i5 u hu1 hu2]
    by_cases c : (rgq L G a k (u - k * G) && okq V set w G k (u - k * G)) = true
    · have := hout _ hr.1 hr.2 c
      rw [if_pos ⟨hr, c, by omega⟩, if_pos c]
    · rw [if_neg (fun z => c z.2.1), if_neg c]
  · rw [i5 u hu1 hu2, if_neg (fun z => hr z.1)]
