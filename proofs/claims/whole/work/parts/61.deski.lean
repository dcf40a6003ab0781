/-! one push, whole -/
theorem MinP.sum {m n : Int32} {P Q : Nat → Prop} (h : MinP m P) (h2 : MinP n Q) (hm : m ≠ -1) (hn : n ≠ -1) (hP : ∀ x, P x → x ≤ 300000) (hQ : ∀ x, Q x → x ≤ 300000) : MinP (m + n) (fun z => ∃ x y, P x ∧ Q y ∧ z = x + y) ∧ m + n ≠ -1 := by
  rcases h with ⟨z, -⟩ | ⟨x, h1, -, h3, h4⟩
  · exact absurd z hm
  · rcases h2 with ⟨z, -⟩ | ⟨y, g1, -, g3, g4⟩
    · exact absurd z hn
    · have b1 := hP x h3
      have b2 := hQ y g3
      have e : m + n = iv ((x + y : Nat) : Int) := by rw [h1, g1, iv_add]; rfl
      rw [e]
      refine ⟨Or.inr ⟨x + y, rfl, by omega, ⟨x, y, h3, g3, rfl⟩, ?_⟩, iv_nm1 (by omega)⟩
      rintro z ⟨x2, y2, p1, p2, rfl⟩
      have := h4 x2 p1
      have := g4 y2 p2
      omega
theorem q_max {x y : Int} (hx : -2147483648 ≤ x ∧ x < 2147483648 := by omega) (hy : -2147483648 ≤ y ∧ y < 2147483648 := by omega) : (if iv x < iv y then iv y else iv x) = iv (if x < y then y else x) := by
  by_cases c : x < y
  · rw [if_pos (y_lt c hx hy), if_pos c]
  · rw [if_neg (n_lt (by omega) hx hy), if_neg c]
/-- the meeting's state between pushes -/
def Md (V : Vw) (set : Nat) (w L G : Int) (S : QS) : Prop := S.1 25 4 = iv L ∧ S.1 25 5 = iv G ∧ (∀ u, -50 ≤ u → u ≤ 50 → Set1 V set w 0 26 u S) ∧ (∀ u, -50 ≤ u → u ≤ 50 → Set1 V set w 1 37 u S) ∧ Bnd S 30 ∧ Bnd S 33 ∧ Bnd S 41 ∧ Bnd S 44
theorem Md.fr {V : Vw} {set : Nat} {w L G : Int} {S S1 : QS} (h : Md V set w L G S) (hf : Fr [25, 32, 35, 43, 46] S S1) (h4 : S1.1 25 4 = S.1 25 4) (h5 : S1.1 25 5 = S.1 25 5) : Md V set w L G S1 := by
  obtain ⟨a1, a2, a3, a4, a5, a6, a7, a8⟩ := h
  have f : ∀ k, k ∉ [25, 32, 35, 43, 46] → S1.1 k = S.1 k := hf.1
  exact ⟨h4.trans a1, h5.trans a2, fun u h1 h2 => (a3 u h1 h2).fr (by rw [f 31 (by decide)]) (by rw [f 36 (by decide)]) (by rw [f 34 (by decide)]), fun u h1 h2 => (a4 u h1 h2).fr (by rw [f 42 (by decide)]) (by rw [f 47 (by decide)]) (by rw [f 45 (by decide)]), a5.fr (f 30 (by decide)) (f 31 (by decide)), a6.fr (f 33 (by decide)) (f 34 (by decide)), a7.fr (f 41 (by decide)) (f 42 (by decide)), a8.fr (f 44 (by decide)) (f 45 (by decide))⟩
/-- a push that meets -/
def Mt (V : Vw) (set : Nat) (w L G a k b : Int) : Prop := (-50 ≤ b ∧ b ≤ 50) ∧ (rgq L G a k b && okq V set w G k b) = true
theorem mt_pos {V : Vw} {set : Nat} {w L G a k : Int} : 0 < sm (mtq V set w L G a k) ↔ ∃ b, Mt V set w L G a k b := by
  rw [sm_pos]
  constructor
  · rintro ⟨b, h1, h2, h3⟩
    unfold mtq at h3
    cases hm : (rgq L G a k b && okq V set w G k b) with
    | false =>
      rw [hm, if_neg (by decide)] at h3
      omega
    | true => exact ⟨b, ⟨h1, h2⟩, hm⟩
  · rintro ⟨b, ⟨h1, h2⟩, h3⟩
    refine ⟨b, h1, h2, ?_⟩
    unfold mtq
    rw [if_pos h3]
    simp only [Bool.and_eq_true] at h3
    have h4 := h3.2
    unfold okq at h4
    simp only [Bool.and_eq_true, decide_eq_true_eq] at h4
    exact h4.1
/-- the prices of one push -/
def PM (V : Vw) (set : Nat) (w L G a k : Int) : Nat → Prop := fun x => ∃ b, Mt V set w L G a k b ∧ ∃ y z, PA V set w 1 b y ∧ PA V set w 0 a z ∧ x = y + pq V 5 (b + k * G) + z + pq V 2 (a - k * L)
theorem lq_50q {V : Vw} (hV : VOk V) {set : Nat} {w : Int} {v : Int} (h : aq V set w 1 v = true) : -50 ≤ v ∧ v ≤ 50 := by
  unfold aq at h
  simp only [Bool.and_eq_true] at h
  exact lt_50 hV (by decide) h.1
theorem s_meet {V : Vw} (hV : VOk V) {set : Nat} {w L G a k : Int} (hL : 1 ≤ L ∧ L ≤ 100) (hG : 1 ≤ G ∧ G ≤ 100) (hk : 1 ≤ k ∧ k ≤ 101) {S : QS} (hM : Md V set w L G S) (ha : -50 ≤ a ∧ a ≤ 50) (hp : -50 ≤ a - k * L ∧ a - k * L ≤ 50) (hao : S.1 31 (ix a) ≠ -1) (hpo : S.1 34 (ix (a - k * L)) ≠ -1)
    {n0 : Nat} {P0 : Nat → Prop} (hn : S.2 25 = lN n0) (hm : MinP (S.1 25 3) P0) :
    ∃ S1, f_X1_meet (iv a) (iv k) S = some S1 ∧ Fr [25, 32, 35, 43, 46] S S1 ∧ S1.1 25 4 = S.1 25 4 ∧ S1.1 25 5 = S.1 25 5 ∧ S1.2 25 = lN (n0 + sm (mtq V set w L G a k) * nq V set w 0 a) ∧ MinP (S1.1 25 3) (fun x => P0 x ∨ PM V set w L G a k x) ∧
      (∀ u, -50 ≤ u → u ≤ 50 → (S1.1 32 (ix u) = if 0 < sm (mtq V set w L G a k) ∧ u = a then 1 else S.1 32 (ix u)) ∧ (S1.1 35 (ix u) = if 0 < sm (mtq V set w L G a k) ∧ u = a - k * L then 1 else S.1 35 (ix u)) ∧ (S1.1 43 (ix u) = if (rgq L G a k u && okq V set w G k u) = true then 1 else S.1 43 (ix u)) ∧
        (-50 ≤ u - k * G ∧ u - k * G ≤ 50 → S1.1 46 (ix u) = if (rgq L G a k (u - k * G) && okq V set w G k (u - k * G)) = true then 1 else S.1 46 (ix u)) ∧ (¬ (-50 ≤ u - k * G ∧ u - k * G ≤ 50) → S1.1 46 (ix u) = S.1 46 (ix u))) := by
  obtain ⟨m4, m5, s0, s1, -, -, ⟨bo, to, b1, b2, b3, b4, b5, b6, b7⟩, ⟨bo2, to2, c1, c2, c3, c4, c5, c6, c7⟩⟩ := hM
  have bL : 1 ≤ k * L ∧ k * L ≤ 10100 := ⟨by have := Int.mul_le_mul hk.1 hL.1 (by omega) (by omega); omega, by have := Int.mul_le_mul hk.2 hL.2 (by omega) (by omega); omega⟩
  have bG : 1 ≤ k * G ∧ k * G ≤ 10100 := ⟨by have := Int.mul_le_mul hk.1 hG.1 (by omega) (by omega); omega, by have := Int.mul_le_mul hk.2 hG.2 (by omega) (by omega); omega⟩
  have eC : k * (L + G) = k * L + k * G := Int.mul_add _ _ _
  obtain ⟨C, hC⟩ : ∃ C, C = k * (L + G) := ⟨_, rfl⟩
  obtain ⟨g, hg⟩ : ∃ g, g = k * G := ⟨_, rfl⟩
  obtain ⟨x1, hx1⟩ : ∃ x1 : Int, x1 = if bo < bo2 - g then bo2 - g else bo := ⟨_, rfl⟩
  obtain ⟨fq, hfq⟩ : ∃ fq : Int, fq = if a - C < x1 then x1 else a - C := ⟨_, rfl⟩
  obtain ⟨fr, hfr⟩ : ∃ fr : Int, fr = if fq < -50 then -50 else fq := ⟨_, rfl⟩
  obtain ⟨x2, hx2⟩ : ∃ x2 : Int, x2 = if to2 - g < to then to2 - g else to := ⟨_, rfl⟩
  obtain ⟨tq, htq⟩ : ∃ tq : Int, tq = if x2 < a - (C + 1).tdiv 2 then x2 else a - (C + 1).tdiv 2 := ⟨_, rfl⟩
  obtain ⟨te, hte⟩ : ∃ te : Int, te = if 50 - g < tq then 50 - g else tq := ⟨_, rfl⟩
  have etd : (C + 1).tdiv 2 = (C + 1) / 2 := Int.tdiv_eq_ediv_of_nonneg (by omega)
  have bfq : bo ≤ fq ∧ bo2 - g ≤ fq ∧ a - C ≤ fq ∧ (fq = bo ∨ fq = bo2 - g ∨ fq = a - C) := by
    rw [hfq, hx1]
    split <;> split <;> omega
  have bfr : bo ≤ fr ∧ bo2 - g ≤ fr ∧ a - C ≤ fr ∧ (fr = bo ∨ fr = bo2 - g ∨ fr = a - C ∨ fr = -50) := by
    rw [hfr]
    split <;> omega
  have btq : tq ≤ to ∧ tq ≤ to2 - g ∧ tq ≤ a - (C + 1) / 2 ∧ (tq = to ∨ tq = to2 - g ∨ tq = a - (C + 1) / 2) := by
    rw [htq, hx2, etd]
    split <;> split <;> omega
  have bte : te ≤ to ∧ te ≤ to2 - g ∧ te ≤ a - (C + 1) / 2 ∧ (te = to ∨ te = to2 - g ∨ te = a - (C + 1) / 2 ∨ te = 50 - g) := by
    rw [hte]
    split <;> omega
  have efr : (if iv a - iv k * (iv L + iv G) < (if iv bo < iv bo2 - iv k * iv G then iv bo2 - iv k * iv G else iv bo) then (if iv bo < iv bo2 - iv k * iv G then iv bo2 - iv k * iv G else iv bo) else iv a - iv k * (iv L + iv G)) = iv fq := by
    rw [iv_add, iv_mul, iv_mul, iv_sub, iv_sub, ← hC, ← hg, q_max (x := bo) (y := bo2 - g), ← hx1, q_max (x := a - C) (y := x1) (by omega) (by rw [hx1]; split <;> omega), ← hfq]
  have efr2 : (if iv fq < -50 then (-50 : Int32) else iv fq) = iv fr := by
    rw [c_m50, q_max (x := fq) (y := -50), ← hfr]
  have ete : (if (if iv to2 - iv k * iv G < iv to then iv to2 - iv k * iv G else iv to) < iv a - iv ((C + 1).tdiv 2) then (if iv to2 - iv k * iv G < iv to then iv to2 - iv k * iv G else iv to) else iv a - iv ((C + 1).tdiv 2)) = iv tq := by
    have q1 : (if iv to2 - iv k * iv G < iv to then iv to2 - iv k * iv G else iv to) = iv x2 := by
      rw [iv_mul, iv_sub, ← hg, hx2]
      by_cases q : to2 - g < to
      · rw [if_pos (y_lt (a := to2 - g) (b := to) q), if_pos q]
      · rw [if_neg (n_lt (a := to2 - g) (b := to) (by omega)), if_neg q]
    have hb2 : -2147483648 ≤ x2 ∧ x2 < 2147483648 := by rw [hx2]; split <;> omega
    rw [q1, iv_sub, htq, etd]
    by_cases q : x2 < a - (C + 1) / 2
    · rw [if_pos (y_lt (a := x2) (b := a - (C + 1) / 2) q hb2), if_pos q]
    · rw [if_neg (n_lt (a := x2) (b := a - (C + 1) / 2) (by omega) hb2), if_neg q]
  have ete2 : (if (50 : Int32) - iv k * iv G < iv tq then (50 : Int32) - iv k * iv G else iv tq) = iv te := by
    rw [c_50, iv_mul, iv_sub, ← hg, hte]
    by_cases q : 50 - g < tq
    · rw [if_pos (y_lt (a := 50 - g) (b := tq) q), if_pos q]
    · rw [if_neg (n_lt (a := 50 - g) (b := tq) (by omega)), if_neg q]
  have rg_iff : ∀ b, rgq L G a k b = true ↔ a - C ≤ b ∧ b ≤ a - (C + 1) / 2 := fun b => by
    unfold rgq
    rw [← hC]
    simp only [Bool.and_eq_true, decide_eq_true_eq]
    omega
  have hout : ∀ b, -50 ≤ b → b ≤ 50 → (rgq L G a k b && okq V set w G k b) = true → fr ≤ b ∧ b ≤ te := fun b h1 h2 h3 => by
    simp only [Bool.and_eq_true] at h3
    obtain ⟨h4, h5⟩ := h3
    have h6 := (rg_iff b).mp h4
    unfold okq at h5
    simp only [Bool.and_eq_true, decide_eq_true_eq] at h5
    obtain ⟨h7, h8⟩ := h5
    have h9 := lq_50q hV h8
    have q1 := b7 b h1 h2 ((s1 b h1 h2).1.ne.mpr (PA_ex.mpr h7))
    have q2 := c7 (b + k * G) h9.1 h9.2 (by
      have e := (s1 _ h9.1 h9.2).2.2
      rw [h8, if_pos rfl] at e
      have := pq_le hV (3 * 1 + 2) (b + k * G)
      rw [show S.1 (44 + 1) = S.1 (37 + 8) from rfl, e]
      exact iv_nm1 (by omega))
    rw [← hg] at q2 h9
    omega
  have hloop : ∃ (pr : Int32) (S1 : QS), lp_X1_meet_122 (iv k) S (iv te) FU 0 (-1) (iv fr) S = some (lN (sm (mtq V set w L G a k)), pr, S1) ∧ MinP pr (PB V set w L G a k (fun _ => True)) ∧ Fr [43, 46] S S1 ∧
      (∀ u, -50 ≤ u → u ≤ 50 → S1.1 43 (ix u) = if (rgq L G a k u && okq V set w G k u) = true then 1 else S.1 43 (ix u)) ∧
      (∀ u, -50 ≤ u → u ≤ 50 → (-50 ≤ u - k * G ∧ u - k * G ≤ 50 → S1.1 46 (ix u) = if (rgq L G a k (u - k * G) && okq V set w G k (u - k * G)) = true then 1 else S.1 46 (ix u)) ∧ (¬ (-50 ≤ u - k * G ∧ u - k * G ≤ 50) → S1.1 46 (ix u) = S.1 46 (ix u))) := by
    by_cases hle : fr ≤ te
    · exact s_meetloop hV m5 s1 (fr := fr) (to := te) (by omega) (by omega) (by omega) (fun b h1 h2 => ⟨by omega, by omega, (rg_iff b).mpr (by omega)⟩) hout
    · have no : ∀ b, -50 ≤ b → b ≤ 50 → (rgq L G a k b && okq V set w G k b) = false := fun b h1 h2 => by
        cases hq : (rgq L G a k b && okq V set w G k b) with
        | false => rfl
        | true =>
          have := hout b h1 h2 hq
          omega
      refine ⟨-1, S, ?_, MinP.none (fun x ⟨b, q1, q2, _, q4, _⟩ => by rw [no b q1 q2] at q4; cases q4), Fr.rf, fun u h1 h2 => by rw [no u h1 h2]; rfl, fun u h1 h2 => ⟨fun hr => by rw [no _ hr.1 hr.2]; rfl, fun _ => rfl⟩⟩
      have e0 : sm (mtq V set w L G a k) = 0 := smv_z (fun b h1 h2 => by unfold mtq; rw [no b h1 (by omega)]; rfl)
      rw [e0, show FU = 1099 + 1 from rfl, lp_X1_meet_122, if_pos (y_lt (a := te) (b := fr) (by omega))]
      rfl
  obtain ⟨pr, S1, e1, hpr, f1, g43, g46⟩ := hloop
  have hmet : sm (mtq V set w L G a k) ≤ 10201 := sm_le (c := 101) (fun b _ _ => by unfold mtq; split; exact na_le; omega)
  have hcall : f_X1_meet (iv a) (iv k) S = if (lg_cmp (lN (sm (mtq V set w L G a k))) 0) ≤ 0 then some S1 else
      (f_X3_see 30 (iv a) S1).bind fun S24 => (f_X3_see 33 (iv (a - k * L)) S24).bind fun S26 => (f_X0_firstCount 26 (iv a) S26).bind fun v28 => (stL 25 ((S26.2 25) + (lN (sm (mtq V set w L G a k)) * v28.toInt64)) S26).bind fun S29 =>
        (f_X3_priceOf 30 (iv a) S29).bind fun v32 => (f_X3_priceOf 33 (iv (a - k * L)) S29).bind fun v34 => (f_X5_cheaper (S29.1 25 3) ((pr + v32) + v34)).bind fun v36 => (stF 25 3 v36 S29).bind fun S37 => some S37 := by
    unfold f_X1_meet
    rw [m4, m5, b1, b2, c1, c2, ob, efr, efr2, iv_add, iv_mul, ← hC, iv_one, c_2, dv_iv, ob, ete, ob, ete2, ob, e1, ob]
    dsimp only
    rw [f1.1 25 (by decide), m4, iv_mul, iv_sub]
  by_cases hz : sm (mtq V set w L G a k) = 0
  · have no : ∀ x, ¬ PM V set w L G a k x := fun x ⟨b, hb, _⟩ => by
      have := mt_pos.mpr ⟨b, hb⟩
      omega
    refine ⟨S1, by rw [hcall, if_pos ((lN_le0 (by omega)).mpr hz)], f1.mono (by simp), by rw [f1.1 25 (by decide)], by rw [f1.1 25 (by decide)], by rw [f1.2 25 (by decide), hn, hz, Nat.zero_mul, Nat.add_zero], by rw [f1.1 25 (by decide)]; exact hm.cg (fun x => ⟨Or.inl, fun z => z.elim id (fun q => absurd q (no x))⟩), fun u h1 h2 => ⟨?_, ?_, g43 u h1 h2, g46 u h1 h2⟩⟩
    · rw [if_neg (fun z => by omega), f1.1 32 (by decide)]
    · rw [if_neg (fun z => by omega), f1.1 35 (by decide)]
  · have hpos : 0 < sm (mtq V set w L G a k) := by omega
    obtain ⟨s01, s02, -⟩ := s0 a ha.1 ha.2
    have s03 := (s0 (a - k * L) hp.1 hp.2).2.2
    have hcnt := s02 hao
    have hnle := na_le (V := V) (set := set) (w := w) (c := 0) (a := a)
    have hap : aq V set w 0 (a - k * L) = true := by
      cases hq : aq V set w 0 (a - k * L) with
      | true => rfl
      | false =>
        rw [hq, if_neg (by decide)] at s03
        exact absurd s03 hpo
    rw [hap, if_pos rfl] at s03
    obtain ⟨b0, hb0⟩ := mt_pos.mp hpos
    have hprn : pr ≠ -1 := by
      have hnq : 0 < nq V set w 1 b0 := by
        have h4 := hb0.2
        simp only [Bool.and_eq_true] at h4
        have h5 := h4.2
        unfold okq at h5
        simp only [Bool.and_eq_true, decide_eq_true_eq] at h5
        exact h5.1
      obtain ⟨y, hy⟩ := PA_ex.mpr hnq
      exact hpr.ne.mpr ⟨_, b0, hb0.1.1, hb0.1.2, trivial, hb0.2, y, hy, rfl⟩
    have hPB : ∀ x, PB V set w L G a k (fun _ => True) x → x ≤ 300000 := fun x ⟨b, _, _, _, _, y, hy, hx⟩ => by
      have := PA_le hV hy
      have := pq_le hV 5 (b + k * G)
      omega
    obtain ⟨t1, t2⟩ := hpr.sum s01 hprn hao hPB (fun x hx => by have := PA_le hV hx; omega)
    obtain ⟨t3, t4⟩ := t1.shift t2 (d := pq V 2 (a - k * L)) (by have := pq_le hV 2 (a - k * L); omega) (fun x ⟨y, z, hy, hz, hx⟩ => by have := hPB y hy; have := PA_le hV hz; omega)
    obtain ⟨S29, h29⟩ : ∃ S29, S29 = setL 25 (lN (n0 + sm (mtq V set w L G a k) * nq V set w 0 a)) (setF 35 (ix (a - k * L)) 1 (setF 32 (ix a) 1 S1)) := ⟨_, rfl⟩
    have f29 : ∀ j, j ≠ 35 → j ≠ 32 → S29.1 j = S1.1 j := fun j h1 h2 => by rw [h29, sl_1, st_nek h1, st_nek h2]
    have e31 : S29.1 (30 + 1) (ix a) = S.1 (26 + 5) (ix a) := by rw [f29 (30 + 1) (by decide) (by decide), f1.1 (30 + 1) (by decide)]
    have e34 : S29.1 (33 + 1) (ix (a - k * L)) = iv (pq V 2 (a - k * L) : Int) := by rw [f29 (33 + 1) (by decide) (by decide), f1.1 (33 + 1) (by decide)]; exact s03
    have e25 : S29.1 25 3 = S.1 25 3 := by rw [f29 25 (by decide) (by decide), f1.1 25 (by decide)]
    refine ⟨setF 25 3 (if S.1 25 3 = -1 then pr + S.1 (26 + 5) (ix a) + iv (pq V 2 (a - k * L) : Int) else if S.1 25 3 ≤ pr + S.1 (26 + 5) (ix a) + iv (pq V 2 (a - k * L) : Int) then S.1 25 3 else pr + S.1 (26 + 5) (ix a) + iv (pq V 2 (a - k * L) : Int)) S29, ?_, ?_, by rw [st_nej (by decide), f29 25 (by decide) (by decide), f1.1 25 (by decide)], by rw [st_nej (by decide), f29 25 (by decide) (by decide), f1.1 25 (by decide)], ?_, ?_, fun u h1 h2 => ⟨?_, ?_, ?_, ?_⟩⟩
    · rw [hcall, if_neg (fun z => hz ((lN_le0 (by omega)).mp z)), s_see ha, ob, s_see hp, ob, s_firstCount ha, ob]
      have ec : (setF (33 + 2) (ix (a - k * L)) 1 (setF (30 + 2) (ix a) 1 S1)).1 (26 + 10) (ix a) = iv (nq V set w 0 a : Int) := by rw [st_nek (by decide), st_nek (by decide), f1.1 (26 + 10) (by decide)]; exact hcnt
      rw [ec, iv_long (x := (nq V set w 0 a : Int)) (by omega), Int.toNat_natCast, st_2, st_2, f1.2 25 (by decide), hn, lN_mul, lN_add]
      show (f_X3_priceOf 30 (iv a) (setL 25 (lN (n0 + sm (mtq V set w L G a k) * nq V set w 0 a)) (setF 35 (ix (a - k * L)) 1 (setF 32 (ix a) 1 S1)))).bind _ = _
      rw [← h29, s_priceOf ha, ob, s_priceOf hp, ob, e31, e34, s_cheaper, ob, e25]
      rfl
    · refine ((((f1.mono (by simp)).tr (Fr.set (k := 32) (j := ix a) (x := 1) (by simp))).tr (Fr.set (k := 35) (j := ix (a - k * L)) (x := 1) (by simp))).tr (Fr.setL (k := 25) (x := lN (n0 + sm (mtq V set w L G a k) * nq V set w 0 a)) (by simp))).tr ?_
      rw [← h29]
      exact Fr.set (by simp)
    · show S29.2 25 = _
      rw [h29, sl_eq]
    · rw [st_eq]
      refine (hm.join t3 t4).cg (fun x => ?_)
      constructor
      · rintro (h | ⟨y, ⟨y1, y2, ⟨b, q1, q2, _, q4, y3, q5, q6⟩, q7, q8⟩, q9⟩)
        · exact Or.inl h
        · exact Or.inr ⟨b, ⟨⟨q1, q2⟩, q4⟩, y3, y2, q5, q7, by omega⟩
      · rintro (h | ⟨b, ⟨⟨q1, q2⟩, q4⟩, y, z, q5, q6, q7⟩)
        · exact Or.inl h
        · exact Or.inr ⟨_, ⟨_, z, ⟨b, q1, q2, trivial, q4, y, q5, rfl⟩, q6, rfl⟩, by omega⟩
    · rw [st_nek (by decide), h29, sl_1, st_nek (by decide)]
      by_cases c : u = a
      · subst c
        rw [st_eq, if_pos ⟨hpos, rfl⟩]
      · rw [st_nej (ix_ne h1 ha.1 c), if_neg (fun z => c z.2), f1.1 32 (by decide)]
    · rw [st_nek (by decide), h29, sl_1]
      by_cases c : u = a - k * L
      · rw [c, st_eq, if_pos ⟨hpos, rfl⟩]
      · rw [st_nej (ix_ne h1 hp.1 c), st_nek (by decide), if_neg (fun z => c z.2), f1.1 35 (by decide)]
    · rw [st_nek (by decide), f29 43 (by decide) (by decide)]
      exact g43 u h1 h2
    · rw [st_nek (by decide), f29 46 (by decide) (by decide)]
      exact g46 u h1 h2
