/-! THE REFERENCE: which sets FIRST and AT of a car make false -/
theorem shl10 {k : Nat} (h : k < 202) : iv (k : Int) <<< (10 &&& 31) = iv ((1024 * k : Nat) : Int) := (show ∀ k : Nat, k < 202 → iv (k : Int) <<< (10 &&& 31) = iv ((1024 * k : Nat) : Int) by decide +kernel) k h
theorem pow_le10 {V : Vw} (hV : VOk V) : (2 : Nat) ^ vNt V ≤ 1024 := by
  have h2 : (2 : Nat) ^ vNt V ≤ 2 ^ 10 := Nat.pow_le_pow_right (by decide) hV.2.2.2.2.1
  omega
theorem fl_lt2 (V : Vw) (r : Nat) (v : Int) : fl V r v < 2 ^ vNt V := bN_lt _ _
theorem iv_k {c : Nat} {v : Int} (h : -50 ≤ v ∧ v ≤ 50) : ((101 * iv (c : Int)) + iv v) + 50 = iv (cx c v : Int) := by
  rw [c_101, c_50, iv_mul, iv_add, iv_add]
  congr 1
  unfold cx ix
  omega
theorem cx_lt2 {c : Nat} {v : Int} (hc : c < 2) (h : -50 ≤ v ∧ v ≤ 50) : cx c v < 202 := by
  unfold cx ix
  omega
theorem r_wipe {V : Vw} (hV : VOk V) {S : QS} (hM : MR V S) {c : Nat} (hc : c < 2) {v : Int} (hv : -50 ≤ v ∧ v ≤ 50) :
    ∃ S1, lp_X6_makes_41 (iv (c : Int)) (iv v) FU 0 S = some S1 ∧ Fr [64] S S1 ∧ ∀ m, m < 2 ^ vNt V → S1.1 64 (1024 * cx c v + m) = 0 := by
  have hk := cx_lt2 hc hv
  have hp := pow_le10 hV
  have hn := hV.2.2.2.2.1
  have main := loopN (fun fuel v1 s => lp_X6_makes_41 (iv (c : Int)) (iv v) fuel v1 s) id (fun n s => Fr [64] S s ∧ ∀ m, m < n → s.1 64 (1024 * cx c v + m) = 0) (2 ^ vNt V) (by omega)
    (fun fuel s hI => by
      show lp_X6_makes_41 (iv (c : Int)) (iv v) (fuel + 1) (iv ((2 ^ vNt V : Nat) : Int)) s = some s
      rw [lp_X6_makes_41, hI.1.1 48 (by decide), hM.2.2.2.1, shl_iv (by omega), if_pos (by rw [iv_nI]; exact (fa_le _ _).mpr (Int.le_refl _))])
    (fun fuel n s hlt hI => by
      obtain ⟨i1, i2⟩ := hI
      refine ⟨setF 64 (1024 * cx c v + n) 0 s, ?_, i1.tr (Fr.set (by decide)), fun m hm => ?_⟩
      · show lp_X6_makes_41 (iv (c : Int)) (iv v) (fuel + 1) (iv (n : Int)) s = lp_X6_makes_41 (iv (c : Int)) (iv v) fuel (iv ((n + 1 : Nat) : Int)) _
        rw [lp_X6_makes_41, i1.1 48 (by decide), hM.2.2.2.1, shl_iv (by omega), if_neg (by rw [iv_nI]; exact n_le (by omega)), iv_k hv, shl10 hk, iv_add, wz_iv (by omega) (Or.inl rfl), ob, iv_one, show (((1024 * cx c v : Nat) : Int) + (n : Int)).toNat = 1024 * cx c v + n by omega]
        rfl
      · by_cases c1 : m = n
        · subst c1
          exact st_eq _ _ _ _
        · rw [st_nej (by omega)]
          exact i2 m (by omega))
    S ⟨Fr.rf, fun _ h => absurd h (Nat.not_lt_zero _)⟩
  obtain ⟨S1, e, i1, i2⟩ := main
  exact ⟨S1, by rw [c_0]; exact e, i1, i2⟩
/-- what FIRST below g make -/
def MDf (V : Vw) (c : Nat) (v g : Int) (m : Nat) : Prop := lq V 0 (3 * c + 1) v = true ∧ ∃ f, (-50 ≤ f ∧ f ≤ 50) ∧ f < g ∧ fq V 0 (-1) c f v = true ∧ m = fl V (3 * c) f ||| fl V (3 * c + 1) v
theorem MDf_lt {V : Vw} {c : Nat} {v g : Int} {m : Nat} (h : MDf V c v g m) : m < 2 ^ vNt V := by
  obtain ⟨-, f, -, -, -, rfl⟩ := h
  exact Nat.or_lt_two_pow (fl_lt2 V _ _) (fl_lt2 V _ _)
/-- the loop over FIRST -/
def MI (V : Vw) (S : QS) (c : Nat) (v g : Int) (s : QS) : Prop := Fr [64, 65, 66] S s ∧ (∀ j, j ≠ cx c v → s.1 66 j = S.1 66 j) ∧ (∀ j, (j < 101 * cx c v ∨ 101 * cx c v + 101 ≤ j) → s.1 65 j = S.1 65 j) ∧
  ∃ n : Nat, (n : Int) ≤ g + 50 ∧ s.1 66 (cx c v) = iv (n : Int) ∧ (∀ i, i < n → ∃ m, MDf V c v g m ∧ s.1 65 (101 * cx c v + i) = nI m) ∧ (∀ m, MDf V c v g m → ∃ i, i < n ∧ s.1 65 (101 * cx c v + i) = nI m) ∧ ∀ m, m < 2 ^ vNt V → Flag (s.1 64 (1024 * cx c v + m)) (MDf V c v g m)
theorem MI.same {V : Vw} {S : QS} {c : Nat} {v g : Int} {s : QS} (h : MI V S c v g s) (e : ∀ m, MDf V c v (g + 1) m ↔ MDf V c v g m) : MI V S c v (g + 1) s := by
  obtain ⟨h1, h2, h3, n, h4, h5, h6, h7, h8⟩ := h
  refine ⟨h1, h2, h3, n, by omega, h5, fun i hi => ?_, fun m hm => h7 m ((e m).mp hm), fun m hm => (h8 m hm).cg (e m).symm⟩
  obtain ⟨m, q1, q2⟩ := h6 i hi
  exact ⟨m, (e m).mpr q1, q2⟩
theorem r_makeFs {V : Vw} (hV : VOk V) {S : QS} (hM : MR V S) {c : Nat} (hc : c < 2) {v : Int} (hv : -50 ≤ v ∧ v ≤ 50) (hl : ∀ r, r < 6 → ∀ u, -50 ≤ u → u ≤ 50 → S.1 60 (cx r u) = b2 (lq V 0 r u)) (h66 : S.1 66 (cx c v) = 0) (h64 : ∀ m, m < 2 ^ vNt V → S.1 64 (1024 * cx c v + m) = 0) :
    ∃ S1, lp_X6_makes_75 (iv (c : Int)) (iv v) FU (-50) S = some S1 ∧ MI V S c v 51 S1 := by
  have hk := cx_lt2 hc hv
  have hp := pow_le10 hV
  have main := loop50 (fun fuel f s => lp_X6_makes_75 (iv (c : Int)) (iv v) fuel f s) id (fun g s => MI V S c v g s)
    (fun fuel s => by
      show lp_X6_makes_75 (iv (c : Int)) (iv v) (fuel + 1) (iv 51) s = some s
      rw [lp_X6_makes_75, if_pos gt50])
    (fun fuel g s h3 h4 hI => by
      have hg : -50 ≤ g ∧ g ≤ 50 := ⟨h3, h4⟩
      have i1 := hI.1
      have hM1 : MR V s := hM.fr i1 (by decide)
      have e60 : s.1 60 = S.1 60 := i1.1 60 (by decide)
      have hlet : s.1 60 (cx (3 * c + 1) v) = b2 (lq V 0 (3 * c + 1) v) := by rw [e60]; exact hl (3 * c + 1) (by omega) v hv.1 hv.2
      have hF := r_isFirst (w := -1) (set := 0) hV hM1 hc hg hv (by omega) (by rw [e60]; exact hl (3 * c) (by omega) g h3 h4)
      have no : lq V 0 (3 * c + 1) v = false ∨ fq V 0 (-1) c g v = false → ∀ m, MDf V c v (g + 1) m ↔ MDf V c v g m := fun hno m => by
        constructor
        · rintro ⟨q1, f, q2, q3, q4, q5⟩
          have : f ≠ g := fun z => by
            subst z
            rcases hno with h | h
            · rw [h] at q1; cases q1
            · rw [h] at q4; cases q4
          exact ⟨q1, f, q2, by omega, q4, q5⟩
        · rintro ⟨q1, f, q2, q3, q4, q5⟩
          exact ⟨q1, f, q2, by omega, q4, q5⟩
      cases hlq : lq V 0 (3 * c + 1) v with
      | false =>
        refine ⟨s, ?_, hI.same (no (Or.inl hlq))⟩
        show lp_X6_makes_75 (iv (c : Int)) (iv v) (fuel + 1) (iv g) s = lp_X6_makes_75 (iv (c : Int)) (iv v) fuel (iv (g + 1)) s
        rw [lp_X6_makes_75, if_neg (hi50 h4), row1, r_cell, ob, rdC (by omega) hv, ob, hlet, hlq, if_pos (by decide), iv_one]
      | true =>
        cases hfq : fq V 0 (-1) c g v with
        | false =>
          refine ⟨s, ?_, hI.same (no (Or.inr hfq))⟩
          show lp_X6_makes_75 (iv (c : Int)) (iv v) (fuel + 1) (iv g) s = lp_X6_makes_75 (iv (c : Int)) (iv v) fuel (iv (g + 1)) s
          rw [lp_X6_makes_75, if_neg (hi50 h4), row1, r_cell, ob, rdC (by omega) hv, ob, hlet, hlq, if_neg (by decide), c_m1, hF, ob, hfq, if_pos (by decide), iv_one]
        | true =>
          obtain ⟨-, h2, h3', n, g1, g2, g3, g4, g5⟩ := hI
          obtain ⟨m, hm⟩ : ∃ m, m = fl V (3 * c) g ||| fl V (3 * c + 1) v := ⟨_, rfl⟩
          have hmlt : m < 2 ^ vNt V := by rw [hm]; exact Nat.or_lt_two_pow (fl_lt2 V _ _) (fl_lt2 V _ _)
          have more : ∀ x, MDf V c v (g + 1) x ↔ (MDf V c v g x ∨ x = m) := fun x => by
            constructor
            · rintro ⟨q1, f, q2, q3, q4, q5⟩
              by_cases cf : f = g
              · subst cf
                exact Or.inr (q5.trans hm.symm)
              · exact Or.inl ⟨q1, f, q2, by omega, q4, q5⟩
            · rintro (⟨q1, f, q2, q3, q4, q5⟩ | q)
              · exact ⟨q1, f, q2, by omega, q4, q5⟩
              · exact ⟨hlq, g, hg, by omega, hfq, q.trans hm⟩
          have head : lp_X6_makes_75 (iv (c : Int)) (iv v) (fuel + 1) (iv g) s = if s.1 64 (1024 * cx c v + m) = 0 then lp_X6_makes_75 (iv (c : Int)) (iv v) fuel (iv (g + 1)) (setF 66 (cx c v) (iv (n : Int) + 1) (setF 65 (101 * cx c v + n) (nI m) (setF 64 (1024 * cx c v + m) 1 s))) else lp_X6_makes_75 (iv (c : Int)) (iv v) fuel (iv (g + 1)) s := by
            have i64 : (((1024 * cx c v : Nat) : Int) + (m : Int)).toNat = 1024 * cx c v + m := by omega
            have i65 : (((101 : Int) * (cx c v : Int)) + (n : Int)).toNat = 101 * cx c v + n := by omega
            rw [lp_X6_makes_75, if_neg (hi50 h4), row1, r_cell, ob, rdC (by omega) hv, ob, hlet, hlq, if_neg (by decide), c_m1, hF, ob, hfq, if_neg (by decide), row0, r_falses hV hM1 (by omega) hg, ob, r_falses hV hM1 (by omega) hv, ob, fa_or, ← hm, iv_k hv, shl10 hk, iv_nI, iv_add, rd_iv (by omega), ob, i64, iv_one]
            by_cases c0 : s.1 64 (1024 * cx c v + m) = 0
            · rw [if_pos c0, if_pos c0, wz_iv (by omega) (Or.inr rfl), ob, i64, rd_iv (by omega), ob, Int.toNat_natCast, st_nek (by decide), g2, c_101, iv_mul, iv_add, wr_iv (by omega), ob, i65, rd_iv (by omega), ob, Int.toNat_natCast, st_nek (by decide), st_nek (by decide), g2, wr_iv (by omega), ob, Int.toNat_natCast]
            · rw [if_neg c0, if_neg c0]
          rcases g5 m hmlt with ⟨e1, p1⟩ | ⟨e0, p0⟩
          · have same : ∀ x, MDf V c v (g + 1) x ↔ MDf V c v g x := fun x => (more x).trans ⟨fun z => z.elim id (fun q => by rw [q]; exact p1), Or.inl⟩
            refine ⟨s, ?_, MI.same ⟨i1, h2, h3', n, g1, g2, g3, g4, g5⟩ same⟩
            show lp_X6_makes_75 (iv (c : Int)) (iv v) (fuel + 1) (iv g) s = _
            rw [head, if_neg (by rw [e1]; decide)]
          · refine ⟨_, by show lp_X6_makes_75 (iv (c : Int)) (iv v) (fuel + 1) (iv g) s = _; rw [head, if_pos e0], ?_, ?_, ?_, n + 1, by omega, ?_, ?_, ?_, ?_⟩
            · exact ((i1.tr (Fr.set (by decide))).tr (Fr.set (by decide))).tr (Fr.set (by decide))
            · intro j hj
              rw [st_nej hj, st_nek (by decide), st_nek (by decide)]
              exact h2 j hj
            · intro j hj
              rw [st_nek (by decide), st_nej (by omega), st_nek (by decide)]
              exact h3' j hj
            · rw [st_eq, iv_one]
              rfl
            · intro i hi
              rw [st_nek (by decide)]
              by_cases ci : i = n
              · subst ci
                exact ⟨m, (more m).mpr (Or.inr rfl), st_eq _ _ _ _⟩
              · obtain ⟨x, q1, q2⟩ := g3 i (by omega)
                exact ⟨x, (more x).mpr (Or.inl q1), by rw [st_nej (by omega), st_nek (by decide)]; exact q2⟩
            · intro x hx
              rw [st_nek (by decide)]
              rcases (more x).mp hx with q | q
              · obtain ⟨i, q1, q2⟩ := g4 x q
                exact ⟨i, by omega, by rw [st_nej (by omega), st_nek (by decide)]; exact q2⟩
              · exact ⟨n, by omega, by rw [st_eq, q]⟩
            · intro x hx
              rw [st_nek (by decide), st_nek (by decide)]
              refine (Flag.set (g5 x hx) (c := x = m) inferInstance (y := (setF 64 (1024 * cx c v + m) 1 s).1 64 (1024 * cx c v + x)) ?_ (Q := x = m) Iff.rfl).cg (more x).symm
              rw [st_1]
              by_cases cm : x = m
              · rw [if_pos ⟨rfl, by rw [cm]⟩, if_pos cm]
              · rw [if_neg (fun z => cm (by omega)), if_neg cm])
    S ⟨Fr.rf, fun _ _ => rfl, fun _ _ => rfl, 0, by omega, h66, fun i hi => absurd hi (Nat.not_lt_zero _), fun m ⟨_, f, q1, q2, _⟩ => by omega, fun m hm => Or.inr ⟨h64 m hm, fun ⟨_, f, q1, q2, _⟩ => by omega⟩⟩
  obtain ⟨S1, e, i1⟩ := main
  exact ⟨S1, by rw [c_m50]; exact e, i1⟩
/-- how far they are made -/
def MK (V : Vw) (c : Nat) (v : Int) (s : QS) : Prop := ∀ d, d < 2 → ∀ u, -50 ≤ u → u ≤ 50 → (d < c ∨ (d = c ∧ u < v)) → MkAt V s d u
theorem r_makesCar {V : Vw} (hV : VOk V) {S : QS} (hM : MR V S) {c : Nat} (hc : c < 2) (hl : ∀ r, r < 6 → ∀ u, -50 ≤ u → u ≤ 50 → S.1 60 (cx r u) = b2 (lq V 0 r u)) (hK : MK V c (-50) S) :
    ∃ S1, lp_X6_makes_15 (iv (c : Int)) FU (-50) S = some S1 ∧ Fr [64, 65, 66] S S1 ∧ MK V (c + 1) (-50) S1 := by
  have main := loop50 (fun fuel v s => lp_X6_makes_15 (iv (c : Int)) fuel v s) id (fun v s => Fr [64, 65, 66] S s ∧ MK V c v s)
    (fun fuel s => by
      show lp_X6_makes_15 (iv (c : Int)) (fuel + 1) (iv 51) s = some s
      rw [lp_X6_makes_15, if_pos gt50])
    (fun fuel v s h3 h4 hI => by
      obtain ⟨i1, i2⟩ := hI
      have hv : -50 ≤ v ∧ v ≤ 50 := ⟨h3, h4⟩
      have hk := cx_lt2 hc hv
      have hM1 : MR V s := hM.fr i1 (by decide)
      obtain ⟨s1, hs1⟩ : ∃ s1, s1 = setF 66 (cx c v) 0 s := ⟨_, rfl⟩
      have f1 : Fr [66] s s1 := by rw [hs1]; exact Fr.set (by decide)
      have hM2 := hM1.fr f1 (by decide)
      obtain ⟨s2, e2, f2, z2⟩ := r_wipe hV hM2 hc hv
      have hM3 := hM2.fr f2 (by decide)
      obtain ⟨s3, e3, f3, u3, w3, n, g1, g2, g3, g4, -⟩ := r_makeFs hV hM3 hc hv (fun r hr u h1 h2 => by rw [f2.1 60 (by decide), f1.1 60 (by decide), i1.1 60 (by decide)]; exact hl r hr u h1 h2) (by rw [f2.1 66 (by decide), hs1]; exact st_eq _ _ _ _) z2
      have n101 : n ≤ 101 := by omega
      have ff : ∀ m, MDf V c v 51 m ↔ MD V c v m := fun m => ⟨fun ⟨q1, f, q2, _, q3⟩ => ⟨q1, f, q2, q3⟩, fun ⟨q1, f, q2, q3⟩ => ⟨q1, f, q2, by omega, q3⟩⟩
      refine ⟨s3, ?_, ((i1.tr (f1.mono (by simp))).tr (f2.mono (by simp))).tr f3, fun d hd u h1 h2 hdu => ?_⟩
      · show lp_X6_makes_15 (iv (c : Int)) (fuel + 1) (iv v) s = lp_X6_makes_15 (iv (c : Int)) fuel (iv (v + 1)) s3
        rw [lp_X6_makes_15, if_neg (hi50 h4), iv_k hv, wr_iv (by omega), ob, Int.toNat_natCast, ← hs1, e2, ob, e3, ob, iv_one]
      · by_cases cd : d = c ∧ u = v
        · obtain ⟨rfl, rfl⟩ := cd
          refine ⟨n, n101, g2, fun i hi => ?_, fun m hm => g4 m ((ff m).mpr hm)⟩
          obtain ⟨m, q1, q2⟩ := g3 i hi
          exact ⟨m, (ff m).mp q1, q2⟩
        · have hne : cx d u ≠ cx c v := cx_ne ⟨h1, h2⟩ hv (by omega)
          refine (i2 d hd u h1 h2 (by omega)).fr ?_ (fun i hi => ?_)
          · rw [u3 _ hne, f2.1 66 (by decide), hs1, st_nej hne]
          · rw [w3 _ (by omega), f2.1 65 (by decide), f1.1 65 (by decide)])
    S ⟨Fr.rf, hK⟩
  obtain ⟨S1, e, i1, i2⟩ := main
  exact ⟨S1, by rw [c_m50]; exact e, i1, fun d hd u h1 h2 h5 => i2 d hd u h1 h2 (by omega)⟩
theorem r_makes {V : Vw} (hV : VOk V) {S : QS} (hM : MR V S) : ∃ S1, f_X6_makes S = some S1 ∧ Fr [60, 61, 64, 65, 66] S S1 ∧ MkOk V S1 := by
  obtain ⟨s0, e0, f0, g0⟩ := r_lets (set := 0) hV hM
  have hM0 := hM.fr f0 (by decide)
  have hl0 : ∀ r, r < 6 → ∀ u, -50 ≤ u → u ≤ 50 → s0.1 60 (cx r u) = b2 (lq V 0 r u) := fun r hr u h1 h2 => (g0 r hr u h1 h2).1
  have k0 : MK V 0 (-50) s0 := fun d hd u h1 h2 h => by omega
  obtain ⟨s1, e1, f1, k1⟩ := r_makesCar hV hM0 (c := 0) (by decide) hl0 k0
  obtain ⟨s2, e2, f2, k2⟩ := r_makesCar hV (hM0.fr f1 (by decide)) (c := 1) (by decide) (fun r hr u h1 h2 => by rw [f1.1 60 (by decide)]; exact hl0 r hr u h1 h2) k1
  refine ⟨s2, ?_, (f0.mono (by simp)).tr ((f1.mono (by simp)).tr (f2.mono (by simp))), fun c hc u h1 h2 => k2 c hc u h1 h2 (by omega)⟩
  unfold f_X6_makes
  rw [show (0 : Int32) = nI 0 from rfl, e0, ob]
  show lp_X6_makes_7 (1099 + 1) 0 s0 = _
  rw [lp_X6_makes_7, if_neg (by decide), show (0 : Int32) = iv ((0 : Nat) : Int) from rfl, e1, ob]
  show lp_X6_makes_7 (1098 + 1) (iv ((0 : Nat) : Int) + 1) s1 = _
  rw [lp_X6_makes_7, if_neg (by decide), show iv ((0 : Nat) : Int) + 1 = iv ((1 : Nat) : Int) from by decide, e2, ob]
  show lp_X6_makes_7 (1097 + 1) (iv ((1 : Nat) : Int) + 1) s2 = _
  rw [lp_X6_makes_7, if_pos (by decide)]
