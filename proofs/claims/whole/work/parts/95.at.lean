theorem vpq_cg {cA : ClassId} {n : Nat} {f g : Nat → Option Nat} (h : ∀ j, j < n → f j = g j) : vp_cell cA (n, .inr (.inr (.inr (.inr f)))) = vp_cell cA (n, .inr (.inr (.inr (.inr g)))) := by
  rw [vp_cell_q, vp_cell_q]
  exact arrV_cg (fun j hj => by rw [h j hj])
def adO (fd fm : Nat → Nat) (q : Nat) : Nat → Nat := fun k => if k < 48 then fd k else if k < 67 then fm (k - 48) else q
theorem wd_row (ca : Nat → ClassId) (fd fm : Nat → Nat) (q : Nat) : ∀ k, k < 68 → ∃ e : va_E, (deskW ca fd ++ (modW ca fm ++ [(q, .inl (ca 4, 1, .inr (.inl (fun _ => 0))))]))[k]? = some (adO fd fm q k, e)
  | 0, _ => ⟨_, rfl⟩
  | 1, _ => ⟨_, rfl⟩
  | 2, _ => ⟨_, rfl⟩
  | 3, _ => ⟨_, rfl⟩
  | 4, _ => ⟨_, rfl⟩
  | 5, _ => ⟨_, rfl⟩
  | 6, _ => ⟨_, rfl⟩
  | 7, _ => ⟨_, rfl⟩
  | 8, _ => ⟨_, rfl⟩
  | 9, _ => ⟨_, rfl⟩
  | 10, _ => ⟨_, rfl⟩
  | 11, _ => ⟨_, rfl⟩
  | 12, _ => ⟨_, rfl⟩
  | 13, _ => ⟨_, rfl⟩
  | 14, _ => ⟨_, rfl⟩
  | 15, _ => ⟨_, rfl⟩
  | 16, _ => ⟨_, rfl⟩
  | 17, _ => ⟨_, rfl⟩
  | 18, _ => ⟨_, rfl⟩
  | 19, _ => ⟨_, rfl⟩
  | 20, _ => ⟨_, rfl⟩
  | 21, _ => ⟨_, rfl⟩
  | 22, _ => ⟨_, rfl⟩
  | 23, _ => ⟨_, rfl⟩
  | 24, _ => ⟨_, rfl⟩
  | 25, _ => ⟨_, rfl⟩
  | 26, _ => ⟨_, rfl⟩
  | 27, _ => ⟨_, rfl⟩
  | 28, _ => ⟨_, rfl⟩
  | 29, _ => ⟨_, rfl⟩
  | 30, _ => ⟨_, rfl⟩
  | 31, _ => ⟨_, rfl⟩
  | 32, _ => ⟨_, rfl⟩
  | 33, _ => ⟨_, rfl⟩
  | 34, _ => ⟨_, rfl⟩
  | 35, _ => ⟨_, rfl⟩
  | 36, _ => ⟨_, rfl⟩
  | 37, _ => ⟨_, rfl⟩
  | 38, _ => ⟨_, rfl⟩
  | 39, _ => ⟨_, rfl⟩
  | 40, _ => ⟨_, rfl⟩
  | 41, _ => ⟨_, rfl⟩
  | 42, _ => ⟨_, rfl⟩
  | 43, _ => ⟨_, rfl⟩
  | 44, _ => ⟨_, rfl⟩
  | 45, _ => ⟨_, rfl⟩
  | 46, _ => ⟨_, rfl⟩
  | 47, _ => ⟨_, rfl⟩
  | 48, _ => ⟨_, rfl⟩
  | 49, _ => ⟨_, rfl⟩
  | 50, _ => ⟨_, rfl⟩
  | 51, _ => ⟨_, rfl⟩
  | 52, _ => ⟨_, rfl⟩
  | 53, _ => ⟨_, rfl⟩
  | 54, _ => ⟨_, rfl⟩
  | 55, _ => ⟨_, rfl⟩
  | 56, _ => ⟨_, rfl⟩
  | 57, _ => ⟨_, rfl⟩
  | 58, _ => ⟨_, rfl⟩
  | 59, _ => ⟨_, rfl⟩
  | 60, _ => ⟨_, rfl⟩
  | 61, _ => ⟨_, rfl⟩
  | 62, _ => ⟨_, rfl⟩
  | 63, _ => ⟨_, rfl⟩
  | 64, _ => ⟨_, rfl⟩
  | 65, _ => ⟨_, rfl⟩
  | 66, _ => ⟨_, rfl⟩
  | 67, _ => ⟨_, rfl⟩
  | n + 68, h => absurd h (by omega)
theorem wd_inj {ca : Nat → ClassId} {fd fm : Nat → Nat} {q : Nat} {A : Nat → Prop} (h : va_D A (deskW ca fd ++ (modW ca fm ++ [(q, .inl (ca 4, 1, .inr (.inl (fun _ => 0))))]))) : Inj (adO fd fm q) ∧ ∀ k, k < 68 → A (adO fd fm q k) := by
  refine ⟨fun i j hi hj e => ?_, fun k hk => ?_⟩
  · obtain ⟨e1, h1⟩ := wd_row ca fd fm q i hi
    obtain ⟨e2, h2⟩ := wd_row ca fd fm q j hj
    exact h.1 i j _ _ h1 h2 e
  · obtain ⟨e1, h1⟩ := wd_row ca fd fm q k hk
    exact h.2 k _ h1
set_option maxRecDepth 100000 in
set_option maxHeartbeats 4000000 in
theorem wd_start {D : va_G} {ca : Nat → ClassId} {fd fm : Nat → Nat} {q : Nat} {H : Heap} (h : va_P D vwCl (deskW ca fd ++ (modW ca fm ++ [(q, .inl (ca 4, 1, .inr (.inl (fun _ => 0))))])) H) : va_P D vwCl (wd ca (adO fd fm q) S0) H := by
  have key : ∀ k, k < 68 → va_at D vwCl (adO fd fm q k, cel ca (adO fd fm q) k (S0.1 k) S0.2) H
    | 0, _ => by rw [cel_5 (show qk 0 = 5 from rfl)]; exact h 0 _ rfl
    | 1, _ => by
      rw [cel_9 (show qk 1 = 9 from rfl)]
      refine (h 1 _ rfl).trans (congrArg some (vpq_cg (fun j hj => ?_)))
      match j, hj with
      | 0, _ => rfl
      | 1, _ => rfl
      | 2, _ => rfl
      | 3, _ => rfl
      | 4, _ => rfl
      | 5, _ => rfl
      | 6, _ => rfl
      | 7, _ => rfl
      | 8, _ => rfl
      | 9, _ => rfl
      | 10, _ => rfl
      | 11, _ => rfl
      | n + 12, hj => exact absurd hj (by omega)
    | 2, _ => by rw [cel_2 (show qk 2 = 2 from rfl)]; exact h 2 _ rfl
    | 3, _ => by rw [cel_2 (show qk 3 = 2 from rfl)]; exact h 3 _ rfl
    | 4, _ => by rw [cel_2 (show qk 4 = 2 from rfl)]; exact h 4 _ rfl
    | 5, _ => by rw [cel_2 (show qk 5 = 2 from rfl)]; exact h 5 _ rfl
    | 6, _ => by rw [cel_2 (show qk 6 = 2 from rfl)]; exact h 6 _ rfl
    | 7, _ => by rw [cel_2 (show qk 7 = 2 from rfl)]; exact h 7 _ rfl
    | 8, _ => by rw [cel_2 (show qk 8 = 2 from rfl)]; exact h 8 _ rfl
    | 9, _ => by rw [cel_2 (show qk 9 = 2 from rfl)]; exact h 9 _ rfl
    | 10, _ => by rw [cel_2 (show qk 10 = 2 from rfl)]; exact h 10 _ rfl
    | 11, _ => by rw [cel_2 (show qk 11 = 2 from rfl)]; exact h 11 _ rfl
    | 12, _ => by rw [cel_2 (show qk 12 = 2 from rfl)]; exact h 12 _ rfl
    | 13, _ => by rw [cel_2 (show qk 13 = 2 from rfl)]; exact h 13 _ rfl
    | 14, _ => by
      rw [cel_10 (show qk 14 = 10 from rfl)]
      refine (h 14 _ rfl).trans (congrArg some (vpq_cg (fun j hj => ?_)))
      match j, hj with
      | 0, _ => rfl
      | 1, _ => rfl
      | 2, _ => rfl
      | 3, _ => rfl
      | 4, _ => rfl
      | 5, _ => rfl
      | 6, _ => rfl
      | 7, _ => rfl
      | 8, _ => rfl
      | 9, _ => rfl
      | n + 10, hj => exact absurd hj (by omega)
    | 15, _ => by rw [cel_4 (show qk 15 = 4 from rfl)]; exact h 15 _ rfl
    | 16, _ => by rw [cel_4 (show qk 16 = 4 from rfl)]; exact h 16 _ rfl
    | 17, _ => by rw [cel_4 (show qk 17 = 4 from rfl)]; exact h 17 _ rfl
    | 18, _ => by rw [cel_4 (show qk 18 = 4 from rfl)]; exact h 18 _ rfl
    | 19, _ => by rw [cel_4 (show qk 19 = 4 from rfl)]; exact h 19 _ rfl
    | 20, _ => by rw [cel_4 (show qk 20 = 4 from rfl)]; exact h 20 _ rfl
    | 21, _ => by rw [cel_4 (show qk 21 = 4 from rfl)]; exact h 21 _ rfl
    | 22, _ => by rw [cel_4 (show qk 22 = 4 from rfl)]; exact h 22 _ rfl
    | 23, _ => by rw [cel_4 (show qk 23 = 4 from rfl)]; exact h 23 _ rfl
    | 24, _ => by rw [cel_4 (show qk 24 = 4 from rfl)]; exact h 24 _ rfl
    | 25, _ => by rw [cel_1 (show qk 25 = 1 from rfl)]; exact h 25 _ rfl
    | 26, _ => by rw [cel_0 (show qk 26 = 0 from rfl)]; exact h 26 _ rfl
    | 27, _ => by rw [cel_3 (show qk 27 = 3 from rfl)]; exact h 27 _ rfl
    | 28, _ => by rw [cel_7 (show qk 28 = 7 from rfl)]; exact h 28 _ rfl
    | 29, _ => by rw [cel_8 (show qk 29 = 8 from rfl)]; exact h 29 _ rfl
    | 30, _ => by rw [cel_3 (show qk 30 = 3 from rfl)]; exact h 30 _ rfl
    | 31, _ => by rw [cel_7 (show qk 31 = 7 from rfl)]; exact h 31 _ rfl
    | 32, _ => by rw [cel_8 (show qk 32 = 8 from rfl)]; exact h 32 _ rfl
    | 33, _ => by rw [cel_3 (show qk 33 = 3 from rfl)]; exact h 33 _ rfl
    | 34, _ => by rw [cel_7 (show qk 34 = 7 from rfl)]; exact h 34 _ rfl
    | 35, _ => by rw [cel_8 (show qk 35 = 8 from rfl)]; exact h 35 _ rfl
    | 36, _ => by rw [cel_7 (show qk 36 = 7 from rfl)]; exact h 36 _ rfl
    | 37, _ => by rw [cel_0 (show qk 37 = 0 from rfl)]; exact h 37 _ rfl
    | 38, _ => by rw [cel_3 (show qk 38 = 3 from rfl)]; exact h 38 _ rfl
    | 39, _ => by rw [cel_7 (show qk 39 = 7 from rfl)]; exact h 39 _ rfl
    | 40, _ => by rw [cel_8 (show qk 40 = 8 from rfl)]; exact h 40 _ rfl
    | 41, _ => by rw [cel_3 (show qk 41 = 3 from rfl)]; exact h 41 _ rfl
    | 42, _ => by rw [cel_7 (show qk 42 = 7 from rfl)]; exact h 42 _ rfl
    | 43, _ => by rw [cel_8 (show qk 43 = 8 from rfl)]; exact h 43 _ rfl
    | 44, _ => by rw [cel_3 (show qk 44 = 3 from rfl)]; exact h 44 _ rfl
    | 45, _ => by rw [cel_7 (show qk 45 = 7 from rfl)]; exact h 45 _ rfl
    | 46, _ => by rw [cel_8 (show qk 46 = 8 from rfl)]; exact h 46 _ rfl
    | 47, _ => by rw [cel_7 (show qk 47 = 7 from rfl)]; exact h 47 _ rfl
    | 48, _ => by rw [cel_6 (show qk 48 = 6 from rfl)]; exact h 48 _ rfl
    | 49, _ => by rw [cel_7 (show qk 49 = 7 from rfl)]; exact h 49 _ rfl
    | 50, _ => by rw [cel_7 (show qk 50 = 7 from rfl)]; exact h 50 _ rfl
    | 51, _ => by rw [cel_8 (show qk 51 = 8 from rfl)]; exact h 51 _ rfl
    | 52, _ => by rw [cel_7 (show qk 52 = 7 from rfl)]; exact h 52 _ rfl
    | 53, _ => by rw [cel_7 (show qk 53 = 7 from rfl)]; exact h 53 _ rfl
    | 54, _ => by rw [cel_8 (show qk 54 = 8 from rfl)]; exact h 54 _ rfl
    | 55, _ => by rw [cel_7 (show qk 55 = 7 from rfl)]; exact h 55 _ rfl
    | 56, _ => by rw [cel_7 (show qk 56 = 7 from rfl)]; exact h 56 _ rfl
    | 57, _ => by rw [cel_7 (show qk 57 = 7 from rfl)]; exact h 57 _ rfl
    | 58, _ => by rw [cel_7 (show qk 58 = 7 from rfl)]; exact h 58 _ rfl
    | 59, _ => by rw [cel_7 (show qk 59 = 7 from rfl)]; exact h 59 _ rfl
    | 60, _ => by rw [cel_8 (show qk 60 = 8 from rfl)]; exact h 60 _ rfl
    | 61, _ => by rw [cel_8 (show qk 61 = 8 from rfl)]; exact h 61 _ rfl
    | 62, _ => by rw [cel_7 (show qk 62 = 7 from rfl)]; exact h 62 _ rfl
    | 63, _ => by rw [cel_8 (show qk 63 = 8 from rfl)]; exact h 63 _ rfl
    | 64, _ => by rw [cel_8 (show qk 64 = 8 from rfl)]; exact h 64 _ rfl
    | 65, _ => by rw [cel_7 (show qk 65 = 7 from rfl)]; exact h 65 _ rfl
    | 66, _ => by rw [cel_7 (show qk 66 = 7 from rfl)]; exact h 66 _ rfl
    | 67, _ => by rw [cel_11 (show qk 67 = 11 from rfl)]; exact h 67 _ rfl
    | n + 68, h => absurd h (by omega)
  intro k p hk
  obtain ⟨hk68, rfl⟩ := wd_inv hk
  exact key k hk68
theorem qnest_in : ∀ w ∈ qnest, w ∈ lw_tbl := by decide +kernel
theorem qcas_in : ∀ w ∈ qcas, w ∈ lw_tbl := by decide +kernel
theorem qstr_in : ∀ q ∈ qstr, Cond.stringRef RX5 q.1 q.2 ∈ lw_tbl := by decide +kernel
theorem qnc_in : ∀ q ∈ qnc, Cond.not (.castable q.1 q.2) ∈ flatC (Jvm.Cond.and given_1 narrow_1) := by decide +kernel
theorem qst_in : Cond.isRef (.static Bundle.tN "UNASSIGNED_STACK" Bundle.steD) ∈ flatC (Jvm.Cond.and given_1 narrow_1) ∧ Cond.isRef (.static Bundle.tN "SUPPRESSED_SENTINEL" Bundle.listD) ∈ flatC (Jvm.Cond.and given_1 narrow_1) := by decide +kernel
theorem qls_in : Cond.laysStatic Bundle.tN "UNASSIGNED_STACK" Bundle.steD ∈ lw_tbl ∧ Cond.laysStatic Bundle.tN "SUPPRESSED_SENTINEL" Bundle.listD ∈ lw_tbl ∧ Cond.initialized Bundle.tN ∈ lw_tbl := by decide +kernel
theorem qar_in : Cond.arrayClass .int ∈ lw_tbl ∧ Cond.arrayClass .boolean ∈ lw_tbl ∧ Cond.arrayClass .long ∈ lw_tbl ∧ Cond.arrayOver (.object "CrashDesk$Skid") ∈ lw_tbl ∧ Cond.arrayOver (.object "CrashDesk$Tale") ∈ lw_tbl := by decide +kernel
theorem qsz_in : Cond.instantiable RX0 10 ∈ lw_tbl ∧ Cond.instantiable RX1 6 ∈ lw_tbl ∧ Cond.instantiable RX2 5 ∈ lw_tbl ∧ Cond.instantiable RX3 6 ∈ lw_tbl ∧ Cond.instantiable RX4 4 ∈ lw_tbl ∧ Cond.instantiable RX5 8 ∈ lw_tbl ∧ Cond.instantiable RX6 23 ∈ lw_tbl := by decide +kernel
theorem arr_RA {s : State} {a : Array Value} {ty : FieldType} (h : (Cond.arrayClass ty).before a s = true) (hn : ∀ C, ty ≠ .object C) : ∃ c, ArrOfT s c ty ∧ va_RA s c ty := by
  obtain ⟨c, k, comp, h1, h2, h3⟩ := Cond.arrayClass_spec h
  refine ⟨c, fun n z => ⟨fun k2 h9 => (by cases h9), k, h2, comp, h3⟩, ?_⟩
  cases ty <;> first | exact h1 | exact absurd rfl (hn _)
theorem arr_RO {s : State} {a : Array Value} {C : String} (h : (Cond.arrayOver (.object C)).before a s = true) : ∃ c, ArrOfT s c (.object C) ∧ va_RA s c (.object C) := by
  obtain ⟨comp, c, k, h1, h2, h3, h4, h5⟩ := Cond.arrayOver_spec h
  exact ⟨c, fun n z => ⟨fun k2 h9 => (by cases h9), k, h3, comp, h4⟩, k, comp, h3, h4, h1, h5⟩
/-- what the tables give, all at once -/
theorem at_start {s : State} {b : Nat} (hts : ∀ w ∈ lw_tbl, w.before #[Value.ref b] s = true) (hgv : (Jvm.Cond.and given_1 narrow_1).before #[Value.ref b] s = true) : ∃ (D : va_G) (ca : Nat → ClassId), KK D ca s ∧ va_AO "CrashDesk$Skid" s ∧ va_AO "CrashDesk$Tale" s ∧ NC s ∧ ∀ A : Nat → Prop, (∀ a : Nat, a < s.heap.size → ¬ A a) → EX A s s.heap := by
  obtain ⟨ar0, ar1, ar4, ar2, ar3⟩ := qar_in
  obtain ⟨sz0, sz1, sz2, sz3, sz4, sz5, sz6⟩ := qsz_in
  obtain ⟨c0, i0, hk0⟩ := u_known (C := RX0) (T := TX0) (N := 10) (n := 10) (fun w h => hts w (inX0 w h)) (fun _ h => h) (hts _ sz0)
  obtain ⟨c1, i1, hk1⟩ := u_known (C := RX1) (T := TX1) (N := 6) (n := 6) (fun w h => hts w (inX1 w h)) (fun _ h => h) (hts _ sz1)
  obtain ⟨c2, i2, hk2⟩ := u_known (C := RX2) (T := TX2) (N := 5) (n := 5) (fun w h => hts w (inX2 w h)) (fun _ h => h) (hts _ sz2)
  obtain ⟨c3, i3, hk3⟩ := u_known (C := RX3) (T := TX3) (N := 6) (n := 6) (fun w h => hts w (inX3 w h)) (fun _ h => h) (hts _ sz3)
  obtain ⟨c4, i4, hk4⟩ := u_known (C := RX4) (T := TX4) (N := 4) (n := 4) (fun w h => hts w (inX4 w h)) (fun _ h => h) (hts _ sz4)
  obtain ⟨c5, i5, hk5⟩ := u_known (C := RX5) (T := TX5) (N := 8) (n := 8) (fun w h => hts w (inX5 w h)) (fun _ h => h) (hts _ sz5)
  obtain ⟨c6, i6, hk6⟩ := u_known (C := RX6) (T := TX6) (N := 23) (n := 23) (fun w h => hts w (inX6 w h)) (fun _ h => h) (hts _ sz6)
  obtain ⟨a0, ha0⟩ := arr_RA (hts _ ar0) (fun C h => by cases h)
  obtain ⟨a1, ha1⟩ := arr_RA (hts _ ar1) (fun C h => by cases h)
  obtain ⟨a2, ha2⟩ := arr_RO (hts _ ar2)
  obtain ⟨a3, ha3⟩ := arr_RO (hts _ ar3)
  obtain ⟨a4, ha4⟩ := arr_RA (hts _ ar4) (fun C h => by cases h)
  refine ⟨(fun k => if k = 0 then c0 else if k = 1 then c1 else if k = 2 then c2 else if k = 3 then c3 else if k = 4 then c4 else if k = 5 then c5 else c6, fun k => if k = 0 then i0 else if k = 1 then i1 else if k = 2 then i2 else if k = 3 then i3 else if k = 4 then i4 else if k = 5 then i5 else i6), fun k => if k = 0 then a0 else if k = 1 then a1 else if k = 2 then a2 else if k = 3 then a3 else a4, ⟨⟨?_, ?_⟩, ?_⟩, va_AO.of (hts _ ar2), va_AO.of (hts _ ar3), ?_, ?_⟩
  · intro k q hq
    match k, hq with
    | 0, hq => cases hq; exact hk0
    | 1, hq => cases hq; exact hk1
    | 2, hq => cases hq; exact hk2
    | 3, hq => cases hq; exact hk3
    | 4, hq => cases hq; exact hk4
    | 5, hq => cases hq; exact hk5
    | 6, hq => cases hq; exact hk6
    | k + 7, hq => simp [vwCl] at hq
  · intro k q hq
    match k, hq with
    | 0, hq => cases hq; exact ha0
    | 1, hq => cases hq; exact ha1
    | 2, hq => cases hq; exact ha2
    | 3, hq => cases hq; exact ha3
    | 4, hq => cases hq; exact ha4
    | k + 5, hq => simp [tys] at hq
  · exact fun w hw => va_Nw.of ((show ∀ w ∈ qnest, w.onTables = true by decide) w hw) (hts w (qnest_in w hw))
  · exact fun q hq => va_Nc.of (flat_of_before _ hgv _ (qnc_in q hq))
  · intro A hA
    refine ⟨vx_Zqof (hts _ qls_in.1) (hts _ qls_in.2.2) (flat_of_before _ hgv _ qst_in.1) hA, vx_Zqof (hts _ qls_in.2.1) (hts _ qls_in.2.2) (flat_of_before _ hgv _ qst_in.2) hA, fun q hq => ?_, fun w hw => va_Nw.of ((show ∀ w ∈ qcas, w.onTables = true by decide) w hw) (hts w (qcas_in w hw))⟩
    obtain ⟨k, cf, i, a, -, -, -, -, -, he⟩ := Cond.stringRef_spec hk5.2.1 (hts _ (qstr_in q hq))
    exact ⟨a, vk_R.of (A := #[Value.ref b]) (hts _ (qstr_in q hq)) he⟩
