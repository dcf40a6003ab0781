section
-- ===== PART A: goes FIRST, ahead of the names: the tables' words, and 'selects' of the private methods out of them =====
/-- a private method of a class that the tables say can be made, by its rows of tables_1 -/
def lw_okq (q : MethodName × Nat) : Prop := (q.1.cls ≠ "java/lang/invoke/MethodHandle" ∧ q.1.cls ≠ "java/lang/invoke/VarHandle") ∧ Cond.instantiable q.1.cls q.2 ∈ tables_1 ∧ Cond.privateMethod q.1 ∈ tables_1 ∧ Cond.instanceMethod q.1 ∈ tables_1
theorem lw_p0 : lw_okq (⟨"CrashDesk", "reckon", "(II)V"⟩, 8) := ⟨⟨by decide +kernel, by decide +kernel⟩, List.mem_of_getElem? (i := 18) (by decide +kernel), List.mem_of_getElem? (i := 223) (by decide +kernel), List.mem_of_getElem? (i := 224) (by decide +kernel)⟩
theorem lw_p1 : lw_okq (⟨"CrashDesk$Car", "isTakenBehind", "(I)Z"⟩, 10) := ⟨⟨by decide +kernel, by decide +kernel⟩, List.mem_of_getElem? (i := 36) (by decide +kernel), List.mem_of_getElem? (i := 274) (by decide +kernel), List.mem_of_getElem? (i := 275) (by decide +kernel)⟩
theorem lw_p2 : lw_okq (⟨"CrashDesk$Car", "joinFirsts", "(I)V"⟩, 10) := ⟨⟨by decide +kernel, by decide +kernel⟩, List.mem_of_getElem? (i := 36) (by decide +kernel), List.mem_of_getElem? (i := 280) (by decide +kernel), List.mem_of_getElem? (i := 281) (by decide +kernel)⟩
theorem lw_p3 : lw_okq (⟨"CrashDesk$Car", "isTakenAhead", "(II)Z"⟩, 10) := ⟨⟨by decide +kernel, by decide +kernel⟩, List.mem_of_getElem? (i := 36) (by decide +kernel), List.mem_of_getElem? (i := 287) (by decide +kernel), List.mem_of_getElem? (i := 288) (by decide +kernel)⟩
theorem lw_p4 : lw_okq (⟨"CrashDesk$Meeting", "pushFrom", "(I)V"⟩, 6) := ⟨⟨by decide +kernel, by decide +kernel⟩, List.mem_of_getElem? (i := 30) (by decide +kernel), List.mem_of_getElem? (i := 306) (by decide +kernel), List.mem_of_getElem? (i := 307) (by decide +kernel)⟩
theorem lw_p5 : lw_okq (⟨"CrashDesk$Meeting", "meet", "(II)V"⟩, 6) := ⟨⟨by decide +kernel, by decide +kernel⟩, List.mem_of_getElem? (i := 30) (by decide +kernel), List.mem_of_getElem? (i := 310) (by decide +kernel), List.mem_of_getElem? (i := 311) (by decide +kernel)⟩
theorem lw_p6 : lw_okq (⟨"CrashDesk", "allTales", "()I"⟩, 8) := ⟨⟨by decide +kernel, by decide +kernel⟩, List.mem_of_getElem? (i := 18) (by decide +kernel), List.mem_of_getElem? (i := 341) (by decide +kernel), List.mem_of_getElem? (i := 342) (by decide +kernel)⟩
theorem lw_p7 : lw_okq (⟨"CrashDesk", "countingSkids", "()I"⟩, 8) := ⟨⟨by decide +kernel, by decide +kernel⟩, List.mem_of_getElem? (i := 18) (by decide +kernel), List.mem_of_getElem? (i := 361) (by decide +kernel), List.mem_of_getElem? (i := 362) (by decide +kernel)⟩
theorem lw_p8 : lw_okq (⟨"CrashDesk", "carOf", "(I)LCrashDesk$Car;"⟩, 8) := ⟨⟨by decide +kernel, by decide +kernel⟩, List.mem_of_getElem? (i := 18) (by decide +kernel), List.mem_of_getElem? (i := 374) (by decide +kernel), List.mem_of_getElem? (i := 375) (by decide +kernel)⟩
theorem lw_p9 : lw_okq (⟨"java/lang/Throwable", "fillInStackTrace", "(I)Ljava/lang/Throwable;"⟩, 6) := ⟨⟨by decide +kernel, by decide +kernel⟩, List.mem_of_getElem? (i := 420) (by decide +kernel), List.mem_of_getElem? (i := 418) (by decide +kernel), List.mem_of_getElem? (i := 419) (by decide +kernel)⟩
theorem lw_p10 : lw_okq (⟨"CrashDesk", "skidOf", "(I)LCrashDesk$Skid;"⟩, 8) := ⟨⟨by decide +kernel, by decide +kernel⟩, List.mem_of_getElem? (i := 18) (by decide +kernel), List.mem_of_getElem? (i := 504) (by decide +kernel), List.mem_of_getElem? (i := 505) (by decide +kernel)⟩
theorem lw_p11 : lw_okq (⟨"CrashDesk", "speedOf", "(II)LCrashDesk$Speed;"⟩, 8) := ⟨⟨by decide +kernel, by decide +kernel⟩, List.mem_of_getElem? (i := 18) (by decide +kernel), List.mem_of_getElem? (i := 516) (by decide +kernel), List.mem_of_getElem? (i := 517) (by decide +kernel)⟩
theorem lw_p12 : lw_okq (⟨"CrashDesk", "testWay", "()V"⟩, 8) := ⟨⟨by decide +kernel, by decide +kernel⟩, List.mem_of_getElem? (i := 18) (by decide +kernel), List.mem_of_getElem? (i := 540) (by decide +kernel), List.mem_of_getElem? (i := 541) (by decide +kernel)⟩
theorem lw_p13 : lw_okq (⟨"CrashDeskModel", "throwsIf", "(ZI)Z"⟩, 23) := ⟨⟨by decide +kernel, by decide +kernel⟩, List.mem_of_getElem? (i := 592) (by decide +kernel), List.mem_of_getElem? (i := 683) (by decide +kernel), List.mem_of_getElem? (i := 684) (by decide +kernel)⟩
theorem lw_p14 : lw_okq (⟨"CrashDeskModel", "goes", "(II)Z"⟩, 23) := ⟨⟨by decide +kernel, by decide +kernel⟩, List.mem_of_getElem? (i := 592) (by decide +kernel), List.mem_of_getElem? (i := 717) (by decide +kernel), List.mem_of_getElem? (i := 718) (by decide +kernel)⟩
theorem lw_p15 : lw_okq (⟨"CrashDeskModel", "lets", "(I)V"⟩, 23) := ⟨⟨by decide +kernel, by decide +kernel⟩, List.mem_of_getElem? (i := 592) (by decide +kernel), List.mem_of_getElem? (i := 721) (by decide +kernel), List.mem_of_getElem? (i := 722) (by decide +kernel)⟩
def lw_privs_1 : List (MethodName × Nat) := [(⟨"CrashDesk", "reckon", "(II)V"⟩, 8), (⟨"CrashDesk$Car", "isTakenBehind", "(I)Z"⟩, 10), (⟨"CrashDesk$Car", "joinFirsts", "(I)V"⟩, 10), (⟨"CrashDesk$Car", "isTakenAhead", "(II)Z"⟩, 10), (⟨"CrashDesk$Meeting", "pushFrom", "(I)V"⟩, 6), (⟨"CrashDesk$Meeting", "meet", "(II)V"⟩, 6), (⟨"CrashDesk", "allTales", "()I"⟩, 8), (⟨"CrashDesk", "countingSkids", "()I"⟩, 8), (⟨"CrashDesk", "carOf", "(I)LCrashDesk$Car;"⟩, 8), (⟨"java/lang/Throwable", "fillInStackTrace", "(I)Ljava/lang/Throwable;"⟩, 6), (⟨"CrashDesk", "skidOf", "(I)LCrashDesk$Skid;"⟩, 8), (⟨"CrashDesk", "speedOf", "(II)LCrashDesk$Speed;"⟩, 8), (⟨"CrashDesk", "testWay", "()V"⟩, 8), (⟨"CrashDeskModel", "throwsIf", "(ZI)Z"⟩, 23), (⟨"CrashDeskModel", "goes", "(II)Z"⟩, 23), (⟨"CrashDeskModel", "lets", "(I)V"⟩, 23)]
theorem lw_r1 : ∀ q ∈ lw_privs_1, lw_okq q := List.forall_mem_cons.mpr ⟨lw_p0, List.forall_mem_cons.mpr ⟨lw_p1, List.forall_mem_cons.mpr ⟨lw_p2, List.forall_mem_cons.mpr ⟨lw_p3, List.forall_mem_cons.mpr ⟨lw_p4, List.forall_mem_cons.mpr ⟨lw_p5, List.forall_mem_cons.mpr ⟨lw_p6, List.forall_mem_cons.mpr ⟨lw_p7, List.forall_mem_cons.mpr ⟨lw_p8, List.forall_mem_cons.mpr ⟨lw_p9, List.forall_mem_cons.mpr ⟨lw_p10, List.forall_mem_cons.mpr ⟨lw_p11, List.forall_mem_cons.mpr ⟨lw_p12, List.forall_mem_cons.mpr ⟨lw_p13, List.forall_mem_cons.mpr ⟨lw_p14, List.forall_mem_cons.mpr ⟨lw_p15, fun _ h => absurd h List.not_mem_nil⟩⟩⟩⟩⟩⟩⟩⟩⟩⟩⟩⟩⟩⟩⟩⟩
theorem lw_p16 : lw_okq (⟨"CrashDeskModel", "falses", "(II)I"⟩, 23) := ⟨⟨by decide +kernel, by decide +kernel⟩, List.mem_of_getElem? (i := 592) (by decide +kernel), List.mem_of_getElem? (i := 728) (by decide +kernel), List.mem_of_getElem? (i := 729) (by decide +kernel)⟩
theorem lw_p17 : lw_okq (⟨"CrashDeskModel", "counts", "(I)V"⟩, 23) := ⟨⟨by decide +kernel, by decide +kernel⟩, List.mem_of_getElem? (i := 592) (by decide +kernel), List.mem_of_getElem? (i := 732) (by decide +kernel), List.mem_of_getElem? (i := 733) (by decide +kernel)⟩
theorem lw_p18 : lw_okq (⟨"CrashDeskModel", "isFirst", "(IIII)Z"⟩, 23) := ⟨⟨by decide +kernel, by decide +kernel⟩, List.mem_of_getElem? (i := 592) (by decide +kernel), List.mem_of_getElem? (i := 736) (by decide +kernel), List.mem_of_getElem? (i := 737) (by decide +kernel)⟩
theorem lw_p19 : lw_okq (⟨"CrashDeskModel", "takes", "(IZII)Z"⟩, 23) := ⟨⟨by decide +kernel, by decide +kernel⟩, List.mem_of_getElem? (i := 592) (by decide +kernel), List.mem_of_getElem? (i := 740) (by decide +kernel), List.mem_of_getElem? (i := 741) (by decide +kernel)⟩
theorem lw_p20 : lw_okq (⟨"CrashDeskModel", "masks", "(III)V"⟩, 23) := ⟨⟨by decide +kernel, by decide +kernel⟩, List.mem_of_getElem? (i := 592) (by decide +kernel), List.mem_of_getElem? (i := 744) (by decide +kernel), List.mem_of_getElem? (i := 745) (by decide +kernel)⟩
theorem lw_p21 : lw_okq (⟨"CrashDeskModel", "all", "()I"⟩, 23) := ⟨⟨by decide +kernel, by decide +kernel⟩, List.mem_of_getElem? (i := 592) (by decide +kernel), List.mem_of_getElem? (i := 752) (by decide +kernel), List.mem_of_getElem? (i := 753) (by decide +kernel)⟩
theorem lw_p22 : lw_okq (⟨"CrashDeskModel", "fewest", "()I"⟩, 23) := ⟨⟨by decide +kernel, by decide +kernel⟩, List.mem_of_getElem? (i := 592) (by decide +kernel), List.mem_of_getElem? (i := 764) (by decide +kernel), List.mem_of_getElem? (i := 765) (by decide +kernel)⟩
theorem lw_p23 : lw_okq (⟨"CrashDeskModel", "makes", "()V"⟩, 23) := ⟨⟨by decide +kernel, by decide +kernel⟩, List.mem_of_getElem? (i := 592) (by decide +kernel), List.mem_of_getElem? (i := 768) (by decide +kernel), List.mem_of_getElem? (i := 769) (by decide +kernel)⟩
def lw_privs_2 : List (MethodName × Nat) := [(⟨"CrashDeskModel", "falses", "(II)I"⟩, 23), (⟨"CrashDeskModel", "counts", "(I)V"⟩, 23), (⟨"CrashDeskModel", "isFirst", "(IIII)Z"⟩, 23), (⟨"CrashDeskModel", "takes", "(IZII)Z"⟩, 23), (⟨"CrashDeskModel", "masks", "(III)V"⟩, 23), (⟨"CrashDeskModel", "all", "()I"⟩, 23), (⟨"CrashDeskModel", "fewest", "()I"⟩, 23), (⟨"CrashDeskModel", "makes", "()V"⟩, 23)]
theorem lw_r2 : ∀ q ∈ lw_privs_2, lw_okq q := List.forall_mem_cons.mpr ⟨lw_p16, List.forall_mem_cons.mpr ⟨lw_p17, List.forall_mem_cons.mpr ⟨lw_p18, List.forall_mem_cons.mpr ⟨lw_p19, List.forall_mem_cons.mpr ⟨lw_p20, List.forall_mem_cons.mpr ⟨lw_p21, List.forall_mem_cons.mpr ⟨lw_p22, List.forall_mem_cons.mpr ⟨lw_p23, fun _ h => absurd h List.not_mem_nil⟩⟩⟩⟩⟩⟩⟩⟩
def lw_privs : List (MethodName × Nat) := lw_privs_1 ++ (lw_privs_2)
def lw_tbl : List Cond := k2_sels lw_privs ++ tables_1
theorem lw_privs_ok : ∀ q ∈ lw_privs, lw_okq q := by
  show ∀ q ∈ lw_privs_1 ++ (lw_privs_2), lw_okq q
  exact List.forall_mem_append.mpr ⟨lw_r1, lw_r2⟩
end
section
/-! THE PURE PICTURE: what each method does to the places -/
abbrev QS : Type := (Nat → Nat → Int32) × (Nat → Int64)
def FU : Nat := 1100
/-! the pure steps -/
def rdA (k n : Nat) (i : Int32) (S : QS) : Option Int32 := if ¬ (i < 0 ∨ n ≤ i.toNatClampNeg) then some (S.1 k i.toNatClampNeg) else none
def setF (k j : Nat) (x : Int32) (S : QS) : QS := (va_up S.1 k (upd (S.1 k) j x), S.2)
def setL (k : Nat) (x : Int64) (S : QS) : QS := (S.1, va_up S.2 k x)
def wrA (k n : Nat) (i x : Int32) (S : QS) : Option QS := if ¬ (i < 0 ∨ n ≤ i.toNatClampNeg) then some (setF k i.toNatClampNeg x S) else none
def zb (x : Int32) : Option Int32 := if x = 0 ∨ x = 1 then some x else none
def wrZ (k n : Nat) (i x : Int32) (S : QS) : Option QS := if ¬ (i < 0 ∨ n ≤ i.toNatClampNeg) ∧ (x = 0 ∨ x = 1) then some (setF k i.toNatClampNeg x S) else none
def stF (k j : Nat) (x : Int32) (S : QS) : Option QS := some (setF k j x S)
def stZ (k j : Nat) (x : Int32) (S : QS) : Option QS := if x = 0 ∨ x = 1 then some (setF k j x S) else none
def stL (k : Nat) (x : Int64) (S : QS) : Option QS := some (setL k x S)
def rdQ (b n : Nat) (i : Int32) : Option Nat := if ¬ (i < 0 ∨ n ≤ i.toNatClampNeg) then some (b + i.toNatClampNeg) else none
def dvI (x y : Int32) : Option Int32 := if ¬ y = 0 then some (x / y) else none
def rmI (x y : Int32) : Option Int32 := if ¬ y = 0 then some (x - x / y * y) else none
/-- a call that may throw: what it throws goes on -/
def bx {α β : Type} (o : Option ((String × QS) ⊕ α)) (f : α → Option ((String × QS) ⊕ β)) : Option ((String × QS) ⊕ β) := match o with
  | none => none
  | some (.inl e) => some (.inl e)
  | some (.inr a) => f a
/-- a call that may throw, and what its handlers do -/
def bh {α β : Type} (o : Option ((String × QS) ⊕ α)) (h : String → QS → Option β) (f : α → Option β) : Option β := match o with
  | none => none
  | some (.inl e) => h e.1 e.2
  | some (.inr a) => f a
theorem bd_e {α β : Type} {o : Option α} {f : α → Option β} {y : β} (h : o.bind f = some y) : ∃ x, o = some x ∧ f x = some y := by
  cases o with
  | none => simp at h
  | some x => exact ⟨x, rfl, h⟩
theorem bx_e {α β : Type} {o : Option ((String × QS) ⊕ α)} {f : α → Option ((String × QS) ⊕ β)} {y : (String × QS) ⊕ β} (h : bx o f = some y) : ∃ x, o = some x := by
  cases o with
  | none => simp [bx] at h
  | some x => exact ⟨x, rfl⟩
theorem bx_l {α β : Type} {o : Option ((String × QS) ⊕ α)} {f : α → Option ((String × QS) ⊕ β)} {y : (String × QS) ⊕ β} {x : (String × QS) ⊕ α} {e : String × QS} (h : bx o f = some y) (hx : o = some x) (he : x = .inl e) : .inl e = y := by
  subst hx; subst he
  exact Option.some.inj h
theorem bx_r {α β : Type} {o : Option ((String × QS) ⊕ α)} {f : α → Option ((String × QS) ⊕ β)} {y : (String × QS) ⊕ β} {x : (String × QS) ⊕ α} {a : α} (h : bx o f = some y) (hx : o = some x) (he : x = .inr a) : f a = some y := by
  subst hx; subst he
  exact h
theorem bh_e {α β : Type} {o : Option ((String × QS) ⊕ α)} {g : String → QS → Option β} {f : α → Option β} {y : β} (h : bh o g f = some y) : ∃ x, o = some x := by
  cases o with
  | none => simp [bh] at h
  | some x => exact ⟨x, rfl⟩
theorem bh_l {α β : Type} {o : Option ((String × QS) ⊕ α)} {g : String → QS → Option β} {f : α → Option β} {y : β} {x : (String × QS) ⊕ α} {e : String × QS} (h : bh o g f = some y) (hx : o = some x) (he : x = .inl e) : g e.1 e.2 = some y := by
  subst hx; subst he
  exact h
theorem bh_r {α β : Type} {o : Option ((String × QS) ⊕ α)} {g : String → QS → Option β} {f : α → Option β} {y : β} {x : (String × QS) ⊕ α} {a : α} (h : bh o g f = some y) (hx : o = some x) (he : x = .inr a) : f a = some y := by
  subst hx; subst he
  exact h
theorem if_t {α : Sort _} {c : Prop} [Decidable c] {a b x : α} (h : c) (e : (if c then a else b) = x) : a = x := by rw [if_pos h] at e; exact e
theorem if_f {α : Sort _} {c : Prop} [Decidable c] {a b x : α} (h : ¬ c) (e : (if c then a else b) = x) : b = x := by rw [if_neg h] at e; exact e
theorem q_in {x : Int32} {k n : Nat} {i : Int32} {S : QS} (h : rdA k n i S = some x) : vp_in i n ∧ x = S.1 k i.toNatClampNeg := by
  unfold rdA at h
  by_cases c : ¬ (i < 0 ∨ n ≤ i.toNatClampNeg)
  · rw [if_pos c] at h
    exact ⟨c, (Option.some.inj h).symm⟩
  · rw [if_neg c] at h
    cases h
theorem q_inQ {b n x : Nat} {i : Int32} (h : rdQ b n i = some x) : vp_in i n ∧ i.toNatClampNeg < n ∧ x = b + i.toNatClampNeg := by
  unfold rdQ at h
  by_cases c : ¬ (i < 0 ∨ n ≤ i.toNatClampNeg)
  · rw [if_pos c] at h
    exact ⟨c, Nat.not_le.mp (fun z => c (Or.inr z)), (Option.some.inj h).symm⟩
  · rw [if_neg c] at h
    cases h
theorem q_wr {k n : Nat} {i x : Int32} {S S1 : QS} (h : wrA k n i x S = some S1) : vp_in i n ∧ S1 = setF k i.toNatClampNeg x S := by
  unfold wrA at h
  by_cases c : ¬ (i < 0 ∨ n ≤ i.toNatClampNeg)
  · rw [if_pos c] at h
    exact ⟨c, (Option.some.inj h).symm⟩
  · rw [if_neg c] at h
    cases h
theorem q_wrZ {k n : Nat} {i x : Int32} {S S1 : QS} (h : wrZ k n i x S = some S1) : vp_in i n ∧ vp_nar .boolean x = x ∧ S1 = setF k i.toNatClampNeg x S := by
  unfold wrZ at h
  by_cases c : ¬ (i < 0 ∨ n ≤ i.toNatClampNeg) ∧ (x = 0 ∨ x = 1)
  · rw [if_pos c] at h
    exact ⟨c.1, by rcases c.2 with e | e <;> subst e <;> decide, (Option.some.inj h).symm⟩
  · rw [if_neg c] at h
    cases h
theorem q_zb {x y : Int32} (h : zb x = some y) : (x = 0 ∨ x = 1) ∧ y = x := by
  unfold zb at h
  by_cases c : x = 0 ∨ x = 1
  · rw [if_pos c] at h
    exact ⟨c, (Option.some.inj h).symm⟩
  · rw [if_neg c] at h
    cases h
theorem q_stZ {k j : Nat} {x : Int32} {S S1 : QS} (h : stZ k j x S = some S1) : (x = 0 ∨ x = 1) ∧ S1 = setF k j x S := by
  unfold stZ at h
  by_cases c : x = 0 ∨ x = 1
  · rw [if_pos c] at h
    exact ⟨c, (Option.some.inj h).symm⟩
  · rw [if_neg c] at h
    cases h
theorem q_dv {x y z : Int32} (h : dvI x y = some z) : ¬ y = 0 ∧ z = x / y := by
  unfold dvI at h
  by_cases c : ¬ y = 0
  · rw [if_pos c] at h
    exact ⟨c, (Option.some.inj h).symm⟩
  · rw [if_neg c] at h
    cases h
theorem q_rm {x y z : Int32} (h : rmI x y = some z) : ¬ y = 0 ∧ z = x - x / y * y := by
  unfold rmI at h
  by_cases c : ¬ y = 0
  · rw [if_pos c] at h
    exact ⟨c, (Option.some.inj h).symm⟩
  · rw [if_neg c] at h
    cases h
theorem q_nz {x : Int32} (h : x = 0 ∨ x = 1) : narrow .boolean (.int x) = .int x := by
  rcases h with e | e <;> subst e <;> rfl
theorem q_fz {x : Int32} (h : x = 0 ∨ x = 1) : fits .boolean (.int x) = true := by
  rcases h with e | e <;> subst e <;> rfl
def f_X3_setPrice (k : Nat) (a1 : Int32) (a2 : Int32) (S : QS) : Option QS :=
if a1 < (-50) then (some S)
else (if 50 < a1 then (some S)
else ((wrA (k + 1) 101 (a1 - (-50)) a2 S).bind fun S1 =>
some S1))
def lp_X3_clear_3 (k : Nat) : Nat → Int32 → QS → Option QS
  | 0, _, _ => none
  | fuel + 1, v1, S2 => (if 50 < v1 then (some S2)
else (((if v1 < (S2.1 k 0) then (some (-1))
else (if v1 ≤ (S2.1 k 1) then (some 0)
else (some (-1)))) : Option (Int32)).bind fun q3 =>
(f_X3_setPrice k v1 q3 S2).bind fun S5 =>
(wrZ (k + 2) 101 (v1 - (-50)) 0 S5).bind fun S6 =>
lp_X3_clear_3 k fuel (v1 + 1) S6))
def f_X3_clear (k : Nat) (S : QS) : Option QS :=
lp_X3_clear_3 k FU (-50) S
def f_X3_priceOf (k : Nat) (a1 : Int32) (S : QS) : Option Int32 :=
if a1 < (-50) then (some (-1))
else (if a1 ≤ 50 then ((rdA (k + 1) 101 (a1 - (-50)) S).bind fun v1 =>
some v1)
else (some (-1)))
def f_X3_isOpen (k : Nat) (a1 : Int32) (S : QS) : Option Int32 :=
(f_X3_priceOf k a1 S).bind fun v2 =>
if v2 = (-1) then (some 0)
else (some 1)
def lp_X3_hear_3 (k : Nat) (t1 : Nat) (a2 : Int32) : Nat → Int32 → QS → Option QS
  | 0, _, _ => none
  | fuel + 1, v1, S2 => (if 50 < v1 then (some S2)
else (((if v1 < (S2.1 t1 2) then (some 0)
else (if (S2.1 t1 3) < v1 then (some 0)
else (some 1))) : Option (Int32)).bind fun q3 =>
if q3 = 0 then ((f_X3_isOpen k v1 S2).bind fun v5 =>
if v5 = 0 then (lp_X3_hear_3 k t1 a2 fuel (v1 + 1) S2)
else (((if a2 = (-1) then (some (-1))
else ((f_X3_priceOf k v1 S2).bind fun v8 =>
some (v8 + a2))) : Option (Int32)).bind fun q6 =>
(f_X3_setPrice k v1 q6 S2).bind fun S10 =>
lp_X3_hear_3 k t1 a2 fuel (v1 + 1) S10))
else (lp_X3_hear_3 k t1 a2 fuel (v1 + 1) S2)))
def f_X3_hear (k : Nat) (t1 : Nat) (a2 : Int32) (S : QS) : Option QS :=
lp_X3_hear_3 k t1 a2 FU (-50) S
def lp_X3_bound_15 (k : Nat) : Nat → Int32 → QS → Option QS
  | 0, _, _ => none
  | fuel + 1, v5, S6 => (if 50 < v5 then (some S6)
else ((f_X3_isOpen k v5 S6).bind fun v8 =>
if v8 = 0 then (lp_X3_bound_15 k fuel (v5 + 1) S6)
else ((stF k 2 (if v5 < (S6.1 k 2) then v5 else (S6.1 k 2)) S6).bind fun S9 =>
(stF k 3 v5 S9).bind fun S11 =>
lp_X3_bound_15 k fuel (v5 + 1) S11)))
def f_X3_bound (k : Nat) (S : QS) : Option QS :=
(stF k 2 51 S).bind fun S1 =>
(stF k 3 (-51) S1).bind fun S3 =>
lp_X3_bound_15 k FU (-50) S3
def f_X3_see (k : Nat) (a1 : Int32) (S : QS) : Option QS :=
if a1 < (-50) then (some S)
else (if 50 < a1 then (some S)
else ((wrZ (k + 2) 101 (a1 - (-50)) 1 S).bind fun S1 =>
some S1))
def f_X3_isSeen (k : Nat) (a1 : Int32) (S : QS) : Option Int32 :=
if a1 < (-50) then (some 0)
else (if 50 < a1 then (some 0)
else ((rdA (k + 2) 101 (a1 - (-50)) S).bind fun v1 =>
if v1 = 0 then (some 0)
else (some 1)))
def lp_X3_leastSeen_3 (k : Nat) (S : QS) : Nat → Int32 → Option Int32
  | 0, _ => none
  | fuel + 1, v1 => (if 50 ≤ v1 then (some 50)
else ((f_X3_isSeen k v1 S).bind fun v3 =>
if v3 = 0 then (lp_X3_leastSeen_3 k S fuel (v1 + 1))
else (some v1)))
def f_X3_leastSeen (k : Nat) (S : QS) : Option Int32 :=
lp_X3_leastSeen_3 k S FU (-50)
def lp_X3_greatestSeen_3 (k : Nat) (S : QS) : Nat → Int32 → Option Int32
  | 0, _ => none
  | fuel + 1, v1 => (if v1 ≤ (-50) then (some (-50))
else ((f_X3_isSeen k v1 S).bind fun v3 =>
if v3 = 0 then (lp_X3_greatestSeen_3 k S fuel (v1 + (-1)))
else (some v1)))
def f_X3_greatestSeen (k : Nat) (S : QS) : Option Int32 :=
lp_X3_greatestSeen_3 k S FU 50
def f_X5_cheaper (a1 : Int32) (a2 : Int32) : Option Int32 :=
if a1 = (-1) then (some a2)
else (if a1 ≤ a2 then (some a1)
else (some a2))
def f_X0_pick (k : Nat) (a1 : Int32) (S : QS) : Option Nat :=
if a1 = 0 then (some (k + 1))
else (if a1 = 1 then (some (k + 4))
else (some (k + 7)))
def f_X0_clear (k : Nat) (S : QS) : Option QS :=
(f_X3_clear (k + 1) S).bind fun S2 =>
(f_X3_clear (k + 4) S2).bind fun S4 =>
(f_X3_clear (k + 7) S4).bind fun S6 =>
(stF k 5 0 S6).bind fun S7 =>
(stF k 6 0 S7).bind fun S9 =>
(stF k 7 0 S9).bind fun S11 =>
(stF k 8 0 S11).bind fun S13 =>
(stZ k 9 0 S13).bind fun S15 =>
some S15
def f_X0_add (k : Nat) (t1 : Nat) (S : QS) : Option QS :=
if (S.1 t1 1) = 0 then ((stF k 5 ((S.1 k 5) + (S.1 t1 2)) S).bind fun S1 =>
(stF k 6 ((S1.1 k 6) + (S1.1 t1 3)) S1).bind fun S3 =>
some S3)
else ((stF k 7 ((S.1 k 7) + (S.1 t1 2)) S).bind fun S5 =>
(stF k 8 ((S5.1 k 8) + (S5.1 t1 3)) S5).bind fun S7 =>
(stZ k 9 1 S7).bind fun S9 =>
some S9)
def f_X0_isTakenBehind (k : Nat) (a1 : Int32) (S : QS) : Option Int32 :=
if ((51 * a1) * a1) < (S.1 k 7) then (some 0)
else (if (S.1 k 8) < ((51 * a1) * a1) then (some 0)
else (some 1))
def f_X0_isTakenAhead (k : Nat) (a1 : Int32) (a2 : Int32) (S : QS) : Option Int32 :=
if (((51 * a1) * a1) - ((51 * a2) * a2)) < (S.1 k 5) then (some 0)
else (if (S.1 k 6) < (((51 * a1) * a1) - ((51 * a2) * a2)) then (some 0)
else (some 1))
def f_X0_firstFor (a1 : Int32) (a2 : Int32) : Option Int32 :=
if 0 ≤ a2 then (some a1)
else (some (-a1))
def lp_X0_joinFirsts_10 (k : Nat) (a1 : Int32) (S : QS) : Nat → Int32 → Int32 → Int32 → Option (Int32 × Int32)
  | 0, _, _, _ => none
  | fuel + 1, v1, v2, v3 => (if 50 < v3 then (some (v1, v2))
else ((f_X0_isTakenAhead k v3 a1 S).bind fun v6 =>
((if v6 = 0 then (some (-1))
else ((f_X0_firstFor v3 a1).bind fun v9 =>
(f_X3_priceOf (k + 1) v9 S).bind fun v11 =>
some v11)) : Option (Int32)).bind fun q7 =>
if q7 = (-1) then (lp_X0_joinFirsts_10 k a1 S fuel v1 v2 (v3 + 1))
else ((f_X5_cheaper v2 q7).bind fun v13 =>
lp_X0_joinFirsts_10 k a1 S fuel (v1 + 1) v13 (v3 + 1))))
def f_X0_joinFirsts (k : Nat) (a1 : Int32) (S : QS) : Option QS :=
(lp_X0_joinFirsts_10 k a1 S FU 0 (-1) (if 0 ≤ a1 then a1 else 0 - a1)).bind fun q4 =>
((if a1 < (-50) then (some S)
else (if 50 < a1 then (some S)
else ((wrA (k + 10) 101 (a1 - (-50)) q4.1 S).bind fun S15 =>
some S15))) : Option (QS)).bind fun q14 =>
((if q4.2 = (-1) then (some (-1))
else ((f_X3_priceOf (k + 4) a1 q14).bind fun v19 =>
some (v19 + q4.2))) : Option (Int32)).bind fun q17 =>
(f_X3_setPrice (k + 4) a1 q17 q14).bind fun S21 =>
some S21
def lp_X0_settle_3 (k : Nat) : Nat → Int32 → QS → Option (QS)
  | 0, _, _ => none
  | fuel + 1, v1, S2 => (if 50 < v1 then (some S2)
else (((if (S2.1 k 9) = 0 then (some S2)
else ((f_X0_isTakenBehind k v1 S2).bind fun v6 =>
if v6 = 0 then ((f_X3_setPrice (k + 7) v1 (-1) S2).bind fun S8 =>
some S8)
else (some S2))) : Option (QS)).bind fun q4 =>
(f_X3_isOpen (k + 4) v1 q4).bind fun v10 =>
if v10 = 0 then (lp_X0_settle_3 k fuel (v1 + 1) q4)
else ((f_X0_joinFirsts k v1 q4).bind fun S12 =>
lp_X0_settle_3 k fuel (v1 + 1) S12)))
def f_X0_settle (k : Nat) (S : QS) : Option QS :=
(lp_X0_settle_3 k FU (-50) S).bind fun q3 =>
(f_X3_bound (k + 4) q3).bind fun S14 =>
(f_X3_bound (k + 7) S14).bind fun S16 =>
some S16
def f_X0_firstCount (k : Nat) (a1 : Int32) (S : QS) : Option Int32 :=
if a1 < (-50) then (some 0)
else (if a1 ≤ 50 then ((rdA (k + 10) 101 (a1 - (-50)) S).bind fun v1 =>
some v1)
else (some 0))
def lp_X0_seeFirsts_24 (k : Nat) (v1 : Int32) : Nat → Int32 → QS → Option (QS)
  | 0, _, _ => none
  | fuel + 1, v3, S4 => ((f_X3_isSeen (k + 4) v1 S4).bind fun v7 =>
if v7 = 0 then (some S4)
else (if 50 < v3 then (some S4)
else ((f_X0_isTakenAhead k v3 v1 S4).bind fun v9 =>
if v9 = 0 then (lp_X0_seeFirsts_24 k v1 fuel (v3 + 1) S4)
else ((f_X0_firstFor v3 v1).bind fun v11 =>
(f_X3_isOpen (k + 1) v11 S4).bind fun v13 =>
if v13 = 0 then (lp_X0_seeFirsts_24 k v1 fuel (v3 + 1) S4)
else ((f_X0_firstFor v3 v1).bind fun v15 =>
(f_X3_see (k + 1) v15 S4).bind fun S17 =>
lp_X0_seeFirsts_24 k v1 fuel (v3 + 1) S17)))))
def lp_X0_seeFirsts_8 (k : Nat) : Nat → Int32 → QS → Option QS
  | 0, _, _ => none
  | fuel + 1, v1, S2 => (if (S2.1 (k + 4) 3) < v1 then (some S2)
else ((lp_X0_seeFirsts_24 k v1 FU (if 0 ≤ v1 then v1 else 0 - v1) S2).bind fun q5 =>
lp_X0_seeFirsts_8 k fuel (v1 + 1) q5))
def f_X0_seeFirsts (k : Nat) (S : QS) : Option QS :=
lp_X0_seeFirsts_8 k FU (S.1 (k + 4) 2) S
def f_X1_pick (a1 : Int32) (S : QS) : Option Nat :=
if a1 = 0 then (some 26)
else (some 37)
def lp_X1_lowestShare_3 (a1 : Int32) (a2 : Int32) : Nat → Int32 → Option Int32
  | 0, _ => none
  | fuel + 1, v1 => (if v1 ≤ 1 then (some a1)
else ((rmI a1 v1).bind fun v2 =>
if v2 = 0 then ((rmI a2 v1).bind fun v3 =>
if v3 = 0 then ((dvI a1 v1).bind fun v4 =>
some v4)
else (lp_X1_lowestShare_3 a1 a2 fuel (v1 + (-1))))
else (lp_X1_lowestShare_3 a1 a2 fuel (v1 + (-1)))))
def f_X1_lowestShare (a1 : Int32) (a2 : Int32) : Option Int32 :=
lp_X1_lowestShare_3 a1 a2 FU 100
def lp_X1_meet_102 (a2 : Int32) (S : QS) (v4 : Int32) : Nat → Int64 → Int32 → Int32 → QS → Option (Int64 × Int32 × QS)
  | 0, _, _, _, _ => none
  | fuel + 1, w6, v7, v8, S9 => (if v4 < v8 then (some (w6, v7, S9))
else ((rdA 42 101 (v8 - (-50)) S9).bind fun v11 =>
(rdA 45 101 ((v8 + (a2 * (S.1 25 5))) - (-50)) S9).bind fun v13 =>
if v11 = (-1) then (lp_X1_meet_102 a2 S v4 fuel w6 v7 (v8 + 1) S9)
else (if v13 = (-1) then (lp_X1_meet_102 a2 S v4 fuel w6 v7 (v8 + 1) S9)
else ((rdA 47 101 (v8 - (-50)) S9).bind fun v15 =>
(f_X5_cheaper v7 (v11 + v13)).bind fun v18 =>
(wrZ 43 101 (v8 - (-50)) 1 S9).bind fun S19 =>
(wrZ 46 101 ((v8 + (a2 * (S.1 25 5))) - (-50)) 1 S19).bind fun S21 =>
lp_X1_meet_102 a2 S v4 fuel (w6 + v15.toInt64) v18 (v8 + 1) S21))))
def f_X1_meet (a1 : Int32) (a2 : Int32) (S : QS) : Option QS :=
(some (if (a1 - (a2 * ((S.1 25 4) + (S.1 25 5)))) < (if (S.1 41 2) < ((S.1 44 2) - (a2 * (S.1 25 5))) then ((S.1 44 2) - (a2 * (S.1 25 5))) else (S.1 41 2)) then (if (S.1 41 2) < ((S.1 44 2) - (a2 * (S.1 25 5))) then ((S.1 44 2) - (a2 * (S.1 25 5))) else (S.1 41 2)) else (a1 - (a2 * ((S.1 25 4) + (S.1 25 5)))))).bind fun v1 =>
(dvI ((a2 * ((S.1 25 4) + (S.1 25 5))) + 1) 2).bind fun v3 =>
(some (if (if ((S.1 44 3) - (a2 * (S.1 25 5))) < (S.1 41 3) then ((S.1 44 3) - (a2 * (S.1 25 5))) else (S.1 41 3)) < (a1 - v3) then (if ((S.1 44 3) - (a2 * (S.1 25 5))) < (S.1 41 3) then ((S.1 44 3) - (a2 * (S.1 25 5))) else (S.1 41 3)) else (a1 - v3))).bind fun v4 =>
(lp_X1_meet_102 a2 S v4 FU 0 (-1) v1 S).bind fun q10 =>
if (lg_cmp q10.1 0) ≤ 0 then (some q10.2.2)
else ((f_X3_see 30 a1 q10.2.2).bind fun S24 =>
(f_X3_see 33 (a1 - (a2 * (q10.2.2.1 25 4))) S24).bind fun S26 =>
(f_X0_firstCount 26 a1 S26).bind fun v28 =>
(stL 25 ((S26.2 25) + (q10.1 * v28.toInt64)) S26).bind fun S29 =>
(f_X3_priceOf 30 a1 S29).bind fun v32 =>
(f_X3_priceOf 33 (a1 - (a2 * (q10.2.2.1 25 4))) S29).bind fun v34 =>
(f_X5_cheaper (S29.1 25 3) ((q10.2.1 + v32) + v34)).bind fun v36 =>
(stF 25 3 v36 S29).bind fun S37 =>
some S37)
def lp_X1_pushFrom_2 (a1 : Int32) : Nat → Int32 → QS → Option QS
  | 0, _, _ => none
  | fuel + 1, v1, S2 => (if 101 < v1 then (some S2)
else (if (a1 - (v1 * (S2.1 25 4))) < (S2.1 33 2) then (some S2)
else ((f_X3_isOpen 33 (a1 - (v1 * (S2.1 25 4))) S2).bind fun v4 =>
if v4 = 0 then (lp_X1_pushFrom_2 a1 fuel (v1 + 1) S2)
else ((f_X1_meet a1 v1 S2).bind fun S6 =>
lp_X1_pushFrom_2 a1 fuel (v1 + 1) S6))))
def f_X1_pushFrom (a1 : Int32) (S : QS) : Option QS :=
lp_X1_pushFrom_2 a1 FU 1 S
def lp_X1_reckon_77  : Nat → Int32 → QS → Option (QS)
  | 0, _, _ => none
  | fuel + 1, v17, S18 => (if (S18.1 30 3) < v17 then (some S18)
else ((f_X3_isOpen 30 v17 S18).bind fun v21 =>
if v21 = 0 then (lp_X1_reckon_77 fuel (v17 + 1) S18)
else ((f_X1_pushFrom v17 S18).bind fun S23 =>
lp_X1_reckon_77 fuel (v17 + 1) S23)))
def f_X1_reckon (S : QS) : Option QS :=
(stL 25 0 S).bind fun S1 =>
(stF 25 3 (-1) S1).bind fun S3 =>
(f_X1_lowestShare (S3.1 37 0) (S3.1 26 0)).bind fun v6 =>
(stF 25 4 v6 S3).bind fun S7 =>
(f_X1_lowestShare (S7.1 26 0) (S7.1 37 0)).bind fun v10 =>
(stF 25 5 v10 S7).bind fun S11 =>
(f_X0_settle 26 S11).bind fun S14 =>
(f_X0_settle 37 S14).bind fun S16 =>
(lp_X1_reckon_77 FU (S16.1 30 2) S16).bind fun q19 =>
(f_X0_seeFirsts 26 q19).bind fun S25 =>
(f_X0_seeFirsts 37 S25).bind fun S27 =>
some S27
def f_J6_bitCount_0f7a4 (a1 : Int32) : Option Int32 :=
(some (a1 - ((((a1 : Int32).toUInt32 >>> ((1 : Int32).toUInt32 &&& Int32.toUInt32 31)).toInt32) &&& 1431655765))).bind fun v1 =>
(some ((v1 &&& 858993459) + ((((v1 : Int32).toUInt32 >>> ((2 : Int32).toUInt32 &&& Int32.toUInt32 31)).toInt32) &&& 858993459))).bind fun v3 =>
(some ((v3 + (((v3 : Int32).toUInt32 >>> ((4 : Int32).toUInt32 &&& Int32.toUInt32 31)).toInt32)) &&& 252645135)).bind fun v5 =>
(some (v5 + (((v5 : Int32).toUInt32 >>> ((8 : Int32).toUInt32 &&& Int32.toUInt32 31)).toInt32))).bind fun v7 =>
(some (v7 + (((v7 : Int32).toUInt32 >>> ((16 : Int32).toUInt32 &&& Int32.toUInt32 31)).toInt32))).bind fun v9 =>
some (v9 &&& 63)
def f_X6_in (a1 : Int32) (a2 : Int32) (a3 : Int32) : Option Int32 :=
if a1 < a2 then (some 0)
else (if a3 < a1 then (some 0)
else (some 1))
def f_X6_noCar (a1 : Int32) : Option Int32 :=
(f_X6_in a1 0 1).bind fun v2 =>
if v2 = 0 then (some 1)
else (some 0)
def f_X6_noSpeed (a1 : Int32) (a2 : Int32) : Option Int32 :=
(f_X6_noCar a1).bind fun v2 =>
if v2 = 0 then ((f_X6_in a2 0 2).bind fun v4 =>
if v4 = 0 then (some 1)
else (some 0))
else (some 1)
def f_X6_noSpan (a1 : Int32) (a2 : Int32) : Option Int32 :=
if a1 < (-50) then (some 1)
else (if a2 < a1 then (some 1)
else (if a2 ≤ 50 then (some 0)
else (some 1)))
def f_X6_throwsIf (a1 : Int32) (a2 : Int32) (S : QS) : Option (Int32 × QS) :=
if a1 = 0 then ((zb a1).bind fun v1 =>
some (v1, S))
else ((stF 48 0 a2 S).bind fun S3 =>
(zb a1).bind fun v5 =>
some (v5, S3))
def f_X6_thrown (S : QS) : Option Int32 :=
some (S.1 48 0)
def f_X6_cell (a1 : Int32) (a2 : Int32) : Option Int32 :=
some (((101 * a1) + a2) + 50)
def lp_X6_falses_5 (a1 : Int32) (a2 : Int32) (S : QS) : Nat → Int32 → Int32 → Option Int32
  | 0, _, _ => none
  | fuel + 1, v1, v2 => (if (S.1 48 13) ≤ v2 then (some v1)
else ((rdA 57 10 v2 S).bind fun v3 =>
((if v3 = a1 then ((rdA 58 10 v2 S).bind fun v6 =>
(rdA 59 10 v2 S).bind fun v8 =>
(f_X6_in a2 v6 v8).bind fun v11 =>
if v11 = 0 then (some (1 <<< (v2 &&& 31)))
else (some 0))
else (some 0)) : Option (Int32)).bind fun q5 =>
lp_X6_falses_5 a1 a2 S fuel (v1 ||| q5) (v2 + 1)))
def f_X6_falses (a1 : Int32) (a2 : Int32) (S : QS) : Option Int32 :=
lp_X6_falses_5 a1 a2 S FU 0 0
def lp_X6_lets_11 (a1 : Int32) (v1 : Int32) : Nat → Int32 → QS → Option (QS)
  | 0, _, _ => none
  | fuel + 1, v3, S4 => (if 50 < v3 then (some S4)
else ((f_X6_cell v1 v3).bind fun v7 =>
(rdA 55 6 v1 S4).bind fun v8 =>
(rdA 56 6 v1 S4).bind fun v10 =>
(f_X6_in v3 v8 v10).bind fun v13 =>
((if v13 = 0 then (some 0)
else ((f_X6_falses v1 v3 S4).bind fun v16 =>
if (v16 &&& a1) = 0 then (some 1)
else (some 0))) : Option (Int32)).bind fun q14 =>
(wrZ 60 606 v7 q14 S4).bind fun S17 =>
(f_X6_cell v1 v3).bind fun v20 =>
(wrZ 61 606 v20 0 S17).bind fun S21 =>
lp_X6_lets_11 a1 v1 fuel (v3 + 1) S21))
def lp_X6_lets_2 (a1 : Int32) : Nat → Int32 → QS → Option QS
  | 0, _, _ => none
  | fuel + 1, v1, S2 => (if 6 ≤ v1 then (some S2)
else ((lp_X6_lets_11 a1 v1 FU (-50) S2).bind fun q5 =>
lp_X6_lets_2 a1 fuel (v1 + 1) q5))
def f_X6_lets (a1 : Int32) (S : QS) : Option QS :=
lp_X6_lets_2 a1 FU 0 S
def lp_X6_takes_12 (a1 : Int32) (a2 : Int32) (a4 : Int32) (S : QS) : Nat → Int32 → Int32 → Int32 → Int32 → Option (Int32 × Int32 × Int32)
  | 0, _, _, _, _ => none
  | fuel + 1, v1, v2, v3, v4 => (if (S.1 48 7) ≤ v4 then (some (v1, v2, v3))
else ((rdA 50 12 v4 S).bind fun v6 =>
if v6 = a1 then ((rdA 51 12 v4 S).bind fun v8 =>
if v8 = a2 then ((rdA 54 12 v4 S).bind fun v10 =>
if v10 = 0 then (if v4 = a4 then (lp_X6_takes_12 a1 a2 a4 S fuel v1 v2 v3 (v4 + 1))
else ((rdA 52 12 v4 S).bind fun v12 =>
(rdA 53 12 v4 S).bind fun v14 =>
lp_X6_takes_12 a1 a2 a4 S fuel (v1 + v12) (v2 + v14) (v3 + 1) (v4 + 1)))
else (lp_X6_takes_12 a1 a2 a4 S fuel v1 v2 v3 (v4 + 1)))
else (lp_X6_takes_12 a1 a2 a4 S fuel v1 v2 v3 (v4 + 1)))
else (lp_X6_takes_12 a1 a2 a4 S fuel v1 v2 v3 (v4 + 1))))
def ct_X6_takes_105 (a3 : Int32) (q5 : Int32 × Int32 × Int32) : Option Int32 :=
(f_X6_in a3 q5.1 q5.2.1).bind fun v17 =>
if v17 = 0 then (some 0)
else (some 1)
def f_X6_takes (a1 : Int32) (a2 : Int32) (a3 : Int32) (a4 : Int32) (S : QS) : Option Int32 :=
(lp_X6_takes_12 a1 a2 a4 S FU 0 0 0 0).bind fun q5 =>
if a2 = 0 then (ct_X6_takes_105 a3 q5)
else (if q5.2.2 = 0 then (some 1)
else (ct_X6_takes_105 a3 q5))
def f_X6_isFirst (a1 : Int32) (a2 : Int32) (a3 : Int32) (a4 : Int32) (S : QS) : Option Int32 :=
((if a3 ≤ 0 then (if 0 ≤ a3 then (if a2 < 0 then (some 0)
else (some 1))
else (if 0 ≤ a2 then (some 0)
else (some 1)))
else (if a2 ≤ 0 then (some 0)
else (some 1))) : Option (Int32)).bind fun q1 =>
if q1 = 0 then (some 0)
else ((f_X6_cell (3 * a1) a2).bind fun v3 =>
(rdA 60 606 v3 S).bind fun v4 =>
if v4 = 0 then (some 0)
else ((f_X6_takes a1 0 (51 * ((a2 * a2) - (a3 * a3))) a4 S).bind fun v7 =>
if v7 = 0 then (some 0)
else (some 1)))
def lp_X6_counts_23 (a1 : Int32) (v1 : Int32) (v3 : Int32) (S4 : QS) : Nat → Int32 → Int32 → Option (Int32)
  | 0, _, _ => none
  | fuel + 1, v6, v7 => (if 50 < v7 then (some v6)
else ((f_X6_cell ((3 * v1) + 1) v3).bind fun v10 =>
(rdA 60 606 v10 S4).bind fun v11 =>
if v11 = 0 then (some v6)
else ((f_X6_isFirst v1 v7 v3 a1 S4).bind fun v14 =>
((if v14 = 0 then (some 0)
else (some 1)) : Option (Int32)).bind fun q15 =>
lp_X6_counts_23 a1 v1 v3 S4 fuel (v6 + q15) (v7 + 1))))
def lp_X6_counts_10 (a1 : Int32) (v1 : Int32) : Nat → Int32 → QS → Option (QS)
  | 0, _, _ => none
  | fuel + 1, v3, S4 => (if 50 < v3 then (some S4)
else ((lp_X6_counts_23 a1 v1 v3 S4 FU 0 (-50)).bind fun q8 =>
(wrA 62 202 (((101 * v1) + v3) + 50) q8 S4).bind fun S16 =>
(f_X6_cell ((3 * v1) + 2) v3).bind fun v19 =>
(rdA 60 606 v19 S16).bind fun v20 =>
((if v20 = 0 then (some 0)
else ((f_X6_takes v1 1 ((51 * v3) * v3) a1 S16).bind fun v24 =>
if v24 = 0 then (some 0)
else (some 1))) : Option (Int32)).bind fun q22 =>
(wrZ 60 606 v19 q22 S16).bind fun S25 =>
lp_X6_counts_10 a1 v1 fuel (v3 + 1) S25))
def lp_X6_counts_2 (a1 : Int32) : Nat → Int32 → QS → Option QS
  | 0, _, _ => none
  | fuel + 1, v1, S2 => (if 2 ≤ v1 then (some S2)
else ((lp_X6_counts_10 a1 v1 FU (-50) S2).bind fun q5 =>
lp_X6_counts_2 a1 fuel (v1 + 1) q5))
def f_X6_counts (a1 : Int32) (S : QS) : Option QS :=
lp_X6_counts_2 a1 FU 0 S
def lp_X6_masks_33 (a1 : Int32) (a2 : Int32) (a3 : Int32) (v1 : Int32) : Nat → Int32 → QS → Option (QS)
  | 0, _, _ => none
  | fuel + 1, v5, S6 => ((rdA 66 202 ((101 + a2) + 50) S6).bind fun v8 =>
if v8 ≤ v5 then (some S6)
else ((rdA 65 20402 ((101 * (a1 + 50)) + v1) S6).bind fun v10 =>
(rdA 65 20402 ((101 * ((101 + a2) + 50)) + v5) S6).bind fun v12 =>
(wrZ 63 1024 ((v10 ||| v12) ||| a3) 1 S6).bind fun S14 =>
lp_X6_masks_33 a1 a2 a3 v1 fuel (v5 + 1) S14))
def lp_X6_masks_18 (a1 : Int32) (a2 : Int32) (a3 : Int32) : Nat → Int32 → QS → Option QS
  | 0, _, _ => none
  | fuel + 1, v1, S2 => ((rdA 66 202 (a1 + 50) S2).bind fun v3 =>
if v3 ≤ v1 then (some S2)
else ((lp_X6_masks_33 a1 a2 a3 v1 FU 0 S2).bind fun q7 =>
lp_X6_masks_18 a1 a2 a3 fuel (v1 + 1) q7))
def f_X6_masks (a1 : Int32) (a2 : Int32) (a3 : Int32) (S : QS) : Option QS :=
lp_X6_masks_18 a1 a2 a3 FU 0 S
def f_X6_mass (a1 : Int32) (a2 : Int32) (S : QS) : Option QS :=
(stF 48 0 0 S).bind fun S1 =>
(f_X6_noCar a1).bind fun v4 =>
(f_X6_throwsIf v4 1 S1).bind fun q6 =>
if q6.1 = 0 then ((f_X6_in a2 1 100).bind fun v8 =>
((if v8 = 0 then (some 1)
else (some 0)) : Option (Int32)).bind fun q9 =>
(f_X6_throwsIf q9 2 q6.2).bind fun q11 =>
if q11.1 = 0 then ((wrA 49 2 a1 a2 q11.2).bind fun S12 =>
some S12)
else (some q11.2))
else (some q6.2)
def f_X6_drop (a1 : Int32) (a2 : Int32) (S : QS) : Option (Int32 × QS) :=
(stF 48 0 0 S).bind fun S1 =>
(f_X6_in a1 0 ((S1.1 48 7) - 1)).bind fun v4 =>
((if v4 = 0 then (some 1)
else (some 0)) : Option (Int32)).bind fun q5 =>
(f_X6_throwsIf q5 1 S1).bind fun q7 =>
if q7.1 = 0 then ((rdA 54 12 a1 q7.2).bind fun v8 =>
(wrZ 54 12 a1 a2 q7.2).bind fun S10 =>
if v8 = a2 then (some (0, S10))
else (some (1, S10)))
else (some (0, q7.2))
def f_X6_sure (a1 : Int32) (a2 : Int32) (a3 : Int32) (a4 : Int32) (S : QS) : Option QS :=
(stF 48 0 0 S).bind fun S1 =>
(f_X6_noSpeed a1 a2).bind fun v4 =>
(f_X6_throwsIf v4 1 S1).bind fun q6 =>
if q6.1 = 0 then ((f_X6_noSpan a3 a4).bind fun v8 =>
(f_X6_throwsIf v8 2 q6.2).bind fun q10 =>
if q10.1 = 0 then ((wrA 55 6 ((3 * a1) + a2) a3 q10.2).bind fun S11 =>
(wrA 56 6 ((3 * a1) + a2) a4 S11).bind fun S13 =>
some S13)
else (some q10.2))
else (some q6.2)
def f_X6_hush (S : QS) : Option (Int32 × QS) :=
(stF 48 0 0 S).bind fun S1 =>
(stF 48 13 0 S1).bind fun S3 =>
some ((S1.1 48 13), S3)
def f_X6_all (S : QS) : Option Int32 :=
some ((1 <<< ((S.1 48 13) &&& 31)) - 1)
def f_X6_look (a1 : Int32) (a2 : Int32) (S : QS) : Option (Int32 × QS) :=
(stF 48 0 0 S).bind fun S1 =>
(f_X6_in a1 0 ((S1.1 48 7) - 1)).bind fun v4 =>
((if v4 = 0 then (some 1)
else (some 0)) : Option (Int32)).bind fun q5 =>
(f_X6_throwsIf q5 1 S1).bind fun q7 =>
if q7.1 = 0 then (if a2 = 0 then ((rdA 50 12 a1 q7.2).bind fun v8 =>
some (v8, q7.2))
else (if a2 = 1 then ((rdA 51 12 a1 q7.2).bind fun v10 =>
if v10 = 0 then (some (0, q7.2))
else (some (1, q7.2)))
else (if a2 = 2 then ((rdA 52 12 a1 q7.2).bind fun v12 =>
some (v12, q7.2))
else (if a2 = 3 then ((rdA 53 12 a1 q7.2).bind fun v14 =>
some (v14, q7.2))
else (if a2 = 4 then ((rdA 54 12 a1 q7.2).bind fun v16 =>
if v16 = 0 then (some (1, q7.2))
else (some (0, q7.2)))
else ((stF 48 0 2 q7.2).bind fun S18 =>
some (0, S18)))))))
else (some (0, q7.2))
def lp_X6_count_51 (S1 : QS) : Nat → Int32 → Int32 → Option (Int32 × QS)
  | 0, _, _ => none
  | fuel + 1, v3, v4 => (if (S1.1 48 7) ≤ v4 then (some (v3, S1))
else ((rdA 54 12 v4 S1).bind fun v5 =>
((if v5 = 0 then (some 1)
else (some 0)) : Option (Int32)).bind fun q7 =>
lp_X6_count_51 S1 fuel (v3 + q7) (v4 + 1)))
def f_X6_count (a1 : Int32) (S : QS) : Option (Int32 × QS) :=
(stF 48 0 0 S).bind fun S1 =>
if a1 = 0 then (some ((S1.1 48 7), S1))
else (if a1 = 1 then (lp_X6_count_51 S1 FU 0 0)
else (if a1 = 2 then (some ((S1.1 48 13), S1))
else (if a1 = 3 then ((rdA 49 2 (a1 - 3) S1).bind fun v8 =>
some (v8, S1))
else (if a1 = 4 then ((rdA 49 2 (a1 - 3) S1).bind fun v10 =>
some (v10, S1))
else (some ((-1), S1))))))
def f_X6_skid (a1 : Int32) (a2 : Int32) (a3 : Int32) (a4 : Int32) (a5 : Int32) (a6 : Int32) (S : QS) : Option (Int32 × QS) :=
(stF 48 0 0 S).bind fun S1 =>
(f_X6_noCar a1).bind fun v4 =>
(f_X6_throwsIf v4 1 S1).bind fun q6 =>
if q6.1 = 0 then (((if a3 < 0 then (some 1)
else (if a4 < a3 then (some 1)
else (if 2000 < a4 then (some 1)
else (if a5 < 0 then (some 1)
else (if a6 < a5 then (some 1)
else (if a6 ≤ 150 then (some 0)
else (some 1))))))) : Option (Int32)).bind fun q7 =>
(f_X6_throwsIf q7 2 q6.2).bind fun q9 =>
if q9.1 = 0 then (((if (q9.2.1 48 7) = 12 then (some 1)
else (some 0)) : Option (Int32)).bind fun q10 =>
(f_X6_throwsIf q10 3 q9.2).bind fun q12 =>
if q12.1 = 0 then ((wrA 50 12 (q12.2.1 48 7) a1 q12.2).bind fun S13 =>
(wrZ 51 12 (S13.1 48 7) a2 S13).bind fun S15 =>
(wrA 52 12 (S15.1 48 7) (a3 * a5) S15).bind fun S17 =>
(wrA 53 12 (S17.1 48 7) (a4 * a6) S17).bind fun S19 =>
(stF 48 7 ((S19.1 48 7) + 1) S19).bind fun S21 =>
some (((S21.1 48 7) - 1), S21))
else (some (0, q12.2)))
else (some (0, q9.2)))
else (some (0, q6.2))
def f_X6_tale (a1 : Int32) (a2 : Int32) (a3 : Int32) (a4 : Int32) (S : QS) : Option (Int32 × QS) :=
(stF 48 0 0 S).bind fun S1 =>
(f_X6_noSpeed a1 a2).bind fun v4 =>
(f_X6_throwsIf v4 1 S1).bind fun q6 =>
if q6.1 = 0 then ((f_X6_noSpan a3 a4).bind fun v8 =>
(f_X6_throwsIf v8 2 q6.2).bind fun q10 =>
if q10.1 = 0 then (((if (q10.2.1 48 13) = 10 then (some 1)
else (some 0)) : Option (Int32)).bind fun q11 =>
(f_X6_throwsIf q11 3 q10.2).bind fun q13 =>
if q13.1 = 0 then ((wrA 57 10 (q13.2.1 48 13) ((3 * a1) + a2) q13.2).bind fun S14 =>
(wrA 58 10 (S14.1 48 13) a3 S14).bind fun S16 =>
(wrA 59 10 (S16.1 48 13) a4 S16).bind fun S18 =>
(stF 48 13 ((S18.1 48 13) + 1) S18).bind fun S20 =>
some (((S20.1 48 13) - 1), S20))
else (some (0, q13.2)))
else (some (0, q10.2)))
else (some (0, q6.2))
def lp_X6_goes_75 (v7 : Int32) (v10 : Int32) (v13 : Int32) (v15 : Int32) : Nat → Int32 → QS → Option (QS)
  | 0, _, _ => none
  | fuel + 1, v17, S18 => (if 50 < v17 then (some S18)
else ((rdA 49 2 0 S18).bind fun v20 =>
(rdA 49 2 1 S18).bind fun v22 =>
(rdA 49 2 1 S18).bind fun v24 =>
(dvI ((v20 * (v7 - v17)) + (v22 * v10)) v24).bind fun v26 =>
(rdA 49 2 1 S18).bind fun v27 =>
if (v26 * v27) = ((v20 * (v7 - v17)) + (v22 * v10)) then (if v26 < v17 then (lp_X6_goes_75 v7 v10 v13 v15 fuel (v17 + 1) S18)
else (if 50 < v26 then (lp_X6_goes_75 v7 v10 v13 v15 fuel (v17 + 1) S18)
else ((f_X6_cell 2 v17).bind fun v30 =>
(rdA 60 606 v30 S18).bind fun v31 =>
if v31 = 0 then (lp_X6_goes_75 v7 v10 v13 v15 fuel (v17 + 1) S18)
else ((f_X6_cell 5 v26).bind fun v34 =>
(rdA 60 606 v34 S18).bind fun v35 =>
if v35 = 0 then (lp_X6_goes_75 v7 v10 v13 v15 fuel (v17 + 1) S18)
else ((rdA 49 2 0 S18).bind fun v37 =>
(rdA 49 2 1 S18).bind fun v39 =>
(rdA 49 2 0 S18).bind fun v41 =>
(rdA 49 2 1 S18).bind fun v43 =>
if (((v41 * v17) * v17) + ((v43 * v26) * v26)) ≤ (((v37 * v7) * v7) + ((v39 * v10) * v10)) then ((stL 48 ((S18.2 48) + (v13.toInt64 * v15.toInt64)) S18).bind fun S45 =>
(f_X6_cell 1 v7).bind fun v48 =>
(wrZ 61 606 v48 1 S45).bind fun S49 =>
(f_X6_cell 4 v10).bind fun v52 =>
(wrZ 61 606 v52 1 S49).bind fun S53 =>
(f_X6_cell 2 v17).bind fun v56 =>
(wrZ 61 606 v56 1 S53).bind fun S57 =>
(f_X6_cell 5 v26).bind fun v60 =>
(wrZ 61 606 v60 1 S57).bind fun S61 =>
if (S61.1 48 18) = 0 then (lp_X6_goes_75 v7 v10 v13 v15 fuel (v17 + 1) S61)
else ((f_X6_falses 2 v17 S61).bind fun v64 =>
(f_X6_falses 5 v26 S61).bind fun v66 =>
(f_X6_masks v7 v10 (v64 ||| v66) S61).bind fun S68 =>
lp_X6_goes_75 v7 v10 v13 v15 fuel (v17 + 1) S68))
else (lp_X6_goes_75 v7 v10 v13 v15 fuel (v17 + 1) S18))))))
else (lp_X6_goes_75 v7 v10 v13 v15 fuel (v17 + 1) S18)))
def lp_X6_goes_28 (v7 : Int32) : Nat → Int32 → QS → Option (QS)
  | 0, _, _ => none
  | fuel + 1, v10, S11 => (if v7 ≤ v10 then (some S11)
else ((rdA 62 202 (v7 + 50) S11).bind fun v13 =>
(rdA 62 202 ((101 + v10) + 50) S11).bind fun v15 =>
if (lg_cmp (v13.toInt64 * v15.toInt64) 0) = 0 then (lp_X6_goes_28 v7 fuel (v10 + 1) S11)
else ((lp_X6_goes_75 v7 v10 v13 v15 FU (-50) S11).bind fun q19 =>
lp_X6_goes_28 v7 fuel (v10 + 1) q19)))
def lp_X6_goes_18  : Nat → Int32 → QS → Option (QS)
  | 0, _, _ => none
  | fuel + 1, v7, S8 => (if 50 < v7 then (some S8)
else ((lp_X6_goes_28 v7 FU (-50) S8).bind fun q12 =>
lp_X6_goes_18 fuel (v7 + 1) q12))
def lp_X6_goes_377 (a2 : Int32) (v70 : Int32) (v73 : Int32) : Nat → Int32 → QS → Option (QS)
  | 0, _, _ => none
  | fuel + 1, v80, S81 => (if 50 < v80 then (some S81)
else ((f_X6_isFirst v70 v80 v73 a2 S81).bind fun v84 =>
if v84 = 0 then (lp_X6_goes_377 a2 v70 v73 fuel (v80 + 1) S81)
else ((f_X6_cell (3 * v70) v80).bind fun v86 =>
(wrZ 61 606 v86 1 S81).bind fun S87 =>
lp_X6_goes_377 a2 v70 v73 fuel (v80 + 1) S87)))
def lp_X6_goes_345 (a2 : Int32) (v70 : Int32) : Nat → Int32 → QS → Option (QS)
  | 0, _, _ => none
  | fuel + 1, v73, S74 => (if 50 < v73 then (some S74)
else ((f_X6_cell ((3 * v70) + 1) v73).bind fun v77 =>
(rdA 61 606 v77 S74).bind fun v78 =>
if v78 = 0 then (lp_X6_goes_345 a2 v70 fuel (v73 + 1) S74)
else ((lp_X6_goes_377 a2 v70 v73 FU (-50) S74).bind fun q82 =>
lp_X6_goes_345 a2 v70 fuel (v73 + 1) q82)))
def lp_X6_goes_336 (a2 : Int32) : Nat → Int32 → QS → Option (QS)
  | 0, _, _ => none
  | fuel + 1, v70, S71 => (if 2 ≤ v70 then (some S71)
else ((lp_X6_goes_345 a2 v70 FU (-50) S71).bind fun q75 =>
lp_X6_goes_336 a2 fuel (v70 + 1) q75))
def f_X6_goes (a1 : Int32) (a2 : Int32) (S : QS) : Option (Int32 × QS) :=
(f_X6_lets a1 S).bind fun S2 =>
(f_X6_counts a2 S2).bind fun S4 =>
(stL 48 0 S4).bind fun S5 =>
(lp_X6_goes_18 FU (-50) S5).bind fun q9 =>
(lp_X6_goes_336 a2 FU 0 q9).bind fun q72 =>
if (lg_cmp (q72.2 48) 0) ≤ 0 then (some (0, q72))
else (some (1, q72))
def lp_X6_makes_41 (v3 : Int32) (v5 : Int32) : Nat → Int32 → QS → Option (QS)
  | 0, _, _ => none
  | fuel + 1, v10, S11 => (if (1 <<< ((S11.1 48 13) &&& 31)) ≤ v10 then (some S11)
else ((wrZ 64 206848 (((((101 * v3) + v5) + 50) <<< (10 &&& 31)) + v10) 0 S11).bind fun S13 =>
lp_X6_makes_41 v3 v5 fuel (v10 + 1) S13))
def lp_X6_makes_75 (v3 : Int32) (v5 : Int32) : Nat → Int32 → QS → Option (QS)
  | 0, _, _ => none
  | fuel + 1, v15, S16 => (if 50 < v15 then (some S16)
else ((f_X6_cell ((3 * v3) + 1) v5).bind fun v19 =>
(rdA 60 606 v19 S16).bind fun v20 =>
if v20 = 0 then (lp_X6_makes_75 v3 v5 fuel (v15 + 1) S16)
else ((f_X6_isFirst v3 v15 v5 (-1) S16).bind fun v23 =>
if v23 = 0 then (lp_X6_makes_75 v3 v5 fuel (v15 + 1) S16)
else ((f_X6_falses (3 * v3) v15 S16).bind fun v25 =>
(f_X6_falses ((3 * v3) + 1) v5 S16).bind fun v27 =>
(rdA 64 206848 (((((101 * v3) + v5) + 50) <<< (10 &&& 31)) + (v25 ||| v27)) S16).bind fun v28 =>
if v28 = 0 then ((wrZ 64 206848 (((((101 * v3) + v5) + 50) <<< (10 &&& 31)) + (v25 ||| v27)) 1 S16).bind fun S30 =>
(rdA 66 202 (((101 * v3) + v5) + 50) S30).bind fun v32 =>
(wrA 65 20402 ((101 * (((101 * v3) + v5) + 50)) + v32) (v25 ||| v27) S30).bind fun S34 =>
(rdA 66 202 (((101 * v3) + v5) + 50) S34).bind fun v36 =>
(wrA 66 202 (((101 * v3) + v5) + 50) (v36 + 1) S34).bind fun S38 =>
lp_X6_makes_75 v3 v5 fuel (v15 + 1) S38)
else (lp_X6_makes_75 v3 v5 fuel (v15 + 1) S16)))))
def lp_X6_makes_15 (v3 : Int32) : Nat → Int32 → QS → Option (QS)
  | 0, _, _ => none
  | fuel + 1, v5, S6 => (if 50 < v5 then (some S6)
else ((wrA 66 202 (((101 * v3) + v5) + 50) 0 S6).bind fun S8 =>
(lp_X6_makes_41 v3 v5 FU 0 S8).bind fun q12 =>
(lp_X6_makes_75 v3 v5 FU (-50) q12).bind fun q17 =>
lp_X6_makes_15 v3 fuel (v5 + 1) q17))
def lp_X6_makes_7  : Nat → Int32 → QS → Option QS
  | 0, _, _ => none
  | fuel + 1, v3, S4 => (if 2 ≤ v3 then (some S4)
else ((lp_X6_makes_15 v3 FU (-50) S4).bind fun q7 =>
lp_X6_makes_7 fuel (v3 + 1) q7))
def f_X6_makes (S : QS) : Option QS :=
(f_X6_lets 0 S).bind fun S2 =>
lp_X6_makes_7 FU 0 S2
def lp_X6_fewest_2  : Nat → Int32 → QS → Option (QS)
  | 0, _, _ => none
  | fuel + 1, v1, S2 => (if 1024 ≤ v1 then (some S2)
else ((wrZ 63 1024 v1 0 S2).bind fun S4 =>
lp_X6_fewest_2 fuel (v1 + 1) S4))
def lp_X6_fewest_47 (q11 : Int32 × QS) (S12 : QS) : Nat → Int32 → Int32 → Option (Int32 × QS)
  | 0, _, _ => none
  | fuel + 1, v14, v15 => (if (1 <<< ((S12.1 48 13) &&& 31)) ≤ v15 then (some (v14, S12))
else (if q11.1 = 0 then (some (v14, S12))
else ((rdA 63 1024 v15 S12).bind fun v16 =>
if v16 = 0 then (lp_X6_fewest_47 q11 S12 fuel v14 (v15 + 1))
else (if v14 < 0 then (lp_X6_fewest_47 q11 S12 fuel v15 (v15 + 1))
else ((f_J6_bitCount_0f7a4 v15).bind fun v19 =>
(f_J6_bitCount_0f7a4 v14).bind fun v21 =>
if v21 ≤ v19 then (lp_X6_fewest_47 q11 S12 fuel v14 (v15 + 1))
else (lp_X6_fewest_47 q11 S12 fuel v15 (v15 + 1)))))))
def f_X6_fewest (S : QS) : Option (Int32 × QS) :=
(lp_X6_fewest_2 FU 0 S).bind fun q3 =>
(f_X6_makes q3).bind fun S7 =>
(stZ 48 18 1 S7).bind fun S8 =>
(f_X6_goes 0 (-1) S8).bind fun q11 =>
(stZ 48 18 0 q11.2).bind fun S12 =>
lp_X6_fewest_47 q11 S12 FU (-1) 0
def f_X6_ways (S : QS) : Option (Int64 × QS) :=
(stF 48 0 0 S).bind fun S1 =>
(f_X6_goes 0 (-1) S1).bind fun q4 =>
some ((q4.2.2 48), q4.2)
def lp_X6_span_67 (a1 : Int32) (a2 : Int32) (a3 : Int32) (q14 : Int32 × QS) : Nat → Int32 → Option (Int32 × QS)
  | 0, _ => none
  | fuel + 1, v16 => ((f_X6_cell ((3 * a1) + a2) v16).bind fun v18 =>
(rdA 61 606 v18 q14.2).bind fun v19 =>
if v19 = 0 then (((if a3 = 0 then (some 1)
else (some (-1))) : Option (Int32)).bind fun q21 =>
lp_X6_span_67 a1 a2 a3 q14 fuel (v16 + q21))
else (some (v16, q14.2)))
def f_X6_span (a1 : Int32) (a2 : Int32) (a3 : Int32) (a4 : Int32) (S : QS) : Option (Int32 × QS) :=
(stF 48 0 0 S).bind fun S1 =>
(f_X6_noSpeed a1 a2).bind fun v4 =>
(f_X6_throwsIf v4 1 S1).bind fun q6 =>
if q6.1 = 0 then (((if a4 = 0 then (some 0)
else ((f_X6_all q6.2).bind fun v9 =>
some v9)) : Option (Int32)).bind fun q7 =>
(f_X6_goes q7 (-1) q6.2).bind fun q11 =>
((if q11.1 = 0 then (some 1)
else (some 0)) : Option (Int32)).bind fun q12 =>
(f_X6_throwsIf q12 2 q11.2).bind fun q14 =>
if q14.1 = 0 then (((if a3 = 0 then (some (-50))
else (some 50)) : Option (Int32)).bind fun q15 =>
lp_X6_span_67 a1 a2 a3 q14 FU q15)
else (some (0, q14.2)))
else (some (0, q6.2))
def f_X6_fit (a1 : Int32) (S : QS) : Option (Int32 × QS) :=
(stF 48 0 0 S).bind fun S1 =>
(f_X6_all S1).bind fun v4 =>
(f_X6_goes (a1 &&& v4) (-1) S1).bind fun q6 =>
(zb q6.1).bind fun v7 =>
some (v7, q6.2)
def f_X6_wrong (S : QS) : Option (Int32 × QS) :=
(stF 48 0 0 S).bind fun S1 =>
(f_X6_fewest S1).bind fun q4 =>
if 0 ≤ q4.1 then ((f_J6_bitCount_0f7a4 q4.1).bind fun v6 =>
some (v6, q4.2))
else (some ((-1), q4.2))
def f_X6_which (S : QS) : Option (Int32 × QS) :=
(stF 48 0 0 S).bind fun S1 =>
(f_X6_fewest S1).bind fun q4 =>
some (q4.1, q4.2)
def lp_X6_odds_20  : Nat → Int32 → Int32 → QS → Option (Int32 × QS)
  | 0, _, _, _ => none
  | fuel + 1, v5, v6, S7 => (if (S7.1 48 7) ≤ v6 then (some (v5, S7))
else ((rdA 54 12 v6 S7).bind fun v8 =>
((if v8 = 0 then ((f_X6_goes 0 v6 S7).bind fun q12 =>
if q12.1 = 0 then (some (0, q12.2))
else (some ((1 <<< (v6 &&& 31)), q12.2)))
else (some (0, S7))) : Option (Int32 × QS)).bind fun q10 =>
lp_X6_odds_20 fuel (v5 ||| q10.1) (v6 + 1) q10.2))
def f_X6_odds (S : QS) : Option (Int32 × QS) :=
(stF 48 0 0 S).bind fun S1 =>
(f_X6_goes 0 (-1) S1).bind fun q4 =>
if q4.1 = 0 then (lp_X6_odds_20 FU 0 0 q4.2)
else (some (0, q4.2))
def lp_X6_avoided_86 (a1 : Int32) (a2 : Int32) (a3 : Int32) (q18 : Int32 × QS) : Nat → Int32 → Int32 → Int32 → Option (Int32 × Int32)
  | 0, _, _, _ => none
  | fuel + 1, v19, v20, v21 => (if 50 < v21 then (some (v19, v20))
else ((f_X6_cell (3 * a1) v21).bind fun v24 =>
(rdA 61 606 v24 q18.2).bind fun v25 =>
if v25 = 0 then (lp_X6_avoided_86 a1 a2 a3 q18 fuel v19 v20 (v21 + 1))
else (((if (a2 * a3) < ((51 * v21) * v21) then (some 0)
else (some 1)) : Option (Int32)).bind fun q27 =>
((if v19 = 0 then (if q27 = 0 then (some 0)
else (some 1))
else (some 1)) : Option (Int32)).bind fun q28 =>
((if v20 = 0 then (some 0)
else (if q27 = 0 then (some 0)
else (some 1))) : Option (Int32)).bind fun q29 =>
lp_X6_avoided_86 a1 a2 a3 q18 fuel q28 q29 (v21 + 1))))
def f_X6_avoided (a1 : Int32) (a2 : Int32) (a3 : Int32) (S : QS) : Option (Int32 × QS) :=
(stF 48 0 0 S).bind fun S1 =>
(f_X6_noCar a1).bind fun v4 =>
(f_X6_throwsIf v4 1 S1).bind fun q6 =>
if q6.1 = 0 then ((f_X6_in a2 0 2000).bind fun v8 =>
((if v8 = 0 then (some 1)
else ((f_X6_in a3 0 150).bind fun v11 =>
if v11 = 0 then (some 1)
else (some 0))) : Option (Int32)).bind fun q9 =>
(f_X6_throwsIf q9 2 q6.2).bind fun q13 =>
if q13.1 = 0 then ((f_X6_goes 0 (-1) q13.2).bind fun q15 =>
((if q15.1 = 0 then (some 1)
else (some 0)) : Option (Int32)).bind fun q16 =>
(f_X6_throwsIf q16 3 q15.2).bind fun q18 =>
if q18.1 = 0 then ((lp_X6_avoided_86 a1 a2 a3 q18 FU 0 1 (-50)).bind fun q22 =>
if q22.2 = 0 then (if q22.1 = 0 then (some (0, q18.2))
else (some (1, q18.2)))
else (some (2, q18.2)))
else (some (0, q18.2)))
else (some (0, q13.2)))
else (some (0, q6.2))
def f_X6_can (a1 : Int32) (a2 : Int32) (a3 : Int32) (S : QS) : Option (Int32 × QS) :=
(stF 48 0 0 S).bind fun S1 =>
(f_X6_noSpeed a1 a2).bind fun v4 =>
(f_X6_throwsIf v4 1 S1).bind fun q6 =>
if q6.1 = 0 then ((f_X6_in a3 (-50) 50).bind fun v8 =>
if v8 = 0 then (some (0, q6.2))
else ((f_X6_goes 0 (-1) q6.2).bind fun q10 =>
if q10.1 = 0 then (some (0, q10.2))
else ((f_X6_cell ((3 * a1) + a2) a3).bind fun v12 =>
(rdA 61 606 v12 q10.2).bind fun v13 =>
if v13 = 0 then (some (0, q10.2))
else (some (1, q10.2)))))
else (some (0, q6.2))
def f_X5_testCar (a1 : Int32) (S : QS) : Option ((String × QS) ⊕ Unit) :=
if a1 < 0 then (some (.inl ("java/lang/IndexOutOfBoundsException", S)))
else (if a1 < 2 then (some (.inr ()))
else (some (.inl ("java/lang/IndexOutOfBoundsException", S))))
def f_X5_testSpeed (a1 : Int32) (a2 : Int32) (S : QS) : Option ((String × QS) ⊕ Unit) :=
bx (f_X5_testCar a1 S) fun _ =>
if a2 < 0 then (some (.inl ("java/lang/IndexOutOfBoundsException", S)))
else (if a2 ≤ 2 then (some (.inr ()))
else (some (.inl ("java/lang/IndexOutOfBoundsException", S))))
def f_X5_testNumber (a1 : Int32) (a2 : Int32) (a3 : Int32) (S : QS) : Option ((String × QS) ⊕ Unit) :=
if a1 < a2 then (some (.inl ("java/lang/IllegalArgumentException", S)))
else (if a1 ≤ a3 then (some (.inr ()))
else (some (.inl ("java/lang/IllegalArgumentException", S))))
def f_X5_testSpan (a1 : Int32) (a2 : Int32) (a3 : Int32) (a4 : Int32) (S : QS) : Option ((String × QS) ⊕ Unit) :=
if a1 < a3 then (some (.inl ("java/lang/IllegalArgumentException", S)))
else (if a2 < a1 then (some (.inl ("java/lang/IllegalArgumentException", S)))
else (if a2 ≤ a4 then (some (.inr ()))
else (some (.inl ("java/lang/IllegalArgumentException", S)))))
def f_X5_testWay (S : QS) : Option ((String × QS) ⊕ Unit) :=
if (lg_cmp (S.2 25) 0) = 0 then (some (.inl ("java/util/NoSuchElementException", S)))
else (some (.inr ()))
def f_X5_skidOf (a1 : Int32) (S : QS) : Option ((String × QS) ⊕ Nat) :=
if a1 < 0 then (some (.inl ("java/lang/IndexOutOfBoundsException", S)))
else (if a1 < (S.1 0 2) then ((rdQ 2 12 a1).bind fun c1 =>
some (.inr c1))
else (some (.inl ("java/lang/IndexOutOfBoundsException", S))))
def f_X5_carOf (a1 : Int32) (S : QS) : Option ((String × QS) ⊕ Nat) :=
bx (f_X5_testCar a1 S) fun _ =>
(f_X1_pick a1 S).bind fun c4 =>
some (.inr c4)
def f_X5_speedOf (a1 : Int32) (a2 : Int32) (S : QS) : Option ((String × QS) ⊕ Nat) :=
bx (f_X5_testSpeed a1 a2 S) fun _ =>
bx (f_X5_carOf a1 S) fun c4 =>
(f_X0_pick c4 a2 S).bind fun c7 =>
some (.inr c7)
def f_X5_allTales (S : QS) : Option Int32 :=
some ((1 <<< ((S.1 0 3) &&& 31)) - 1)
def lp_X5_countingSkids_4 (S : QS) : Nat → Int32 → Int32 → Option Int32
  | 0, _, _ => none
  | fuel + 1, v1, v2 => (if (S.1 0 2) ≤ v2 then (some v1)
else ((rdQ 2 12 v2).bind fun c3 =>
((if (S.1 c3 4) = 0 then (some 0)
else (some 1)) : Option (Int32)).bind fun q5 =>
lp_X5_countingSkids_4 S fuel (v1 + q5) (v2 + 1)))
def f_X5_countingSkids (S : QS) : Option Int32 :=
lp_X5_countingSkids_4 S FU 0 0
def f_X5_mass (a1 : Int32) (a2 : Int32) (S : QS) : Option ((String × QS) ⊕ QS) :=
bx (f_X5_carOf a1 S) fun c2 =>
bx (f_X5_testNumber a2 1 100 S) fun _ =>
(stF c2 0 a2 S).bind fun S6 =>
(stZ 0 5 0 S6).bind fun S8 =>
some (.inr S8)
def f_X5_skid (a1 : Int32) (a2 : Int32) (a3 : Int32) (a4 : Int32) (a5 : Int32) (a6 : Int32) (S : QS) : Option ((String × QS) ⊕ (Int32 × QS)) :=
bx (f_X5_testCar a1 S) fun _ =>
bx (f_X5_testSpan a3 a4 0 2000 S) fun _ =>
bx (f_X5_testSpan a5 a6 0 150 S) fun _ =>
if (S.1 0 2) < 12 then ((rdQ 2 12 (S.1 0 2)).bind fun c7 =>
(stF c7 0 a1 S).bind fun S9 =>
(stZ c7 1 a2 S9).bind fun S11 =>
(stF c7 2 (a3 * a5) S11).bind fun S13 =>
(stF c7 3 (a4 * a6) S13).bind fun S15 =>
(stZ c7 4 1 S15).bind fun S17 =>
(stF 0 2 ((S17.1 0 2) + 1) S17).bind fun S19 =>
(stZ 0 5 0 S19).bind fun S21 =>
some (.inr (((S21.1 0 2) - 1), S21)))
else (some (.inl ("java/lang/UnsupportedOperationException", S)))
def f_X5_drop (a1 : Int32) (a2 : Int32) (S : QS) : Option ((String × QS) ⊕ (Int32 × QS)) :=
bx (f_X5_skidOf a1 S) fun c2 =>
if (S.1 c2 4) = a2 then (((if a2 = 0 then (some 1)
else (some 0)) : Option (Int32)).bind fun q4 =>
(stZ c2 4 q4 S).bind fun S5 =>
(stZ 0 5 0 S5).bind fun S7 =>
some (.inr (1, S7)))
else (some (.inr (0, S)))
def f_X5_sure (a1 : Int32) (a2 : Int32) (a3 : Int32) (a4 : Int32) (S : QS) : Option ((String × QS) ⊕ QS) :=
bx (f_X5_speedOf a1 a2 S) fun c2 =>
bx (f_X5_testSpan a3 a4 (-50) 50 S) fun _ =>
(stF c2 0 a3 S).bind fun S6 =>
(stF c2 1 a4 S6).bind fun S8 =>
(stZ 0 5 0 S8).bind fun S10 =>
some (.inr S10)
def f_X5_tale (a1 : Int32) (a2 : Int32) (a3 : Int32) (a4 : Int32) (S : QS) : Option ((String × QS) ⊕ (Int32 × QS)) :=
bx (f_X5_testSpeed a1 a2 S) fun _ =>
bx (f_X5_testSpan a3 a4 (-50) 50 S) fun _ =>
if (S.1 0 3) < 10 then ((rdQ 15 10 (S.1 0 3)).bind fun c5 =>
(stF c5 0 a1 S).bind fun S7 =>
(stF c5 1 a2 S7).bind fun S9 =>
(stF c5 2 a3 S9).bind fun S11 =>
(stF c5 3 a4 S11).bind fun S13 =>
(stF 0 3 ((S13.1 0 3) + 1) S13).bind fun S15 =>
(stZ 0 5 0 S15).bind fun S17 =>
some (.inr (((S17.1 0 3) - 1), S17)))
else (some (.inl ("java/lang/UnsupportedOperationException", S)))
def f_X5_hush (S : QS) : Option (Int32 × QS) :=
(stF 0 3 0 S).bind fun S1 =>
(stZ 0 5 0 S1).bind fun S3 =>
some ((S.1 0 3), S3)
def f_X5_look (a1 : Int32) (a2 : Int32) (S : QS) : Option ((String × QS) ⊕ Int32) :=
bx (f_X5_skidOf a1 S) fun c2 =>
if a2 = 0 then (some (.inr (S.1 c2 0)))
else (if a2 = 1 then (if (S.1 c2 1) = 0 then (some (.inr 0))
else (some (.inr 1)))
else (if a2 = 2 then (some (.inr (S.1 c2 2)))
else (if a2 = 3 then (some (.inr (S.1 c2 3)))
else (if a2 = 4 then (if (S.1 c2 4) = 0 then (some (.inr 0))
else (some (.inr 1)))
else (some (.inl ("java/util/NoSuchElementException", S)))))))
def f_X5_count (a1 : Int32) (S : QS) : Option Int32 :=
if a1 = 0 then (some (S.1 0 2))
else (if a1 = 1 then ((f_X5_countingSkids S).bind fun v2 =>
some v2)
else (if a1 = 2 then (some (S.1 0 3))
else (if a1 = 3 then (some (S.1 26 0))
else (if a1 = 4 then (some (S.1 37 0))
else (some (-1))))))
def lp_X5_reckon_46 (a1 : Int32) : Nat → Int32 → QS → Option (QS)
  | 0, _, _ => none
  | fuel + 1, v5, S6 => (if (S6.1 0 3) ≤ v5 then (some S6)
else ((rdQ 15 10 v5).bind fun c8 =>
(f_X1_pick (S6.1 c8 0) S6).bind fun c11 =>
(f_X0_pick c11 (S6.1 c8 1) S6).bind fun c13 =>
((if (a1 &&& (1 <<< (v5 &&& 31))) = 0 then (some ((1024 : Int32) + (1 <<< (v5 &&& 31))))
else (some (-1))) : Option (Int32)).bind fun q14 =>
(f_X3_hear c13 c8 q14 S6).bind fun S16 =>
lp_X5_reckon_46 a1 fuel (v5 + 1) S16))
def lp_X5_reckon_121 (a2 : Int32) : Nat → Int32 → QS → Option (QS)
  | 0, _, _ => none
  | fuel + 1, v17, S18 => (if (S18.1 0 2) ≤ v17 then (some S18)
else ((rdQ 2 12 v17).bind fun c20 =>
if (S18.1 c20 4) = 0 then (lp_X5_reckon_121 a2 fuel (v17 + 1) S18)
else (if v17 = a2 then (lp_X5_reckon_121 a2 fuel (v17 + 1) S18)
else ((rdQ 2 12 v17).bind fun c22 =>
(f_X1_pick (S18.1 c22 0) S18).bind fun c25 =>
(rdQ 2 12 v17).bind fun c26 =>
(f_X0_add c25 c26 S18).bind fun S29 =>
lp_X5_reckon_121 a2 fuel (v17 + 1) S29))))
def ct_X5_reckon_24 (a1 : Int32) (a2 : Int32) (S : QS) : Option QS :=
(f_X0_clear 26 S).bind fun S2 =>
(f_X0_clear 37 S2).bind fun S4 =>
(lp_X5_reckon_46 a1 FU 0 S4).bind fun q7 =>
(lp_X5_reckon_121 a2 FU 0 q7).bind fun q19 =>
(f_X1_reckon q19).bind fun S31 =>
(stZ 0 5 1 S31).bind fun S32 =>
(stF 0 6 a1 S32).bind fun S34 =>
(stF 0 7 a2 S34).bind fun S36 =>
some S36
def f_X5_reckon (a1 : Int32) (a2 : Int32) (S : QS) : Option QS :=
if (S.1 0 5) = 0 then (ct_X5_reckon_24 a1 a2 S)
else (if a1 = (S.1 0 6) then (if a2 = (S.1 0 7) then (some S)
else (ct_X5_reckon_24 a1 a2 S))
else (ct_X5_reckon_24 a1 a2 S))
def f_X5_ways (S : QS) : Option (Int64 × QS) :=
(f_X5_reckon 0 (-1) S).bind fun S2 =>
some ((S2.2 25), S2)
def f_X5_span (a1 : Int32) (a2 : Int32) (a3 : Int32) (a4 : Int32) (S : QS) : Option ((String × QS) ⊕ (Int32 × QS)) :=
bx (f_X5_speedOf a1 a2 S) fun c2 =>
((if a4 = 0 then (some 0)
else ((f_X5_allTales S).bind fun v6 =>
some v6)) : Option (Int32)).bind fun q4 =>
(f_X5_reckon q4 (-1) S).bind fun S8 =>
bx (f_X5_testWay S8) fun _ =>
if a3 = 0 then ((f_X3_leastSeen c2 S8).bind fun v12 =>
some (.inr (v12, S8)))
else ((f_X3_greatestSeen c2 S8).bind fun v14 =>
some (.inr (v14, S8)))
def f_X5_fit (a1 : Int32) (S : QS) : Option (Int32 × QS) :=
(f_X5_allTales S).bind fun v2 =>
(f_X5_reckon (a1 &&& v2) (-1) S).bind fun S4 =>
if (lg_cmp (S4.2 25) 0) ≤ 0 then (some (0, S4))
else (some (1, S4))
def f_X5_wrong (S : QS) : Option (Int32 × QS) :=
(f_X5_reckon 0 (-1) S).bind fun S2 =>
if (S2.1 25 3) = (-1) then (some ((-1), S2))
else ((dvI (S2.1 25 3) 1024).bind fun v3 =>
some (v3, S2))
def f_X5_which (S : QS) : Option (Int32 × QS) :=
(f_X5_reckon 0 (-1) S).bind fun S2 =>
if (S2.1 25 3) = (-1) then (some ((-1), S2))
else ((rmI (S2.1 25 3) 1024).bind fun v3 =>
some (v3, S2))
def lp_X5_odds_24  : Nat → Int32 → Int32 → QS → Option (Int32 × QS)
  | 0, _, _, _ => none
  | fuel + 1, v3, v4, S5 => (if (S5.1 0 2) ≤ v4 then (some (v3, S5))
else ((rdQ 2 12 v4).bind fun c6 =>
if (S5.1 c6 4) = 0 then (lp_X5_odds_24 fuel v3 (v4 + 1) S5)
else ((f_X5_reckon 0 v4 S5).bind fun S9 =>
((if (lg_cmp (S9.2 25) 0) ≤ 0 then (some 0)
else (some (1 <<< (v4 &&& 31)))) : Option (Int32)).bind fun q10 =>
lp_X5_odds_24 fuel (v3 ||| q10) (v4 + 1) S9)))
def f_X5_odds (S : QS) : Option (Int32 × QS) :=
(f_X5_reckon 0 (-1) S).bind fun S2 =>
if (lg_cmp (S2.2 25) 0) ≤ 0 then (lp_X5_odds_24 FU 0 0 S2)
else (some (0, S2))
def lp_X5_avoided_46 (a2 : Int32) (a3 : Int32) (c2 : Nat) (S9 : QS) : Nat → Int32 → Int32 → Int32 → Option (Int32 × Int32)
  | 0, _, _, _ => none
  | fuel + 1, v12, v13, v14 => (if 50 < v14 then (some (v12, v13))
else ((f_X3_isSeen (c2 + 1) v14 S9).bind fun v17 =>
if v17 = 0 then (lp_X5_avoided_46 a2 a3 c2 S9 fuel v12 v13 (v14 + 1))
else (((if (a2 * a3) < ((51 * v14) * v14) then (some 0)
else (some 1)) : Option (Int32)).bind fun q18 =>
((if v12 = 0 then (some 0)
else (if q18 = 0 then (some 0)
else (some 1))) : Option (Int32)).bind fun q19 =>
((if v13 = 0 then (if q18 = 0 then (some 0)
else (some 1))
else (some 1)) : Option (Int32)).bind fun q20 =>
lp_X5_avoided_46 a2 a3 c2 S9 fuel q19 q20 (v14 + 1))))
def f_X5_avoided (a1 : Int32) (a2 : Int32) (a3 : Int32) (S : QS) : Option ((String × QS) ⊕ (Int32 × QS)) :=
bx (f_X5_carOf a1 S) fun c2 =>
bx (f_X5_testNumber a2 0 2000 S) fun _ =>
bx (f_X5_testNumber a3 0 150 S) fun _ =>
(f_X5_reckon 0 (-1) S).bind fun S9 =>
bx (f_X5_testWay S9) fun _ =>
(lp_X5_avoided_46 a2 a3 c2 S9 FU 1 0 (-50)).bind fun q15 =>
if q15.1 = 0 then (if q15.2 = 0 then (some (.inr (0, S9)))
else (some (.inr (1, S9))))
else (some (.inr (2, S9)))
def f_X5_can (a1 : Int32) (a2 : Int32) (a3 : Int32) (S : QS) : Option ((String × QS) ⊕ (Int32 × QS)) :=
bx (f_X5_speedOf a1 a2 S) fun c2 =>
(f_X5_reckon 0 (-1) S).bind fun S5 =>
(f_X3_isSeen c2 a3 S5).bind fun v7 =>
(zb v7).bind fun v8 =>
some (.inr (v8, S5))
def f_L_mass (a2 : Int32) (a3 : Int32) (S : QS) : Option (Int32 × QS) :=
bh (f_X5_mass a2 a3 S) (fun E S9 => if E = "java/lang/IndexOutOfBoundsException" then (some (1, S9))
else (if E = "java/lang/IllegalArgumentException" then (some (2, S9))
else (none))) fun S2 =>
some (0, S2)
def f_L_skid (a2 : Int32) (a3 : Int32) (a4 : Int32) (a5 : Int32) (a6 : Int32) (a7 : Int32) (S : QS) : Option (Int32 × QS) :=
bh (f_X5_skid a2 a3 a4 a5 a6 a7 S) (fun E S9 => if E = "java/lang/IndexOutOfBoundsException" then (some (1, S9))
else (if E = "java/lang/IllegalArgumentException" then (some (2, S9))
else (if E = "java/lang/UnsupportedOperationException" then (some (3, S9))
else (none)))) fun q2 =>
(stL 67 q2.1.toInt64 q2.2).bind fun S4 =>
some (0, S4)
def f_L_drop (a2 : Int32) (a3 : Int32) (S : QS) : Option (Int32 × QS) :=
bh (f_X5_drop a2 a3 S) (fun E S9 => if E = "java/lang/IndexOutOfBoundsException" then (some (1, S9))
else (none)) fun q2 =>
((if q2.1 = 0 then (some 0)
else (some 1)) : Option (Int64)).bind fun q4 =>
(stL 67 q4 q2.2).bind fun S5 =>
some (0, S5)
def f_L_sure (a2 : Int32) (a3 : Int32) (a4 : Int32) (a5 : Int32) (S : QS) : Option (Int32 × QS) :=
bh (f_X5_sure a2 a3 a4 a5 S) (fun E S9 => if E = "java/lang/IndexOutOfBoundsException" then (some (1, S9))
else (if E = "java/lang/IllegalArgumentException" then (some (2, S9))
else (none))) fun S2 =>
some (0, S2)
def f_L_tale (a2 : Int32) (a3 : Int32) (a4 : Int32) (a5 : Int32) (S : QS) : Option (Int32 × QS) :=
bh (f_X5_tale a2 a3 a4 a5 S) (fun E S9 => if E = "java/lang/IndexOutOfBoundsException" then (some (1, S9))
else (if E = "java/lang/IllegalArgumentException" then (some (2, S9))
else (if E = "java/lang/UnsupportedOperationException" then (some (3, S9))
else (none)))) fun q2 =>
(stL 67 q2.1.toInt64 q2.2).bind fun S4 =>
some (0, S4)
def f_L_span (a2 : Int32) (a3 : Int32) (a4 : Int32) (a5 : Int32) (S : QS) : Option (Int32 × QS) :=
bh (f_X5_span a2 a3 a4 a5 S) (fun E S9 => if E = "java/lang/IndexOutOfBoundsException" then (some (1, S9))
else (if E = "java/util/NoSuchElementException" then (some (2, S9))
else (none))) fun q2 =>
(stL 67 q2.1.toInt64 q2.2).bind fun S4 =>
some (0, S4)
def f_L_avoided (a2 : Int32) (a3 : Int32) (a4 : Int32) (S : QS) : Option (Int32 × QS) :=
bh (f_X5_avoided a2 a3 a4 S) (fun E S9 => if E = "java/lang/IndexOutOfBoundsException" then (some (1, S9))
else (if E = "java/lang/IllegalArgumentException" then (some (2, S9))
else (if E = "java/util/NoSuchElementException" then (some (3, S9))
else (none)))) fun q2 =>
(stL 67 q2.1.toInt64 q2.2).bind fun S4 =>
some (0, S4)
def f_L_look (a2 : Int32) (a3 : Int32) (S : QS) : Option (Int32 × QS) :=
bh (f_X5_look a2 a3 S) (fun E S9 => if E = "java/lang/IndexOutOfBoundsException" then (some (1, S9))
else (if E = "java/util/NoSuchElementException" then (some (2, S9))
else (none))) fun v2 =>
(stL 67 v2.toInt64 S).bind fun S4 =>
some (0, S4)
def f_L_can (a2 : Int32) (a3 : Int32) (a4 : Int32) (S : QS) : Option (Int32 × QS) :=
bh (f_X5_can a2 a3 a4 S) (fun E S9 => if E = "java/lang/IndexOutOfBoundsException" then (some (1, S9))
else (none)) fun q2 =>
((if q2.1 = 0 then (some 0)
else (some 1)) : Option (Int64)).bind fun q4 =>
(stL 67 q4 q2.2).bind fun S5 =>
some (0, S5)
def rdX (L : Nat) (xs : Nat → Int32) (i : Int32) : Option Int32 := if ¬ (i < 0 ∨ L ≤ i.toNatClampNeg) then some (xs i.toNatClampNeg) else none
theorem q_rdX {L : Nat} {xs : Nat → Int32} {i x : Int32} (h : rdX L xs i = some x) : vp_in i L ∧ x = xs i.toNatClampNeg := by
  unfold rdX at h
  by_cases c : ¬ (i < 0 ∨ L ≤ i.toNatClampNeg)
  · rw [if_pos c] at h
    exact ⟨c, (Option.some.inj h).symm⟩
  · rw [if_neg c] at h
    cases h

def st_law_0 (L : Nat) (xs : Nat → Int32) (vi : Int32) (S : QS) : Option QS :=
(rdX L xs (vi + 1)).bind fun v1 =>
(rdX L xs (vi + 2)).bind fun v3 =>
(f_L_mass v1 v3 S).bind fun q6 =>
(rdX L xs (vi + 1)).bind fun v7 =>
(rdX L xs (vi + 2)).bind fun v9 =>
(f_X6_mass v7 v9 q6.2).bind fun S12 =>
(f_X6_thrown S12).bind fun v14 =>
if v14 = q6.1 then (some S12)
else (none)
def st_law_1 (L : Nat) (xs : Nat → Int32) (vi : Int32) (S : QS) : Option QS :=
(rdX L xs (vi + 1)).bind fun v1 =>
(rdX L xs (vi + 2)).bind fun v3 =>
((if v3 = 0 then (some 0)
else (some 1)) : Option (Int32)).bind fun q5 =>
(rdX L xs (vi + 3)).bind fun v6 =>
(rdX L xs (vi + 4)).bind fun v8 =>
(rdX L xs (vi + 5)).bind fun v10 =>
(rdX L xs (vi + 6)).bind fun v12 =>
(f_L_skid v1 q5 v6 v8 v10 v12 S).bind fun q15 =>
(rdX L xs (vi + 1)).bind fun v16 =>
(rdX L xs (vi + 2)).bind fun v18 =>
((if v18 = 0 then (some 0)
else (some 1)) : Option (Int32)).bind fun q20 =>
(rdX L xs (vi + 3)).bind fun v21 =>
(rdX L xs (vi + 4)).bind fun v23 =>
(rdX L xs (vi + 5)).bind fun v25 =>
(rdX L xs (vi + 6)).bind fun v27 =>
(f_X6_skid v16 q20 v21 v23 v25 v27 q15.2).bind fun q30 =>
(f_X6_thrown q30.2).bind fun v32 =>
if v32 = q15.1 then (if q15.1 = 0 then (if (lg_cmp (q30.2.2 67) q30.1.toInt64) = 0 then (some q30.2)
else (none))
else (some q30.2))
else (none)
def st_law_2 (L : Nat) (xs : Nat → Int32) (vi : Int32) (S : QS) : Option QS :=
(rdX L xs (vi + 1)).bind fun v1 =>
(rdX L xs (vi + 2)).bind fun v3 =>
((if v3 = 0 then (some 0)
else (some 1)) : Option (Int32)).bind fun q5 =>
(f_L_drop v1 q5 S).bind fun q7 =>
(rdX L xs (vi + 1)).bind fun v8 =>
(rdX L xs (vi + 2)).bind fun v10 =>
((if v10 = 0 then (some 0)
else (some 1)) : Option (Int32)).bind fun q12 =>
(f_X6_drop v8 q12 q7.2).bind fun q14 =>
(f_X6_thrown q14.2).bind fun v16 =>
if v16 = q7.1 then (if q7.1 = 0 then (((if q14.1 = 0 then (some 0)
else (some 1)) : Option (Int64)).bind fun q17 =>
if (lg_cmp (q14.2.2 67) q17) = 0 then (some q14.2)
else (none))
else (some q14.2))
else (none)
def st_law_3 (L : Nat) (xs : Nat → Int32) (vi : Int32) (S : QS) : Option QS :=
(rdX L xs (vi + 1)).bind fun v1 =>
(rdX L xs (vi + 2)).bind fun v3 =>
(rdX L xs (vi + 3)).bind fun v5 =>
(rdX L xs (vi + 4)).bind fun v7 =>
(f_L_sure v1 v3 v5 v7 S).bind fun q10 =>
(rdX L xs (vi + 1)).bind fun v11 =>
(rdX L xs (vi + 2)).bind fun v13 =>
(rdX L xs (vi + 3)).bind fun v15 =>
(rdX L xs (vi + 4)).bind fun v17 =>
(f_X6_sure v11 v13 v15 v17 q10.2).bind fun S20 =>
(f_X6_thrown S20).bind fun v22 =>
if v22 = q10.1 then (some S20)
else (none)
def st_law_4 (L : Nat) (xs : Nat → Int32) (vi : Int32) (S : QS) : Option QS :=
(rdX L xs (vi + 1)).bind fun v1 =>
(rdX L xs (vi + 2)).bind fun v3 =>
(rdX L xs (vi + 3)).bind fun v5 =>
(rdX L xs (vi + 4)).bind fun v7 =>
(f_L_tale v1 v3 v5 v7 S).bind fun q10 =>
(rdX L xs (vi + 1)).bind fun v11 =>
(rdX L xs (vi + 2)).bind fun v13 =>
(rdX L xs (vi + 3)).bind fun v15 =>
(rdX L xs (vi + 4)).bind fun v17 =>
(f_X6_tale v11 v13 v15 v17 q10.2).bind fun q20 =>
(f_X6_thrown q20.2).bind fun v22 =>
if v22 = q10.1 then (if q10.1 = 0 then (if (lg_cmp (q20.2.2 67) q20.1.toInt64) = 0 then (some q20.2)
else (none))
else (some q20.2))
else (none)
def st_law_5 (L : Nat) (xs : Nat → Int32) (vi : Int32) (S : QS) : Option QS :=
(f_X5_hush S).bind fun q2 =>
(f_X6_hush q2.2).bind fun q4 =>
if q2.1 = q4.1 then (some q4.2)
else (none)
def st_law_6 (L : Nat) (xs : Nat → Int32) (vi : Int32) (S : QS) : Option QS :=
(f_X5_ways S).bind fun q2 =>
(f_X6_ways q2.2).bind fun q4 =>
if (lg_cmp q2.1 q4.1) = 0 then (some q4.2)
else (none)
def st_law_7 (L : Nat) (xs : Nat → Int32) (vi : Int32) (S : QS) : Option QS :=
(rdX L xs (vi + 1)).bind fun v1 =>
(rdX L xs (vi + 2)).bind fun v3 =>
(rdX L xs (vi + 3)).bind fun v5 =>
((if v5 = 0 then (some 0)
else (some 1)) : Option (Int32)).bind fun q7 =>
(rdX L xs (vi + 4)).bind fun v8 =>
((if v8 = 0 then (some 0)
else (some 1)) : Option (Int32)).bind fun q10 =>
(f_L_span v1 v3 q7 q10 S).bind fun q12 =>
(rdX L xs (vi + 1)).bind fun v13 =>
(rdX L xs (vi + 2)).bind fun v15 =>
(rdX L xs (vi + 3)).bind fun v17 =>
((if v17 = 0 then (some 0)
else (some 1)) : Option (Int32)).bind fun q19 =>
(rdX L xs (vi + 4)).bind fun v20 =>
((if v20 = 0 then (some 0)
else (some 1)) : Option (Int32)).bind fun q22 =>
(f_X6_span v13 v15 q19 q22 q12.2).bind fun q24 =>
(f_X6_thrown q24.2).bind fun v26 =>
if v26 = q12.1 then (if q12.1 = 0 then (if (lg_cmp (q24.2.2 67) q24.1.toInt64) = 0 then (some q24.2)
else (none))
else (some q24.2))
else (none)
def st_law_8 (L : Nat) (xs : Nat → Int32) (vi : Int32) (S : QS) : Option QS :=
(rdX L xs (vi + 1)).bind fun v1 =>
(f_X5_fit v1 S).bind fun q4 =>
(rdX L xs (vi + 1)).bind fun v5 =>
(f_X6_fit v5 q4.2).bind fun q8 =>
if q4.1 = q8.1 then (some q8.2)
else (none)
def st_law_9 (L : Nat) (xs : Nat → Int32) (vi : Int32) (S : QS) : Option QS :=
(f_X5_wrong S).bind fun q2 =>
(f_X6_wrong q2.2).bind fun q4 =>
if q2.1 = q4.1 then (some q4.2)
else (none)
def st_law_10 (L : Nat) (xs : Nat → Int32) (vi : Int32) (S : QS) : Option QS :=
(f_X5_which S).bind fun q2 =>
(f_X6_which q2.2).bind fun q4 =>
if q2.1 = q4.1 then (some q4.2)
else (none)
def st_law_11 (L : Nat) (xs : Nat → Int32) (vi : Int32) (S : QS) : Option QS :=
(f_X5_odds S).bind fun q2 =>
(f_X6_odds q2.2).bind fun q4 =>
if q2.1 = q4.1 then (some q4.2)
else (none)
def st_law_12 (L : Nat) (xs : Nat → Int32) (vi : Int32) (S : QS) : Option QS :=
(rdX L xs (vi + 1)).bind fun v1 =>
(rdX L xs (vi + 2)).bind fun v3 =>
(rdX L xs (vi + 3)).bind fun v5 =>
(f_L_avoided v1 v3 v5 S).bind fun q8 =>
(rdX L xs (vi + 1)).bind fun v9 =>
(rdX L xs (vi + 2)).bind fun v11 =>
(rdX L xs (vi + 3)).bind fun v13 =>
(f_X6_avoided v9 v11 v13 q8.2).bind fun q16 =>
(f_X6_thrown q16.2).bind fun v18 =>
if v18 = q8.1 then (if q8.1 = 0 then (if (lg_cmp (q16.2.2 67) q16.1.toInt64) = 0 then (some q16.2)
else (none))
else (some q16.2))
else (none)
def st_law_13 (L : Nat) (xs : Nat → Int32) (vi : Int32) (S : QS) : Option QS :=
(rdX L xs (vi + 1)).bind fun v1 =>
(rdX L xs (vi + 2)).bind fun v3 =>
(f_L_look v1 v3 S).bind fun q6 =>
(rdX L xs (vi + 1)).bind fun v7 =>
(rdX L xs (vi + 2)).bind fun v9 =>
(f_X6_look v7 v9 q6.2).bind fun q12 =>
(f_X6_thrown q12.2).bind fun v14 =>
if v14 = q6.1 then (if q6.1 = 0 then (if (lg_cmp (q12.2.2 67) q12.1.toInt64) = 0 then (some q12.2)
else (none))
else (some q12.2))
else (none)
def st_law_14 (L : Nat) (xs : Nat → Int32) (vi : Int32) (S : QS) : Option QS :=
(rdX L xs (vi + 1)).bind fun v1 =>
(rdX L xs (vi + 2)).bind fun v3 =>
(rdX L xs (vi + 3)).bind fun v5 =>
(f_L_can v1 v3 v5 S).bind fun q8 =>
(rdX L xs (vi + 1)).bind fun v9 =>
(rdX L xs (vi + 2)).bind fun v11 =>
(rdX L xs (vi + 3)).bind fun v13 =>
(f_X6_can v9 v11 v13 q8.2).bind fun q16 =>
(f_X6_thrown q16.2).bind fun v18 =>
if v18 = q8.1 then (if q8.1 = 0 then (((if q16.1 = 0 then (some 0)
else (some 1)) : Option (Int64)).bind fun q19 =>
if (lg_cmp (q16.2.2 67) q19) = 0 then (some q16.2)
else (none))
else (some q16.2))
else (none)
def st_law_15 (L : Nat) (xs : Nat → Int32) (vi : Int32) (S : QS) : Option QS :=
(rdX L xs (vi + 1)).bind fun v1 =>
(f_X5_count v1 S).bind fun v4 =>
(rdX L xs (vi + 1)).bind fun v5 =>
(f_X6_count v5 S).bind fun q8 =>
if v4 = q8.1 then (some q8.2)
else (none)
def st_law (L : Nat) (xs : Nat → Int32) (x vi : Int32) (S : QS) : Option QS :=
if x = 0 then st_law_0 L xs vi S else if x = 1 then st_law_1 L xs vi S else if x = 2 then st_law_2 L xs vi S else if x = 3 then st_law_3 L xs vi S else if x = 4 then st_law_4 L xs vi S else if x = 5 then st_law_5 L xs vi S else if x = 6 then st_law_6 L xs vi S else if x = 7 then st_law_7 L xs vi S else if x = 8 then st_law_8 L xs vi S else if x = 9 then st_law_9 L xs vi S else if x = 10 then st_law_10 L xs vi S else if x = 11 then st_law_11 L xs vi S else if x = 12 then st_law_12 L xs vi S else if x = 13 then st_law_13 L xs vi S else if x = 14 then st_law_14 L xs vi S else if x = 15 then st_law_15 L xs vi S else some S

def lp_law (L : Nat) (xs : Nat → Int32) : Nat → Int32 → QS → Option Unit
  | 0, _, _ => none
  | fuel + 1, vi, S => if Int32.ofNat L - 7 < vi then some () else (rdX L xs vi).bind fun v => (st_law L xs (v &&& 15) vi S).bind fun S1 => lp_law L xs fuel (vi + 7) S1
def S0 : QS := (fun k => if k = 0 then (upd (fun _ => 0) 7 (-1)) else if k = 25 then (upd (upd (upd (fun _ => 0) 3 (-1)) 4 1) 5 1) else if k = 26 then (upd (fun _ => 0) 0 10) else if k = 27 then (upd (upd (upd (upd (fun _ => 0) 0 (-50)) 1 50) 2 (-50)) 3 50) else if k = 30 then (upd (upd (upd (upd (fun _ => 0) 0 (-50)) 1 50) 2 (-50)) 3 50) else if k = 33 then (upd (upd (upd (upd (fun _ => 0) 0 (-50)) 1 50) 2 (-50)) 3 50) else if k = 37 then (upd (fun _ => 0) 0 10) else if k = 38 then (upd (upd (upd (upd (fun _ => 0) 0 (-50)) 1 50) 2 (-50)) 3 50) else if k = 41 then (upd (upd (upd (upd (fun _ => 0) 0 (-50)) 1 50) 2 (-50)) 3 50) else if k = 44 then (upd (upd (upd (upd (fun _ => 0) 0 (-50)) 1 50) 2 (-50)) 3 50) else if k = 49 then (upd (upd (fun _ => 0) 0 10) 1 10) else if k = 55 then (upd (upd (upd (upd (upd (upd (fun _ => 0) 0 (-50)) 1 (-50)) 2 (-50)) 3 (-50)) 4 (-50)) 5 (-50)) else if k = 56 then (upd (upd (upd (upd (upd (upd (fun _ => 0) 0 50) 1 50) 2 50) 3 50) 4 50) 5 50) else fun _ => 0, fun _ => 0)
end
section
/-! ===== order of ints, in all its forms, and through longs ===== -/
theorem fa_lt (a b : Int32) : a < b ↔ a.toInt < b.toInt := Int32.lt_iff_toInt_lt
theorem fa_le (a b : Int32) : a ≤ b ↔ a.toInt ≤ b.toInt := Int32.le_iff_toInt_le
theorem fa_eq (a b : Int32) : a = b ↔ a.toInt = b.toInt := Int32.toInt_inj.symm
theorem fa_lt64 (a b : Int64) : a < b ↔ a.toInt < b.toInt := Int64.lt_iff_toInt_lt
theorem fa_le64 (a b : Int64) : a ≤ b ↔ a.toInt ≤ b.toInt := Int64.le_iff_toInt_le
theorem fa_eq64 (a b : Int64) : a = b ↔ a.toInt = b.toInt := Int64.toInt_inj.symm
/-- a comparison of two ints taken as longs -/
theorem fa_wide_lt (a b : Int32) : a.toInt64 < b.toInt64 ↔ a < b := by rw [fa_lt64, fa_lt, Int32.toInt_toInt64, Int32.toInt_toInt64]
theorem fa_wide_le (a b : Int32) : a.toInt64 ≤ b.toInt64 ↔ a ≤ b := by rw [fa_le64, fa_le, Int32.toInt_toInt64, Int32.toInt_toInt64]
theorem fa_wide_eq (a b : Int32) : a.toInt64 = b.toInt64 ↔ a = b := by rw [fa_eq64, fa_eq, Int32.toInt_toInt64, Int32.toInt_toInt64]
/-- one strict comparison gives all the others -/
theorem fa_of_lt {a b : Int32} (h : a < b) : a ≤ b ∧ ¬ b ≤ a ∧ ¬ b < a ∧ a ≠ b ∧ b ≠ a := by
  rw [fa_lt] at h
  refine ⟨?_, ?_, ?_, ?_, ?_⟩
  · rw [fa_le]; omega
  · rw [fa_le]; omega
  · rw [fa_lt]; omega
  · intro e; rw [fa_eq] at e; omega
  · intro e; rw [fa_eq] at e; omega
theorem fa_of_nlt {a b : Int32} (h : ¬ a < b) : b ≤ a := by
  rw [fa_lt] at h
  rw [fa_le]
  omega
theorem fa_of_nle {a b : Int32} (h : ¬ a ≤ b) : b < a := by
  rw [fa_le] at h
  rw [fa_lt]
  omega
theorem fa_le_ne {a b : Int32} (h : a ≤ b) (h2 : a ≠ b) : a < b := by
  rw [fa_le] at h
  rw [fa_lt]
  have h3 : a.toInt ≠ b.toInt := fun e => h2 ((fa_eq a b).mpr e)
  omega
theorem fa_three (a b : Int32) : a < b ∨ a = b ∨ b < a := by
  rw [fa_lt, fa_lt, fa_eq]
  omega
theorem fa_trans {a b c : Int32} (h : a < b) (h2 : b ≤ c) : a < c := by
  rw [fa_lt] at *
  rw [fa_le] at h2
  omega
/-! ===== small literals as numbers ===== -/
theorem fa_lit (n : Nat) : (OfNat.ofNat n : Int32) = nI n := rfl
theorem fa_litL (n : Nat) : (OfNat.ofNat n : Int64) = lN n := rfl
/-! ===== bits of a number: 'or', masks, one bit ===== -/
theorem fa_and (a b : Nat) : nI a &&& nI b = nI (a &&& b) := by
  apply Int32.toBitVec_inj.1
  show BitVec.ofNat 32 a &&& BitVec.ofNat 32 b = BitVec.ofNat 32 (a &&& b)
  apply BitVec.eq_of_getLsbD_eq
  intro i hi
  simp [hi]
theorem fa_or (a b : Nat) : nI a ||| nI b = nI (a ||| b) := by
  apply Int32.toBitVec_inj.1
  show BitVec.ofNat 32 a ||| BitVec.ofNat 32 b = BitVec.ofNat 32 (a ||| b)
  apply BitVec.eq_of_getLsbD_eq
  intro i hi
  simp [hi]
/-- a remainder by a power of two, as a mask -/
theorem fa_mask (n k : Nat) : nI n &&& nI (2 ^ k - 1) = nI (n % 2 ^ k) := by rw [fa_and, Nat.and_two_pow_sub_one_eq_mod]
/-- 'or' of a high part and a low one that don't meet is their sum -/
theorem fa_or_sum {a k : Nat} (b : Nat) (h : a < 2 ^ k) : nI (2 ^ k * b) ||| nI a = nI (2 ^ k * b + a) := by rw [fa_or, Nat.two_pow_add_eq_or_of_lt h]
/-- one bit, by 'and' with a power of two -/
theorem fa_bit {n j : Nat} (hj : j < 31) : nI n &&& nI (2 ^ j) = 0 ↔ n.testBit j = false := by
  have h2 : (2 : Nat) ^ j < 2 ^ 31 := Nat.pow_lt_pow_right (by decide) hj
  have hle : n &&& 2 ^ j ≤ 2 ^ j := Nat.and_le_right
  have e : n &&& 2 ^ j = 0 ↔ n.testBit j = false := by
    constructor
    · intro h
      have h1 : (n &&& 2 ^ j).testBit j = false := by rw [h]; simp
      rw [Nat.testBit_and] at h1
      first | simpa using h1 | simpa [Nat.testBit_two_pow_self] using h1 | simpa [Nat.testBit_two_pow] using h1
    · intro h
      apply Nat.eq_of_testBit_eq
      intro i
      rw [Nat.testBit_and]
      by_cases hi : j = i
      · subst hi; simp [h]
      · first | (simp [Nat.testBit_two_pow, hi]; done) | (simp [Nat.testBit_two_pow_of_ne hi]; done)
  rw [fa_and]
  constructor
  · intro h
    apply e.mp
    rcases Nat.eq_zero_or_pos (n &&& 2 ^ j) with z | z
    · exact z
    · exact absurd h (nI_ne0 z (Nat.lt_of_le_of_lt hle h2))
  · intro h
    rw [e.mpr h]; exact nI_0
/-- a remainder by a power of two of a number that isn't negative, as Java divides -/
theorem fa_rem {a k : Nat} (ha : a < 2 ^ 31) (hk : k < 31) : nI a - nI a / nI (2 ^ k) * nI (2 ^ k) = nI (a % 2 ^ k) := pk_rem ha (Nat.two_pow_pos k) (Nat.pow_lt_pow_right (by decide) hk)
/-! ===== how many places have a property ===== -/
def fb_ct (p : Nat → Bool) : Nat → Nat
  | 0 => 0
  | n + 1 => fb_ct p n + (if p n then 1 else 0)
theorem fb_ct_succ (p : Nat → Bool) (n : Nat) : fb_ct p (n + 1) = fb_ct p n + (if p n then 1 else 0) := rfl
theorem fb_ct_le (p : Nat → Bool) : ∀ n, fb_ct p n ≤ n
  | 0 => Nat.le_refl _
  | n + 1 => by
    have h := fb_ct_le p n
    rw [fb_ct_succ]
    split <;> omega
theorem fb_ct_step (p : Nat → Bool) (m : Nat) : ∀ n, fb_ct p m ≤ fb_ct p (m + n)
  | 0 => Nat.le_refl _
  | n + 1 => by
    have h := fb_ct_step p m n
    show fb_ct p m ≤ fb_ct p (m + n + 1)
    rw [fb_ct_succ]
    omega
theorem fb_ct_mono (p : Nat → Bool) {m n : Nat} (h : m ≤ n) : fb_ct p m ≤ fb_ct p n := by
  have := fb_ct_step p m (n - m)
  rwa [Nat.add_sub_cancel' h] at this
theorem fb_ct_cong {p q : Nat → Bool} : ∀ {n : Nat}, (∀ k, k < n → p k = q k) → fb_ct p n = fb_ct q n
  | 0, _ => rfl
  | n + 1, h => by
    rw [fb_ct_succ, fb_ct_succ, fb_ct_cong (fun k hk => h k (by omega)), h n (by omega)]
/-- one place changed -/
theorem fb_ct_out (p : Nat → Bool) (b : Bool) {i n : Nat} (h : n ≤ i) : fb_ct (fun k => if k = i then b else p k) n = fb_ct p n :=
  fb_ct_cong fun k hk => if_neg (by omega)
theorem fb_ct_upd (p : Nat → Bool) (b : Bool) {i : Nat} : ∀ {n : Nat}, i < n → fb_ct (fun k => if k = i then b else p k) n + (if p i then 1 else 0) = fb_ct p n + (if b then 1 else 0)
  | 0, h => absurd h (Nat.not_lt_zero i)
  | n + 1, h => by
    rw [fb_ct_succ, fb_ct_succ]
    rcases Nat.lt_or_ge i n with q | q
    · have := fb_ct_upd p b q
      have e : (if n = i then b else p n) = p n := if_neg (by omega)
      rw [e]
      omega
    · have e : i = n := by omega
      subst e
      rw [fb_ct_out p b (Nat.le_refl _)]
      simp only [if_true]
      omega
theorem fb_ct_sub {p q : Nat → Bool} : ∀ {n : Nat}, (∀ k, k < n → p k = true → q k = true) → fb_ct p n ≤ fb_ct q n
  | 0, _ => Nat.le_refl _
  | n + 1, h => by
    have h1 := fb_ct_sub (n := n) (p := p) (q := q) (fun k hk => h k (by omega))
    have h2 := h n (by omega)
    rw [fb_ct_succ, fb_ct_succ]
    cases hp : p n <;> cases hq : q n <;> simp_all <;> omega
theorem fb_ct_or {p q : Nat → Bool} : ∀ {n : Nat}, (∀ k, k < n → ¬ (p k = true ∧ q k = true)) → fb_ct (fun k => p k || q k) n = fb_ct p n + fb_ct q n
  | 0, _ => rfl
  | n + 1, h => by
    have h1 := fb_ct_or (n := n) (p := p) (q := q) (fun k hk => h k (by omega))
    have h2 := h n (by omega)
    rw [fb_ct_succ, fb_ct_succ, fb_ct_succ, h1]
    cases hp : p n <;> cases hq : q n <;> simp_all <;> omega
theorem fb_ct_not (p : Nat → Bool) : ∀ n, fb_ct p n + fb_ct (fun k => !p k) n = n
  | 0 => rfl
  | n + 1 => by
    have h := fb_ct_not p n
    rw [fb_ct_succ, fb_ct_succ]
    cases p n <;> simp <;> omega
theorem fb_ct_split (p : Nat → Bool) (m : Nat) : ∀ n, fb_ct p (m + n) = fb_ct p m + fb_ct (fun k => p (m + k)) n
  | 0 => rfl
  | n + 1 => by
    have h := fb_ct_split p m n
    show fb_ct p (m + n + 1) = _
    rw [fb_ct_succ, fb_ct_succ, h, Nat.add_assoc]
theorem fb_ct_zero {p : Nat → Bool} : ∀ {n : Nat}, fb_ct p n = 0 ↔ ∀ k, k < n → p k = false
  | 0 => ⟨fun _ k hk => absurd hk (Nat.not_lt_zero k), fun _ => rfl⟩
  | n + 1 => by
    have h := fb_ct_zero (p := p) (n := n)
    rw [fb_ct_succ]
    constructor
    · intro e k hk
      have e1 : fb_ct p n = 0 := by omega
      rcases Nat.lt_or_ge k n with q | q
      · exact h.mp e1 k q
      · have ek : k = n := by omega
        subst ek
        cases hp : p k
        · rfl
        · simp [hp] at e
    · intro a
      rw [h.mpr (fun k hk => a k (by omega)), a n (by omega)]
      rfl
theorem fb_ct_pos {p : Nat → Bool} {n : Nat} : 0 < fb_ct p n ↔ ∃ k, k < n ∧ p k = true := by
  constructor
  · intro h
    refine Classical.byContradiction fun hx => ?_
    have := fb_ct_zero.mpr (fun k hk => by
      cases hp : p k
      · rfl
      · exact absurd ⟨k, hk, hp⟩ hx : ∀ k, k < n → p k = false)
    omega
  · rintro ⟨k, hk, hp⟩
    rcases Nat.eq_zero_or_pos (fb_ct p n) with e | e
    · have := fb_ct_zero.mp e k hk
      rw [this] at hp
      cases hp
    · exact e
theorem fb_ct_all {p : Nat → Bool} {n : Nat} : fb_ct p n = n ↔ ∀ k, k < n → p k = true := by
  have h := fb_ct_not p n
  constructor
  · intro e k hk
    have z : fb_ct (fun k => !p k) n = 0 := by omega
    have := fb_ct_zero.mp z k hk
    cases hp : p k
    · simp [hp] at this
    · rfl
  · intro a
    have z : fb_ct (fun k => !p k) n = 0 := fb_ct_zero.mpr (fun k hk => by simp [a k hk])
    omega
/-- the k-th place with the property -/
theorem fb_ct_kth {p : Nat → Bool} {k : Nat} : ∀ {n : Nat}, k < fb_ct p n → ∃ i, i < n ∧ p i = true ∧ fb_ct p i = k
  | 0, h => absurd h (Nat.not_lt_zero k)
  | n + 1, h => by
    rcases Nat.lt_or_ge k (fb_ct p n) with q | q
    · obtain ⟨i, h1, h2⟩ := fb_ct_kth q
      exact ⟨i, by omega, h2⟩
    · rw [fb_ct_succ] at h
      cases hp : p n
      · simp [hp] at h; omega
      · simp [hp] at h
        exact ⟨n, by omega, hp, by omega⟩
theorem fb_ct_kth_one {p : Nat → Bool} {i j : Nat} (hi : p i = true) (hj : p j = true) (e : fb_ct p i = fb_ct p j) : i = j := by
  have key : ∀ a b : Nat, a < b → p a = true → fb_ct p a < fb_ct p b := by
    intro a b hab ha
    have h := fb_ct_mono p (show a + 1 ≤ b from hab)
    rw [fb_ct_succ, ha] at h
    simp at h
    omega
  rcases Nat.lt_trichotomy i j with q | q | q
  · have := key i j q hi; omega
  · exact q
  · have := key j i q hj; omega
/-! ===== sums over a range: one place changed, parts, bounds ===== -/
def fb_sm (f : Nat → Nat) : Nat → Nat
  | 0 => 0
  | n + 1 => fb_sm f n + f n
theorem fb_sm_succ (f : Nat → Nat) (n : Nat) : fb_sm f (n + 1) = fb_sm f n + f n := rfl
theorem fb_sm_cong {f g : Nat → Nat} : ∀ {n : Nat}, (∀ k, k < n → f k = g k) → fb_sm f n = fb_sm g n
  | 0, _ => rfl
  | n + 1, h => by rw [fb_sm_succ, fb_sm_succ, fb_sm_cong (fun k hk => h k (by omega)), h n (by omega)]
theorem fb_sm_out (f : Nat → Nat) (v : Nat) {i n : Nat} (h : n ≤ i) : fb_sm (fun k => if k = i then v else f k) n = fb_sm f n :=
  fb_sm_cong fun k hk => if_neg (by omega)
theorem fb_sm_upd (f : Nat → Nat) (v : Nat) {i : Nat} : ∀ {n : Nat}, i < n → fb_sm (fun k => if k = i then v else f k) n + f i = fb_sm f n + v
  | 0, h => absurd h (Nat.not_lt_zero i)
  | n + 1, h => by
    rw [fb_sm_succ, fb_sm_succ]
    rcases Nat.lt_or_ge i n with q | q
    · have := fb_sm_upd f v q
      have e : (if n = i then v else f n) = f n := if_neg (by omega)
      rw [e]
      omega
    · have e : i = n := by omega
      subst e
      rw [fb_sm_out f v (Nat.le_refl _)]
      simp only [if_true]
      omega
theorem fb_sm_add (f g : Nat → Nat) : ∀ n, fb_sm (fun k => f k + g k) n = fb_sm f n + fb_sm g n
  | 0 => rfl
  | n + 1 => by
    have h := fb_sm_add f g n
    rw [fb_sm_succ, fb_sm_succ, fb_sm_succ, h]
    omega
theorem fb_sm_le {f g : Nat → Nat} : ∀ {n : Nat}, (∀ k, k < n → f k ≤ g k) → fb_sm f n ≤ fb_sm g n
  | 0, _ => Nat.le_refl _
  | n + 1, h => by
    have h1 := fb_sm_le (n := n) (f := f) (g := g) (fun k hk => h k (by omega))
    have h2 := h n (by omega)
    rw [fb_sm_succ, fb_sm_succ]
    omega
theorem fb_sm_const (c : Nat) : ∀ n, fb_sm (fun _ => c) n = n * c
  | 0 => by rw [Nat.zero_mul]; rfl
  | n + 1 => by rw [fb_sm_succ, fb_sm_const c n, Nat.succ_mul]
theorem fb_sm_bound {f : Nat → Nat} {c n : Nat} (h : ∀ k, k < n → f k ≤ c) : fb_sm f n ≤ n * c := by
  rw [← fb_sm_const c n]
  exact fb_sm_le h
theorem fb_sm_mono (f : Nat → Nat) (m : Nat) : ∀ n, fb_sm f m ≤ fb_sm f (m + n)
  | 0 => Nat.le_refl _
  | n + 1 => by
    have h := fb_sm_mono f m n
    show fb_sm f m ≤ fb_sm f (m + n + 1)
    rw [fb_sm_succ]
    omega
theorem fb_sm_part (f : Nat → Nat) {i n : Nat} (h : i < n) : fb_sm f i + f i ≤ fb_sm f n := by
  have := fb_sm_mono f (i + 1) (n - (i + 1))
  rw [fb_sm_succ, show i + 1 + (n - (i + 1)) = n by omega] at this
  exact this
theorem fb_sm_split (f : Nat → Nat) (m : Nat) : ∀ n, fb_sm f (m + n) = fb_sm f m + fb_sm (fun k => f (m + k)) n
  | 0 => rfl
  | n + 1 => by
    have h := fb_sm_split f m n
    show fb_sm f (m + n + 1) = _
    rw [fb_sm_succ, fb_sm_succ, h, Nat.add_assoc]
theorem fb_sm_zero {f : Nat → Nat} {n : Nat} (h : fb_sm f n = 0) : ∀ k, k < n → f k = 0 := fun k hk => by
  have := fb_sm_part f hk
  omega
/-- the same over whole numbers -/
def fb_si (f : Nat → Int) : Nat → Int
  | 0 => 0
  | n + 1 => fb_si f n + f n
theorem fb_si_succ (f : Nat → Int) (n : Nat) : fb_si f (n + 1) = fb_si f n + f n := rfl
theorem fb_si_cong {f g : Nat → Int} : ∀ {n : Nat}, (∀ k, k < n → f k = g k) → fb_si f n = fb_si g n
  | 0, _ => rfl
  | n + 1, h => by rw [fb_si_succ, fb_si_succ, fb_si_cong (fun k hk => h k (by omega)), h n (by omega)]
theorem fb_si_out (f : Nat → Int) (v : Int) {i n : Nat} (h : n ≤ i) : fb_si (fun k => if k = i then v else f k) n = fb_si f n :=
  fb_si_cong fun k hk => if_neg (by omega)
theorem fb_si_upd (f : Nat → Int) (v : Int) {i : Nat} : ∀ {n : Nat}, i < n → fb_si (fun k => if k = i then v else f k) n = fb_si f n - f i + v
  | 0, h => absurd h (Nat.not_lt_zero i)
  | n + 1, h => by
    rw [fb_si_succ, fb_si_succ]
    rcases Nat.lt_or_ge i n with q | q
    · have := fb_si_upd f v q
      have e : (if n = i then v else f n) = f n := if_neg (by omega)
      rw [e]
      omega
    · have e : i = n := by omega
      subst e
      rw [fb_si_out f v (Nat.le_refl _)]
      simp only [if_true]
      omega
theorem fb_si_add (f g : Nat → Int) : ∀ n, fb_si (fun k => f k + g k) n = fb_si f n + fb_si g n
  | 0 => rfl
  | n + 1 => by
    have h := fb_si_add f g n
    rw [fb_si_succ, fb_si_succ, fb_si_succ, h]
    omega
theorem fb_si_sub (f g : Nat → Int) : ∀ n, fb_si (fun k => f k - g k) n = fb_si f n - fb_si g n
  | 0 => rfl
  | n + 1 => by
    have h := fb_si_sub f g n
    rw [fb_si_succ, fb_si_succ, fb_si_succ, h]
    omega
theorem fb_si_mul (c : Int) (f : Nat → Int) : ∀ n, fb_si (fun k => c * f k) n = c * fb_si f n
  | 0 => (Int.mul_zero c).symm
  | n + 1 => by
    have h := fb_si_mul c f n
    rw [fb_si_succ, fb_si_succ, h, Int.mul_add]
theorem fb_si_split (f : Nat → Int) (m : Nat) : ∀ n, fb_si f (m + n) = fb_si f m + fb_si (fun k => f (m + k)) n
  | 0 => (Int.add_zero _).symm
  | n + 1 => by
    have h := fb_si_split f m n
    show fb_si f (m + n + 1) = _
    rw [fb_si_succ, fb_si_succ, h, Int.add_assoc]
theorem fb_si_nat (f : Nat → Nat) : ∀ n, fb_si (fun k => (f k : Int)) n = (fb_sm f n : Int)
  | 0 => rfl
  | n + 1 => by
    have h := fb_si_nat f n
    rw [fb_si_succ, fb_sm_succ, h]
    omega
theorem fb_si_bound {f : Nat → Int} {c : Int} (hc : 0 ≤ c) : ∀ {n : Nat}, (∀ k, k < n → -c ≤ f k ∧ f k ≤ c) → -(n * c) ≤ fb_si f n ∧ fb_si f n ≤ n * c
  | 0, _ => by simp [fb_si]
  | n + 1, h => by
    have h1 := fb_si_bound (n := n) (f := f) hc (fun k hk => h k (by omega))
    have h2 := h n (by omega)
    have e : ((n + 1 : Nat) : Int) * c = n * c + c := by rw [Int.natCast_add, Int.add_mul]; simp
    rw [fb_si_succ, e]
    omega
theorem fb_lN_inj {a b : Nat} (ha : a < 2 ^ 63) (hb : b < 2 ^ 63) : lN a = lN b ↔ a = b := by
  constructor
  · intro h
    have h1 : (BitVec.ofNat 64 a).toNat = (BitVec.ofNat 64 b).toNat := congrArg (fun x : Int64 => x.toBitVec.toNat) h
    rw [BitVec.toNat_ofNat, BitVec.toNat_ofNat, Nat.mod_eq_of_lt (by omega), Nat.mod_eq_of_lt (by omega)] at h1
    exact h1
  · rintro rfl; rfl
theorem fb_bit_nat (n j : Nat) : n &&& 2 ^ j = 0 ↔ n.testBit j = false := by
  constructor
  · intro h
    have h1 : (n &&& 2 ^ j).testBit j = false := by rw [h]; simp
    rw [Nat.testBit_and] at h1
    simpa using h1
  · intro h
    apply Nat.eq_of_testBit_eq
    intro i
    rw [Nat.testBit_and]
    by_cases hi : j = i
    · subst hi; simp [h]
    · first | (simp [Nat.testBit_two_pow, hi]; done) | (simp [Nat.testBit_two_pow_of_ne hi]; done)
theorem fb_first {p : Nat → Prop} [DecidablePred p] : ∀ {n : Nat}, (∃ i, i < n ∧ p i) → ∃ i, i < n ∧ p i ∧ ∀ j, j < i → ¬ p j
  | 0, h => by obtain ⟨i, hi, -⟩ := h; exact absurd hi (Nat.not_lt_zero i)
  | n + 1, h => by
    by_cases q : ∃ i, i < n ∧ p i
    · obtain ⟨i, h1, h2⟩ := fb_first q
      exact ⟨i, by omega, h2⟩
    · obtain ⟨i, h1, h2⟩ := h
      have e : i = n := by
        rcases Nat.lt_or_ge i n with r | r
        · exact absurd ⟨i, r, h2⟩ q
        · omega
      subst e
      exact ⟨i, by omega, h2, fun j hj hp => q ⟨j, hj, hp⟩⟩
theorem fb_first_one {p : Nat → Prop} {i j : Nat} (hi : p i) (hi2 : ∀ k, k < i → ¬ p k) (hj : p j) (hj2 : ∀ k, k < j → ¬ p k) : i = j := by
  rcases Nat.lt_trichotomy i j with q | q | q
  · exact absurd hi (hj2 i q)
  · exact q
  · exact absurd hj (hi2 j q)
/-! ===== signed ints as whole numbers, within bounds ===== -/
theorem fb_rng (x : Int32) : -2147483648 ≤ x.toInt ∧ x.toInt < 2147483648 := by
  have h1 := Int32.le_toInt x
  have h2 := Int32.toInt_lt x
  omega
theorem fb_bmod {z : Int} (h1 : -2147483648 ≤ z) (h2 : z < 2147483648) : z.bmod (2 ^ 32) = z := by
  rw [Int.bmod_eq_of_le (by omega) (by omega)]
theorem fb_addI {x y : Int32} (h1 : -2147483648 ≤ x.toInt + y.toInt) (h2 : x.toInt + y.toInt < 2147483648) : (x + y).toInt = x.toInt + y.toInt := by
  rw [Int32.toInt_add, fb_bmod h1 h2]
theorem fb_subI {x y : Int32} (h1 : -2147483648 ≤ x.toInt - y.toInt) (h2 : x.toInt - y.toInt < 2147483648) : (x - y).toInt = x.toInt - y.toInt := by
  rw [Int32.toInt_sub, fb_bmod h1 h2]
theorem fb_mulI {x y : Int32} (h1 : -2147483648 ≤ x.toInt * y.toInt) (h2 : x.toInt * y.toInt < 2147483648) : (x * y).toInt = x.toInt * y.toInt := by
  rw [Int32.toInt_mul, fb_bmod h1 h2]
theorem fb_negI {x : Int32} (h : x.toInt ≠ -2147483648) : (-x).toInt = -x.toInt := by
  have := fb_rng x
  rw [Int32.toInt_neg, fb_bmod (by omega) (by omega)]
theorem fb_ofI {z : Int} (h1 : -2147483648 ≤ z) (h2 : z < 2147483648) : (Int32.ofInt z).toInt = z := by
  rw [Int32.toInt_ofInt, fb_bmod h1 h2]
theorem fb_asI (x : Int32) : Int32.ofInt x.toInt = x := Int32.ofInt_toInt x
theorem fb_rngL (x : Int64) : -9223372036854775808 ≤ x.toInt ∧ x.toInt < 9223372036854775808 := by
  have h1 := Int64.le_toInt x
  have h2 := Int64.toInt_lt x
  omega
theorem fb_bmodL {z : Int} (h1 : -9223372036854775808 ≤ z) (h2 : z < 9223372036854775808) : z.bmod (2 ^ 64) = z := by
  rw [Int.bmod_eq_of_le (by omega) (by omega)]
end
section
/-! LEVEL 2, the numbers: an int as the whole number that it stands for -/
def iv (x : Int) : Int32 := Int32.ofInt x
theorem iv_to {x : Int} (h : -2147483648 ≤ x ∧ x < 2147483648 := by omega) : (iv x).toInt = x := fb_ofI h.1 h.2
theorem iv_of (x : Int32) : iv x.toInt = x := Int32.ofInt_toInt x
theorem iv_add (a b : Int) : iv a + iv b = iv (a + b) := (Int32.ofInt_add a b).symm
theorem iv_sub (a b : Int) : iv a - iv b = iv (a - b) := (Int32.ofInt_sub a b).symm
theorem iv_mul (a b : Int) : iv a * iv b = iv (a * b) := (Int32.ofInt_mul a b).symm
theorem iv_neg (a : Int) : -iv a = iv (-a) := (Int32.ofInt_neg a).symm
theorem iv_nI (n : Nat) : nI n = iv (n : Int) := (Int32.ofInt_eq_ofNat).symm
theorem iv_inj {a b : Int} (ha : -2147483648 ≤ a ∧ a < 2147483648 := by omega) (hb : -2147483648 ≤ b ∧ b < 2147483648 := by omega) : iv a = iv b ↔ a = b := by
  rw [fa_eq, iv_to ha, iv_to hb]
theorem iv_lt {a b : Int} (ha : -2147483648 ≤ a ∧ a < 2147483648 := by omega) (hb : -2147483648 ≤ b ∧ b < 2147483648 := by omega) : iv a < iv b ↔ a < b := by
  rw [fa_lt, iv_to ha, iv_to hb]
theorem iv_le {a b : Int} (ha : -2147483648 ≤ a ∧ a < 2147483648 := by omega) (hb : -2147483648 ≤ b ∧ b < 2147483648 := by omega) : iv a ≤ iv b ↔ a ≤ b := by
  rw [fa_le, iv_to ha, iv_to hb]
theorem iv_div {a b : Int} (ha : -2147483648 ≤ a ∧ a < 2147483648 := by omega) (hb : 0 < b ∧ b < 2147483648 := by omega) : iv a / iv b = iv (a.tdiv b) := by
  have m1 : Int32.minValue.toInt = -2147483648 := by decide
  have m2 : Int32.maxValue.toInt = 2147483647 := by decide
  exact (Int32.ofInt_tdiv (by omega) (by omega) (by omega) (by omega)).symm
theorem iv_nat {x : Int} (h : -2147483648 ≤ x ∧ x < 2147483648 := by omega) : (iv x).toNatClampNeg = x.toNat := Int32.toNatClampNeg_ofInt_of_le (by omega) (by omega)
theorem iv_long {x : Int} (h : 0 ≤ x ∧ x < 2147483648 := by omega) : (iv x).toInt64 = lN x.toNat := by
  have e : iv x = nI x.toNat := by rw [iv_nI, Int.toNat_of_nonneg h.1]
  rw [e]
  exact nI_l (by omega)
theorem c_m51 : (-51 : Int32) = iv (-51) := by decide
theorem c_m50 : (-50 : Int32) = iv (-50) := by decide
theorem c_m1 : (-1 : Int32) = iv (-1) := by decide
theorem c_0 : (0 : Int32) = iv 0 := by decide
theorem c_1 : (1 : Int32) = iv 1 := by decide
theorem c_2 : (2 : Int32) = iv 2 := by decide
theorem c_3 : (3 : Int32) = iv 3 := by decide
theorem c_5 : (5 : Int32) = iv 5 := by decide
theorem c_6 : (6 : Int32) = iv 6 := by decide
theorem c_10 : (10 : Int32) = iv 10 := by decide
theorem c_12 : (12 : Int32) = iv 12 := by decide
theorem c_50 : (50 : Int32) = iv 50 := by decide
theorem c_51 : (51 : Int32) = iv 51 := by decide
theorem c_100 : (100 : Int32) = iv 100 := by decide
theorem c_101 : (101 : Int32) = iv 101 := by decide
theorem c_150 : (150 : Int32) = iv 150 := by decide
theorem c_1024 : (1024 : Int32) = iv 1024 := by decide
theorem c_2000 : (2000 : Int32) = iv 2000 := by decide
theorem iv_one (x : Int) : iv x + 1 = iv (x + 1) := by rw [c_1, iv_add]
theorem iv_m1 (x : Int) : iv x + (-1) = iv (x - 1) := by rw [c_m1, iv_add]; rfl
/-- ifs over ints that stand for numbers -/
theorem y_lt {a b : Int} (h : a < b) (ha : -2147483648 ≤ a ∧ a < 2147483648 := by omega) (hb : -2147483648 ≤ b ∧ b < 2147483648 := by omega) : iv a < iv b := (iv_lt ha hb).mpr h
theorem n_lt {a b : Int} (h : b ≤ a) (ha : -2147483648 ≤ a ∧ a < 2147483648 := by omega) (hb : -2147483648 ≤ b ∧ b < 2147483648 := by omega) : ¬ iv a < iv b := fun z => by
  have := (iv_lt ha hb).mp z
  omega
theorem y_le {a b : Int} (h : a ≤ b) (ha : -2147483648 ≤ a ∧ a < 2147483648 := by omega) (hb : -2147483648 ≤ b ∧ b < 2147483648 := by omega) : iv a ≤ iv b := (iv_le ha hb).mpr h
theorem n_le {a b : Int} (h : b < a) (ha : -2147483648 ≤ a ∧ a < 2147483648 := by omega) (hb : -2147483648 ≤ b ∧ b < 2147483648 := by omega) : ¬ iv a ≤ iv b := fun z => by
  have := (iv_le ha hb).mp z
  omega
theorem n_eq {a b : Int} (h : a ≠ b) (ha : -2147483648 ≤ a ∧ a < 2147483648 := by omega) (hb : -2147483648 ≤ b ∧ b < 2147483648 := by omega) : ¬ iv a = iv b := fun z => h ((iv_inj ha hb).mp z)
/-! the state's places -/
theorem st_1 (k j : Nat) (x : Int32) (S : QS) (k1 j1 : Nat) : (setF k j x S).1 k1 j1 = if k1 = k ∧ j1 = j then x else S.1 k1 j1 := by
  show va_up S.1 k (upd (S.1 k) j x) k1 j1 = _
  unfold va_up upd
  by_cases h : k1 = k
  · subst h
    simp
  · simp [h]
theorem st_eq (k j : Nat) (x : Int32) (S : QS) : (setF k j x S).1 k j = x := by rw [st_1, if_pos ⟨rfl, rfl⟩]
theorem st_nek {k j : Nat} {x : Int32} {S : QS} {k1 : Nat} (h : k1 ≠ k) : (setF k j x S).1 k1 = S.1 k1 := by
  show va_up S.1 k (upd (S.1 k) j x) k1 = _
  exact va_up_ne _ _ h
theorem st_nej {k j : Nat} {x : Int32} {S : QS} {k1 j1 : Nat} (h : j1 ≠ j) : (setF k j x S).1 k1 j1 = S.1 k1 j1 := by rw [st_1, if_neg (fun z => h z.2)]
theorem st_2 (k j : Nat) (x : Int32) (S : QS) : (setF k j x S).2 = S.2 := rfl
theorem sl_1 (k : Nat) (x : Int64) (S : QS) : (setL k x S).1 = S.1 := rfl
theorem sl_eq (k : Nat) (x : Int64) (S : QS) : (setL k x S).2 k = x := va_up_self _ _ _
theorem sl_ne {k : Nat} {x : Int64} {S : QS} {k1 : Nat} (h : k1 ≠ k) : (setL k x S).2 k1 = S.2 k1 := va_up_ne _ _ h
theorem rd_iv {k n : Nat} {x : Int} {S : QS} (h : 0 ≤ x ∧ x < n) (hn : n < 2147483648 := by decide) : rdA k n (iv x) S = some (S.1 k x.toNat) := by
  unfold rdA
  rw [iv_nat, if_pos]
  intro z
  rcases z with z | z
  · rw [c_0, iv_lt] at z
    omega
  · omega
theorem wr_iv {k n : Nat} {x : Int} {y : Int32} {S : QS} (h : 0 ≤ x ∧ x < n) (hn : n < 2147483648 := by decide) : wrA k n (iv x) y S = some (setF k x.toNat y S) := by
  unfold wrA
  rw [iv_nat, if_pos]
  intro z
  rcases z with z | z
  · rw [c_0, iv_lt] at z
    omega
  · omega
theorem wz_iv {k n : Nat} {x : Int} {y : Int32} {S : QS} (h : 0 ≤ x ∧ x < n) (hy : y = 0 ∨ y = 1) (hn : n < 2147483648 := by decide) : wrZ k n (iv x) y S = some (setF k x.toNat y S) := by
  unfold wrZ
  rw [iv_nat, if_pos]
  refine ⟨?_, hy⟩
  intro z
  rcases z with z | z
  · rw [c_0, iv_lt] at z
    omega
  · omega
theorem rq_iv {b n : Nat} {x : Nat} (h : x < n) (hn : n < 2147483648 := by decide) : rdQ b n (iv x) = some (b + x) := by
  unfold rdQ
  rw [iv_nat, if_pos, Int.toNat_natCast]
  intro z
  rcases z with z | z
  · rw [c_0, iv_lt] at z
    omega
  · rw [Int.toNat_natCast] at z
    omega
theorem stZ_ok {k j : Nat} {x : Int32} {S : QS} (h : x = 0 ∨ x = 1) : stZ k j x S = some (setF k j x S) := by
  unfold stZ
  rw [if_pos h]
theorem zb_ok {x : Int32} (h : x = 0 ∨ x = 1) : zb x = some x := by
  unfold zb
  rw [if_pos h]
theorem dv_iv {a b : Int} (ha : -2147483648 ≤ a ∧ a < 2147483648 := by omega) (hb : 0 < b ∧ b < 2147483648 := by omega) : dvI (iv a) (iv b) = some (iv (a.tdiv b)) := by
  unfold dvI
  rw [if_pos (by rw [c_0]; exact n_eq (by omega)), iv_div ha hb]
theorem rm_iv {a b : Int} (ha : -2147483648 ≤ a ∧ a < 2147483648 := by omega) (hb : 0 < b ∧ b < 2147483648 := by omega) : rmI (iv a) (iv b) = some (iv (a - a.tdiv b * b)) := by
  unfold rmI
  rw [if_pos (by rw [c_0]; exact n_eq (by omega)), iv_div ha hb, iv_mul, iv_sub]
/-- what may have changed: the places of P alone -/
def Fr (P : List Nat) (S S1 : QS) : Prop := (∀ k, k ∉ P → S1.1 k = S.1 k) ∧ ∀ k, k ∉ P → S1.2 k = S.2 k
theorem Fr.rf {P : List Nat} {S : QS} : Fr P S S := ⟨fun _ _ => rfl, fun _ _ => rfl⟩
theorem Fr.tr {P : List Nat} {S S1 S2 : QS} (h : Fr P S S1) (h2 : Fr P S1 S2) : Fr P S S2 := ⟨fun k hk => (h2.1 k hk).trans (h.1 k hk), fun k hk => (h2.2 k hk).trans (h.2 k hk)⟩
theorem Fr.mono {P Q : List Nat} {S S1 : QS} (h : Fr P S S1) (hq : ∀ k, k ∈ P → k ∈ Q) : Fr Q S S1 := ⟨fun k hk => h.1 k (fun z => hk (hq k z)), fun k hk => h.2 k (fun z => hk (hq k z))⟩
theorem Fr.set {P : List Nat} {S : QS} {k j : Nat} {x : Int32} (h : k ∈ P) : Fr P S (setF k j x S) := ⟨fun _ hk => st_nek (fun z => hk (z ▸ h)), fun _ _ => rfl⟩
theorem Fr.setL {P : List Nat} {S : QS} {k : Nat} {x : Int64} (h : k ∈ P) : Fr P S (setL k x S) := ⟨fun _ _ => rfl, fun _ hk => sl_ne (fun z => hk (z ▸ h))⟩
/-! loops that count up -/
theorem up_loop {σ ρ : Type} (lp : Nat → Int32 → σ → Option ρ) (I : Int → σ → Prop) (lo hi : Int)
    (step : ∀ (fuel : Nat) (v : Int) (s : σ), lo ≤ v → v ≤ hi → I v s → ∃ s1, lp (fuel + 1) (iv v) s = lp fuel (iv (v + 1)) s1 ∧ I (v + 1) s1) :
    ∀ (n fuel : Nat) (v : Int) (s : σ), lo ≤ v → v + n = hi + 1 → n < fuel → I v s → ∃ s1 f1, lp fuel (iv v) s = lp (f1 + 1) (iv (hi + 1)) s1 ∧ I (hi + 1) s1 := by
  intro n
  induction n with
  | zero =>
    intro fuel v s h1 h2 h3 h4
    obtain ⟨f1, rfl⟩ : ∃ f1, fuel = f1 + 1 := ⟨fuel - 1, by omega⟩
    have e : v = hi + 1 := by omega
    subst e
    exact ⟨s, f1, rfl, h4⟩
  | succ n ih =>
    intro fuel v s h1 h2 h3 h4
    obtain ⟨f1, rfl⟩ : ∃ f1, fuel = f1 + 1 := ⟨fuel - 1, by omega⟩
    obtain ⟨s1, e1, i1⟩ := step f1 v s h1 (by omega) h4
    obtain ⟨s2, f2, e2, i2⟩ := ih f1 (v + 1) s1 (by omega) (by omega) (by omega) i1
    exact ⟨s2, f2, by rw [e1, e2], i2⟩
/-- a loop over -50 .. 50 that ends with its state -/
theorem loop50 {σ ρ : Type} (lp : Nat → Int32 → σ → Option ρ) (out : σ → ρ) (I : Int → σ → Prop)
    (hend : ∀ (fuel : Nat) (s : σ), lp (fuel + 1) (iv 51) s = some (out s))
    (step : ∀ (fuel : Nat) (v : Int) (s : σ), -50 ≤ v → v ≤ 50 → I v s → ∃ s1, lp (fuel + 1) (iv v) s = lp fuel (iv (v + 1)) s1 ∧ I (v + 1) s1)
    (s : σ) (h : I (-50) s) : ∃ s1, lp FU (iv (-50)) s = some (out s1) ∧ I 51 s1 := by
  obtain ⟨s1, f1, e1, i1⟩ := up_loop lp I (-50) 50 step 101 FU (-50) s (by omega) (by omega) (by decide) h
  exact ⟨s1, by rw [e1]; exact hend f1 s1, i1⟩
/-- a loop over 0 .. n - 1 that ends with its state -/
theorem loopN {σ ρ : Type} (lp : Nat → Int32 → σ → Option ρ) (out : σ → ρ) (I : Nat → σ → Prop) (n : Nat) (hn : n ≤ 1024)
    (hend : ∀ (fuel : Nat) (s : σ), I n s → lp (fuel + 1) (iv n) s = some (out s))
    (step : ∀ (fuel : Nat) (v : Nat) (s : σ), v < n → I v s → ∃ s1, lp (fuel + 1) (iv v) s = lp fuel (iv ((v + 1 : Nat) : Int)) s1 ∧ I (v + 1) s1)
    (s : σ) (h : I 0 s) : ∃ s1, lp FU (iv 0) s = some (out s1) ∧ I n s1 := by
  have key : ∀ (d fuel v : Nat) (s : σ), v + d = n → d < fuel → I v s → ∃ s1, lp fuel (iv v) s = some (out s1) ∧ I n s1 := by
    intro d
    induction d with
    | zero =>
      intro fuel v s h1 h2 h3
      obtain ⟨f1, rfl⟩ : ∃ f1, fuel = f1 + 1 := ⟨fuel - 1, by omega⟩
      have e : v = n := by omega
      subst e
      exact ⟨s, hend f1 s h3, h3⟩
    | succ d ih =>
      intro fuel v s h1 h2 h3
      obtain ⟨f1, rfl⟩ : ∃ f1, fuel = f1 + 1 := ⟨fuel - 1, by omega⟩
      obtain ⟨s1, e1, i1⟩ := step f1 v s (by omega) h3
      obtain ⟨s2, e2, i2⟩ := ih f1 (v + 1) s1 (by omega) (by omega) i1
      exact ⟨s2, by rw [e1, e2], i2⟩
  exact key n FU 0 s (by omega) (by show n < 1100; omega) h
/-- the place of a number of a speed in its row -/
def ix (v : Int) : Nat := (v + 50).toNat
theorem ix_lt {v : Int} (h : -50 ≤ v ∧ v ≤ 50) : ix v < 101 := by unfold ix; omega
theorem ix_ne {v w : Int} (hv : -50 ≤ v) (hw : -50 ≤ w) (h : v ≠ w) : ix v ≠ ix w := by unfold ix; omega
theorem sub50 (v : Int) : iv v - (-50) = iv (v + 50) := by rw [c_m50, iv_sub]; rfl
theorem rd50 {k : Nat} {v : Int} {S : QS} (h : -50 ≤ v ∧ v ≤ 50) : rdA k 101 (iv v - (-50)) S = some (S.1 k (ix v)) := by rw [sub50, rd_iv (by omega)]; rfl
theorem wr50 {k : Nat} {v : Int} {y : Int32} {S : QS} (h : -50 ≤ v ∧ v ≤ 50) : wrA k 101 (iv v - (-50)) y S = some (setF k (ix v) y S) := by rw [sub50, wr_iv (by omega)]; rfl
theorem wz50 {k : Nat} {v : Int} {y : Int32} {S : QS} (h : -50 ≤ v ∧ v ≤ 50) (hy : y = 0 ∨ y = 1) : wrZ k 101 (iv v - (-50)) y S = some (setF k (ix v) y S) := by rw [sub50, wz_iv (by omega) hy]; rfl
theorem hi50 {v : Int} (h : v ≤ 50) (h2 : -1000000 ≤ v := by omega) : ¬ (50 : Int32) < iv v := by rw [c_50]; exact n_lt h
theorem lo50 {v : Int} (h : -50 ≤ v) (h2 : v ≤ 1000000 := by omega) : ¬ iv v < (-50 : Int32) := by rw [c_m50]; exact n_lt h
theorem le50 {v : Int} (h : v ≤ 50) (h2 : -1000000 ≤ v := by omega) : iv v ≤ (50 : Int32) := by rw [c_50]; exact y_le h
theorem gt50 : (50 : Int32) < iv 51 := by decide
/-! the desk's small methods, within bounds -/
theorem s_setPrice {k : Nat} {v : Int} {y : Int32} {S : QS} (h : -50 ≤ v ∧ v ≤ 50) : f_X3_setPrice k (iv v) y S = some (setF (k + 1) (ix v) y S) := by
  unfold f_X3_setPrice
  rw [if_neg (lo50 h.1), if_neg (hi50 h.2), wr50 h]
  rfl
theorem s_priceOf {k : Nat} {v : Int} {S : QS} (h : -50 ≤ v ∧ v ≤ 50) : f_X3_priceOf k (iv v) S = some (S.1 (k + 1) (ix v)) := by
  unfold f_X3_priceOf
  rw [if_neg (lo50 h.1), if_pos (le50 h.2), rd50 h]
  rfl
theorem s_isOpen {k : Nat} {v : Int} {S : QS} (h : -50 ≤ v ∧ v ≤ 50) : f_X3_isOpen k (iv v) S = some (if S.1 (k + 1) (ix v) = -1 then 0 else 1) := by
  unfold f_X3_isOpen
  rw [s_priceOf h]
  show (if S.1 (k + 1) (ix v) = (-1) then some 0 else some 1) = _
  by_cases c : S.1 (k + 1) (ix v) = -1
  · rw [if_pos c, if_pos c]
  · rw [if_neg c, if_neg c]
theorem s_see {k : Nat} {v : Int} {S : QS} (h : -50 ≤ v ∧ v ≤ 50) : f_X3_see k (iv v) S = some (setF (k + 2) (ix v) 1 S) := by
  unfold f_X3_see
  rw [if_neg (lo50 h.1), if_neg (hi50 h.2), wz50 h (Or.inr rfl)]
  rfl
theorem s_isSeen {k : Nat} {v : Int} {S : QS} (h : -50 ≤ v ∧ v ≤ 50) : f_X3_isSeen k (iv v) S = some (if S.1 (k + 2) (ix v) = 0 then 0 else 1) := by
  unfold f_X3_isSeen
  rw [if_neg (lo50 h.1), if_neg (hi50 h.2), rd50 h]
  show (if S.1 (k + 2) (ix v) = 0 then some 0 else some 1) = _
  by_cases c : S.1 (k + 2) (ix v) = 0
  · rw [if_pos c, if_pos c]
  · rw [if_neg c, if_neg c]
theorem s_firstCount {k : Nat} {v : Int} {S : QS} (h : -50 ≤ v ∧ v ≤ 50) : f_X0_firstCount k (iv v) S = some (S.1 (k + 10) (ix v)) := by
  unfold f_X0_firstCount
  rw [if_neg (lo50 h.1), if_pos (le50 h.2), rd50 h]
  rfl
theorem s_cheaper (a b : Int32) : f_X5_cheaper a b = some (if a = -1 then b else if a ≤ b then a else b) := by
  unfold f_X5_cheaper
  by_cases c : a = -1
  · rw [if_pos c, if_pos c]
  · rw [if_neg c, if_neg c]
    by_cases d : a ≤ b
    · rw [if_pos d, if_pos d]
    · rw [if_neg d, if_neg d]
theorem s_firstFor {p v : Int} (h : -1000 ≤ v ∧ v ≤ 1000) : f_X0_firstFor (iv p) (iv v) = some (iv (if 0 ≤ v then p else -p)) := by
  unfold f_X0_firstFor
  rw [c_0]
  by_cases c : 0 ≤ v
  · rw [if_pos (y_le c), if_pos c]
  · rw [if_neg (n_le (by omega)), if_neg c, iv_neg]
end
section
/-! sums over -50 .. 50 -/
theorem ob {α β : Type} (a : α) (f : α → Option β) : (some a).bind f = f a := rfl
def smv (f : Int → Nat) (v : Int) : Nat := fb_sm (fun j => f ((j : Int) - 50)) (ix v)
def sm (f : Int → Nat) : Nat := smv f 51
theorem smv_0 (f : Int → Nat) : smv f (-50) = 0 := rfl
theorem smv_s (f : Int → Nat) {v : Int} (h : -50 ≤ v) : smv f (v + 1) = smv f v + f v := by
  unfold smv
  have e : ix (v + 1) = ix v + 1 := by unfold ix; omega
  have e2 : ((ix v : Nat) : Int) - 50 = v := by unfold ix; omega
  rw [e, fb_sm_succ, e2]
theorem smv_cong {f g : Int → Nat} {v : Int} (h : ∀ w, -50 ≤ w → w < v → f w = g w) : smv f v = smv g v := by
  unfold smv
  exact fb_sm_cong (fun k hk => h _ (by omega) (by unfold ix at hk; omega))
theorem sm_cong {f g : Int → Nat} (h : ∀ w, -50 ≤ w → w ≤ 50 → f w = g w) : sm f = sm g := smv_cong (fun w h1 h2 => h w h1 (by omega))
theorem fb_sm_0 {f : Nat → Nat} : ∀ {n : Nat}, (∀ k, k < n → f k = 0) → fb_sm f n = 0
  | 0, _ => rfl
  | n + 1, h => by rw [fb_sm_succ, fb_sm_0 (fun k hk => h k (by omega)), h n (by omega)]
theorem smv_z {f : Int → Nat} {v : Int} (h : ∀ w, -50 ≤ w → w < v → f w = 0) : smv f v = 0 := by
  unfold smv
  exact fb_sm_0 (fun k hk => h _ (by omega) (by unfold ix at hk; omega))
theorem smv_up {f : Int → Nat} {v : Int} (h1 : -50 ≤ v) (hv : v ≤ 51) (h : ∀ w, v ≤ w → w ≤ 50 → f w = 0) : smv f v = sm f := by
  have key : ∀ n : Nat, v + n ≤ 51 → smv f (v + n) = smv f v := by
    intro n
    induction n with
    | zero => intro _; simp
    | succ n ih =>
      intro hn
      have e : v + ((n + 1 : Nat) : Int) = (v + n) + 1 := by omega
      rw [e, smv_s f (by omega), ih (by omega), h (v + n) (by omega) (by omega)]
      rfl
  have := key (51 - v).toNat (by omega)
  rw [show v + ((51 - v).toNat : Int) = 51 by omega] at this
  exact this.symm
theorem fb_sm_swap (f : Nat → Nat → Nat) (m : Nat) : ∀ n, fb_sm (fun i => fb_sm (fun j => f i j) m) n = fb_sm (fun j => fb_sm (fun i => f i j) n) m
  | 0 => (fb_sm_0 (fun _ _ => rfl)).symm
  | n + 1 => by
    rw [fb_sm_succ, fb_sm_swap f m n, ← fb_sm_add]
    rfl
theorem fb_sm_mul (c : Nat) (f : Nat → Nat) : ∀ n, fb_sm (fun k => c * f k) n = c * fb_sm f n
  | 0 => rfl
  | n + 1 => by rw [fb_sm_succ, fb_sm_succ, fb_sm_mul c f n, Nat.mul_add]
theorem sm_mul (c : Nat) (f : Int → Nat) : sm (fun v => c * f v) = c * sm f := fb_sm_mul c _ _
theorem sm_swap (f : Int → Int → Nat) : sm (fun a => sm (fun b => f a b)) = sm (fun b => sm (fun a => f a b)) := fb_sm_swap (fun i j => f ((i : Int) - 50) ((j : Int) - 50)) 101 101
theorem smv_le {f : Int → Nat} {c : Nat} {v : Int} (h : ∀ w, -50 ≤ w → w < v → f w ≤ c) : smv f v ≤ ix v * c := fb_sm_bound (fun k hk => h _ (by omega) (by unfold ix at hk; omega))
theorem sm_le {f : Int → Nat} {c : Nat} (h : ∀ w, -50 ≤ w → w ≤ 50 → f w ≤ c) : sm f ≤ 101 * c := smv_le (fun w h1 h2 => h w h1 (by omega))
theorem fb_sm_pos {f : Nat → Nat} : ∀ {n : Nat}, 0 < fb_sm f n → ∃ k, k < n ∧ 0 < f k
  | 0, h => absurd h (by simp [fb_sm])
  | n + 1, h => by
    rw [fb_sm_succ] at h
    rcases Nat.eq_zero_or_pos (f n) with z | z
    · obtain ⟨k, h1, h2⟩ := fb_sm_pos (f := f) (n := n) (by omega)
      exact ⟨k, by omega, h2⟩
    · exact ⟨n, by omega, z⟩
theorem smv_pos {f : Int → Nat} {v : Int} : 0 < smv f v ↔ ∃ w, -50 ≤ w ∧ w < v ∧ 0 < f w := by
  constructor
  · intro h
    obtain ⟨k, h1, h2⟩ := fb_sm_pos h
    exact ⟨(k : Int) - 50, by omega, by unfold ix at h1; omega, h2⟩
  · rintro ⟨w, h1, h2, h3⟩
    have h4 := fb_sm_part (fun j : Nat => f ((j : Int) - 50)) (i := ix w) (n := ix v) (by unfold ix; omega)
    have e : ((ix w : Nat) : Int) - 50 = w := by unfold ix; omega
    simp only [e] at h4
    unfold smv
    omega
theorem sm_pos {f : Int → Nat} : 0 < sm f ↔ ∃ w, -50 ≤ w ∧ w ≤ 50 ∧ 0 < f w := by
  rw [show sm f = smv f 51 from rfl, smv_pos]
  constructor
  · rintro ⟨w, h1, h2, h3⟩; exact ⟨w, h1, by omega, h3⟩
  · rintro ⟨w, h1, h2, h3⟩; exact ⟨w, h1, by omega, h3⟩
/-- one place alone -/
theorem fb_sm_one (c : Nat) {i n : Nat} (h : i < n) : fb_sm (fun k => if k = i then c else 0) n = c := by
  have h1 := fb_sm_upd (fun _ => 0) c h
  have h2 : fb_sm (fun _ => 0) n = 0 := fb_sm_0 (fun _ _ => rfl)
  simp only [h2] at h1
  omega
/-- the sum read from the other end -/
theorem fb_sm_rev (f : Nat → Nat) : ∀ n, fb_sm (fun k => f (n - 1 - k)) n = fb_sm f n
  | 0 => rfl
  | n + 1 => by
    have e : fb_sm (fun k => f (n + 1 - 1 - k)) (n + 1) = f n + fb_sm (fun k => f (n - 1 - k)) n := by
      have h := fb_sm_split (fun k => f (n + 1 - 1 - k)) 1 n
      rw [Nat.add_comm 1 n] at h
      rw [h]
      have e1 : fb_sm (fun k => f (n + 1 - 1 - k)) 1 = f n := by
        show 0 + f (n + 1 - 1 - 0) = f n
        rw [Nat.zero_add]; congr 1
      rw [e1]
      congr 1
      exact fb_sm_cong (fun k hk => by congr 1; omega)
    rw [e, fb_sm_rev f n, fb_sm_succ]
    omega
theorem sm_rev (f : Int → Nat) : sm (fun v => f (-v)) = sm f := by
  show fb_sm (fun j => f (-((j : Int) - 50))) 101 = fb_sm (fun j => f ((j : Int) - 50)) 101
  rw [← fb_sm_rev (fun j => f ((j : Int) - 50)) 101]
  exact fb_sm_cong (fun k hk => by congr 1; omega)
/-- two ways to count pairs that answer each other -/
theorem fb_sm_match {P : Nat → Bool} {Q : Nat → Bool} {R : Nat → Nat → Bool} {m n : Nat} (hP : ∀ k, k < m → P k = true → ∃ j, j < n ∧ ∀ j2, j2 < n → (R k j2 = true ↔ j2 = j)) (hP0 : ∀ k, k < m → P k = false → ∀ j, j < n → R k j = false)
    (hQ : ∀ j, j < n → Q j = true → ∃ k, k < m ∧ ∀ k2, k2 < m → (R k2 j = true ↔ k2 = k)) (hQ0 : ∀ j, j < n → Q j = false → ∀ k, k < m → R k j = false) : fb_sm (fun k => if P k then 1 else 0) m = fb_sm (fun j => if Q j then 1 else 0) n := by
  have e1 : fb_sm (fun k => if P k then 1 else 0) m = fb_sm (fun k => fb_sm (fun j => if R k j then 1 else 0) n) m := by
    refine fb_sm_cong (fun k hk => ?_)
    cases hp : P k with
    | false =>
      simp only [if_false, Bool.false_eq_true]
      exact (fb_sm_0 (fun j hj => by rw [hP0 k hk hp j hj]; rfl)).symm
    | true =>
      obtain ⟨j, h1, h2⟩ := hP k hk hp
      rw [if_pos rfl]
      refine (fb_sm_one 1 h1).symm.trans (fb_sm_cong (fun j2 hj2 => ?_))
      by_cases c : j2 = j
      · rw [if_pos c, if_pos ((h2 j2 hj2).mpr c)]
      · rw [if_neg c, if_neg (fun z => c ((h2 j2 hj2).mp z))]
  have e2 : fb_sm (fun j => if Q j then 1 else 0) n = fb_sm (fun j => fb_sm (fun k => if R k j then 1 else 0) m) n := by
    refine fb_sm_cong (fun j hj => ?_)
    cases hq : Q j with
    | false =>
      simp only [if_false, Bool.false_eq_true]
      exact (fb_sm_0 (fun k hk => by rw [hQ0 j hj hq k hk]; rfl)).symm
    | true =>
      obtain ⟨k, h1, h2⟩ := hQ j hj hq
      rw [if_pos rfl]
      refine (fb_sm_one 1 h1).symm.trans (fb_sm_cong (fun k2 hk2 => ?_))
      by_cases c : k2 = k
      · rw [if_pos c, if_pos ((h2 k2 hk2).mpr c)]
      · rw [if_neg c, if_neg (fun z => c ((h2 k2 hk2).mp z))]
  rw [e1, e2, fb_sm_swap]
/-! THE SCENE: what was told -/
abbrev Vw : Type := (Nat → Int) × (Nat → Int) × (Nat → Int) × Nat × (Nat → Nat × Bool × Int × Int × Bool) × Nat × (Nat → Nat × Int × Int)
def vM (V : Vw) (c : Nat) : Int := V.1 c
def vLo (V : Vw) (r : Nat) : Int := V.2.1 r
def vHi (V : Vw) (r : Nat) : Int := V.2.2.1 r
def vNs (V : Vw) : Nat := V.2.2.2.1
def kCar (V : Vw) (s : Nat) : Nat := (V.2.2.2.2.1 s).1
def kBeh (V : Vw) (s : Nat) : Bool := (V.2.2.2.2.1 s).2.1
def kLo (V : Vw) (s : Nat) : Int := (V.2.2.2.2.1 s).2.2.1
def kHi (V : Vw) (s : Nat) : Int := (V.2.2.2.2.1 s).2.2.2.1
def kOn (V : Vw) (s : Nat) : Bool := (V.2.2.2.2.1 s).2.2.2.2
def vNt (V : Vw) : Nat := V.2.2.2.2.2.1
def tRow (V : Vw) (t : Nat) : Nat := (V.2.2.2.2.2.2 t).1
def tLo (V : Vw) (t : Nat) : Int := (V.2.2.2.2.2.2 t).2.1
def tHi (V : Vw) (t : Nat) : Int := (V.2.2.2.2.2.2 t).2.2
/-- the bounds that every telling keeps -/
def VOk (V : Vw) : Prop := (∀ c, c < 2 → 1 ≤ vM V c ∧ vM V c ≤ 100) ∧ (∀ r, r < 6 → -50 ≤ vLo V r ∧ vLo V r ≤ 50 ∧ -50 ≤ vHi V r ∧ vHi V r ≤ 50) ∧ vNs V ≤ 12 ∧ (∀ s, s < vNs V → kCar V s < 2 ∧ 0 ≤ kLo V s ∧ kLo V s ≤ 300000 ∧ 0 ≤ kHi V s ∧ kHi V s ≤ 300000) ∧ vNt V ≤ 10 ∧ ∀ t, t < vNt V → tRow V t < 6 ∧ -50 ≤ tLo V t ∧ tLo V t ≤ 50 ∧ -50 ≤ tHi V t ∧ tHi V t ≤ 50
def allB (p : Nat → Bool) : Nat → Bool
  | 0 => true
  | n + 1 => allB p n && p n
theorem allB_s (p : Nat → Bool) (n : Nat) : allB p (n + 1) = (allB p n && p n) := rfl
theorem allB_iff {p : Nat → Bool} : ∀ {n : Nat}, allB p n = true ↔ ∀ t, t < n → p t = true
  | 0 => ⟨fun _ t h => absurd h (Nat.not_lt_zero t), fun _ => rfl⟩
  | n + 1 => by
    rw [allB_s, Bool.and_eq_true, allB_iff (n := n)]
    constructor
    · rintro ⟨h1, h2⟩ t ht
      rcases Nat.lt_or_ge t n with q | q
      · exact h1 t q
      · rw [show t = n by omega]; exact h2
    · intro h
      exact ⟨fun t ht => h t (by omega), h n (by omega)⟩
/-- a tale is of this row, and not so at this number -/
def tB (V : Vw) (r : Nat) (v : Int) (t : Nat) : Bool := decide (tRow V t = r) && !(decide (tLo V t ≤ v) && decide (v ≤ tHi V t))
/-- a number that a row lets, with the first n tales of a set -/
def ltN (V : Vw) (set r : Nat) (v : Int) (n : Nat) : Bool := (decide (vLo V r ≤ v) && decide (v ≤ vHi V r)) && allB (fun t => !(tB V r v t && set.testBit t)) n
def lq (V : Vw) (set r : Nat) (v : Int) : Bool := ltN V set r v (vNt V)
/-- its price, by the first n tales -/
def prN (V : Vw) (r : Nat) (v : Int) (n : Nat) : Nat := fb_sm (fun t => if tB V r v t then 1024 + 2 ^ t else 0) n
def pq (V : Vw) (r : Nat) (v : Int) : Nat := prN V r v (vNt V)
/-- a skid that counts, of a car, on a side, and is not left out -/
def oq (V : Vw) (w : Int) (c : Nat) (b : Bool) (s : Nat) : Bool := kOn V s && (decide ((s : Int) ≠ w) && (decide (kCar V s = c) && (kBeh V s == b)))
def sLn (V : Vw) (w : Int) (c : Nat) (b : Bool) (n : Nat) : Int := fb_si (fun s => if oq V w c b s then kLo V s else 0) n
def sHn (V : Vw) (w : Int) (c : Nat) (b : Bool) (n : Nat) : Int := fb_si (fun s => if oq V w c b s then kHi V s else 0) n
def sNn (V : Vw) (w : Int) (c : Nat) (b : Bool) (n : Nat) : Nat := fb_sm (fun s => if oq V w c b s then 1 else 0) n
def sL (V : Vw) (w : Int) (c : Nat) (b : Bool) : Int := sLn V w c b (vNs V)
def sH (V : Vw) (w : Int) (c : Nat) (b : Bool) : Int := sHn V w c b (vNs V)
def sN (V : Vw) (w : Int) (c : Nat) (b : Bool) : Nat := sNn V w c b (vNs V)
def tkA (V : Vw) (w : Int) (c : Nat) (x : Int) : Bool := decide (sL V w c false ≤ x) && decide (x ≤ sH V w c false)
def tkB (V : Vw) (w : Int) (c : Nat) (x : Int) : Bool := decide (sN V w c true = 0) || (decide (sL V w c true ≤ x) && decide (x ≤ sH V w c true))
def sgq (f a : Int) : Bool := if 0 < a then decide (0 < f) else if a < 0 then decide (f < 0) else decide (0 ≤ f)
/-- FIRST f leads to AT a -/
def fq (V : Vw) (set : Nat) (w : Int) (c : Nat) (f a : Int) : Bool := sgq f a && (lq V set (3 * c) f && tkA V w c (51 * (f * f - a * a)))
def nq (V : Vw) (set : Nat) (w : Int) (c : Nat) (a : Int) : Nat := if lq V set (3 * c + 1) a then sm (fun f => if fq V set w c f a then 1 else 0) else 0
def aq (V : Vw) (set : Nat) (w : Int) (c : Nat) (p : Int) : Bool := lq V set (3 * c + 2) p && tkB V w c (51 * p * p)
def qr (V : Vw) (a b p : Int) : Int := vM V 0 * (a - p) + vM V 1 * b
def qv (V : Vw) (a b p : Int) : Int := (qr V a b p).tdiv (vM V 1)
/-- AT a, b and AFTER p of car 0 meet all that is asked beside FIRST -/
def wq (V : Vw) (set : Nat) (w : Int) (a b p : Int) : Bool := decide (b < a) && (decide (qv V a b p * vM V 1 = qr V a b p) && (decide (p ≤ qv V a b p) && (aq V set w 0 p && (aq V set w 1 (qv V a b p) && decide (vM V 0 * p * p + vM V 1 * qv V a b p * qv V a b p ≤ vM V 0 * a * a + vM V 1 * b * b)))))
def nT (V : Vw) (set : Nat) (w : Int) (a b : Int) : Nat := nq V set w 0 a * nq V set w 1 b
def nW (V : Vw) (set : Nat) (w : Int) : Nat := sm (fun a => sm (fun b => sm (fun p => if wq V set w a b p then nT V set w a b else 0)))
theorem lt_in {V : Vw} {set r n : Nat} {v : Int} (h : ltN V set r v n = true) : vLo V r ≤ v ∧ v ≤ vHi V r := by
  unfold ltN at h
  simp only [Bool.and_eq_true, decide_eq_true_eq] at h
  exact h.1
theorem lt_50 {V : Vw} (hV : VOk V) {set r n : Nat} (hr : r < 6) {v : Int} (h : ltN V set r v n = true) : -50 ≤ v ∧ v ≤ 50 := by
  have h1 := lt_in h
  have h2 := hV.2.1 r hr
  omega
theorem pr_le {V : Vw} {r n : Nat} {v : Int} (hn : n ≤ 10) : prN V r v n ≤ 10240 + 1023 := by
  have key : ∀ n, prN V r v n + 1 ≤ n * 1024 + 2 ^ n := by
    intro n
    induction n with
    | zero => simp [prN, fb_sm]
    | succ n ih =>
      have e : prN V r v (n + 1) = prN V r v n + (if tB V r v n then 1024 + 2 ^ n else 0) := fb_sm_succ _ _
      have e2 : (2 : Nat) ^ (n + 1) = 2 ^ n + 2 ^ n := by rw [Nat.pow_succ]; omega
      rw [e, e2]
      generalize 2 ^ n = z at ih ⊢
      have e3 : (n + 1) * 1024 = n * 1024 + 1024 := Nat.succ_mul n 1024
      rw [e3]
      generalize n * 1024 = y at ih ⊢
      cases tB V r v n with
      | true =>
        rw [if_pos rfl]
        omega
      | false =>
        rw [if_neg (by decide)]
        omega
  have h1 := key n
  have h2 : (2 : Nat) ^ n ≤ 2 ^ 10 := Nat.pow_le_pow_right (by decide) hn
  have h3 : (2 : Nat) ^ 10 = 1024 := by decide
  omega
theorem na_le {V : Vw} {set : Nat} {w : Int} {c : Nat} {a : Int} : nq V set w c a ≤ 101 := by
  unfold nq
  split
  · have h := sm_le (f := fun f => if fq V set w c f a then 1 else 0) (c := 1) (fun f _ _ => by split <;> omega)
    omega
  · omega
end
section
/-! THE DESK: a speed's row cleared, a tale heard, its bounds -/
def b2 (b : Bool) : Int32 := if b then 1 else 0
theorem b2_or (b : Bool) : b2 b = 0 ∨ b2 b = 1 := by cases b <;> simp [b2]
theorem b2_0 {b : Bool} : b2 b = 0 ↔ b = false := by cases b <;> decide
theorem b2_1 {b : Bool} : b2 b = 1 ↔ b = true := by cases b <;> decide
theorem b2_n {b : Bool} : ¬ b2 b = 0 ↔ b = true := by cases b <;> decide
theorem q_btw {v lo hi : Int} (hv : -2147483648 ≤ v ∧ v < 2147483648 := by omega) (h1 : -2147483648 ≤ lo ∧ lo < 2147483648 := by omega) (h2 : -2147483648 ≤ hi ∧ hi < 2147483648 := by omega) : (if iv v < iv lo then some (0 : Int32) else (if iv hi < iv v then some 0 else some 1)) = some (b2 (decide (lo ≤ v) && decide (v ≤ hi))) := by
  by_cases c : lo ≤ v
  · rw [if_neg (n_lt c hv h1)]
    by_cases d : v ≤ hi
    · rw [if_neg (n_lt d h2 hv), decide_eq_true c, decide_eq_true d]
      rfl
    · rw [if_pos (y_lt (Int.not_le.mp d) h2 hv), decide_eq_true c, decide_eq_false d]
      rfl
  · rw [if_pos (y_lt (Int.not_le.mp c) hv h1), decide_eq_false c]
    rfl
theorem nm2 {k : Nat} : k ∉ [k + 1, k + 2] := by
  intro z
  simp only [List.mem_cons, List.not_mem_nil, or_false] at z
  omega
theorem nm1 {k j : Nat} (h : k ≠ j) : k ∉ [j] := by
  intro z
  simp only [List.mem_cons, List.not_mem_nil, or_false] at z
  exact h z
theorem s_clear {k : Nat} {lo hi : Int} {S : QS} (hlo : S.1 k 0 = iv lo) (hhi : S.1 k 1 = iv hi) (h1 : -1000 ≤ lo ∧ lo ≤ 1000) (h2 : -1000 ≤ hi ∧ hi ≤ 1000) :
    ∃ S1, f_X3_clear k S = some S1 ∧ Fr [k + 1, k + 2] S S1 ∧ ∀ w, -50 ≤ w → w ≤ 50 → S1.1 (k + 1) (ix w) = (if lo ≤ w ∧ w ≤ hi then 0 else -1) ∧ S1.1 (k + 2) (ix w) = 0 := by
  have main := loop50 (fun fuel v s => lp_X3_clear_3 k fuel v s) id (fun v s => Fr [k + 1, k + 2] S s ∧ ∀ w, -50 ≤ w → w < v → s.1 (k + 1) (ix w) = (if lo ≤ w ∧ w ≤ hi then 0 else -1) ∧ s.1 (k + 2) (ix w) = 0)
    (fun fuel s => by
      show lp_X3_clear_3 k (fuel + 1) (iv 51) s = some s
      rw [lp_X3_clear_3, if_pos gt50])
    (fun fuel v s h3 h4 hI => by
      obtain ⟨i1, i2⟩ := hI
      have e0 : s.1 k 0 = iv lo := by rw [i1.1 k nm2]; exact hlo
      have e1 : s.1 k 1 = iv hi := by rw [i1.1 k nm2]; exact hhi
      have q : ((if iv v < iv lo then (some (-1)) else (if iv v ≤ iv hi then (some 0) else (some (-1)))) : Option Int32) = some (if lo ≤ v ∧ v ≤ hi then 0 else -1) := by
        by_cases c : lo ≤ v
        · rw [if_neg (n_lt (a := v) (b := lo) c)]
          by_cases d : v ≤ hi
          · rw [if_pos (y_le (a := v) (b := hi) d), if_pos ⟨c, d⟩]
          · rw [if_neg (n_le (a := v) (b := hi) (by omega)), if_neg (fun z => d z.2)]
        · rw [if_pos (y_lt (a := v) (b := lo) (by omega)), if_neg (fun z => c z.1)]
      refine ⟨setF (k + 2) (ix v) 0 (setF (k + 1) (ix v) (if lo ≤ v ∧ v ≤ hi then 0 else -1) s), ?_, ?_, ?_⟩
      · show lp_X3_clear_3 k (fuel + 1) (iv v) s = lp_X3_clear_3 k fuel (iv (v + 1)) _
        rw [lp_X3_clear_3, if_neg (hi50 h4), e0, e1, q, ob, s_setPrice ⟨h3, h4⟩, ob, wz50 ⟨h3, h4⟩ (Or.inl rfl), ob, iv_one]
      · exact (i1.tr (Fr.set (by simp))).tr (Fr.set (by simp))
      · intro w hw1 hw2
        by_cases c : w = v
        · subst c
          exact ⟨by rw [st_nek (by omega), st_eq], st_eq _ _ _ _⟩
        · have hn : ix w ≠ ix v := ix_ne hw1 h3 c
          obtain ⟨j1, j2⟩ := i2 w hw1 (by omega)
          exact ⟨by rw [st_nek (by omega), st_nej hn]; exact j1, by rw [st_nej hn, st_nek (by omega)]; exact j2⟩)
    S ⟨Fr.rf, fun w _ _ => by omega⟩
  obtain ⟨S1, e, i1, i2⟩ := main
  refine ⟨S1, ?_, i1, fun w hw1 hw2 => i2 w hw1 (by omega)⟩
  unfold f_X3_clear
  rw [c_m50]
  exact e
theorem s_hear {k t : Nat} {lo hi : Int} {a : Int32} {S : QS} (ht : t ≠ k + 1) (hlo : S.1 t 2 = iv lo) (hhi : S.1 t 3 = iv hi) (h1 : -1000 ≤ lo ∧ lo ≤ 1000) (h2 : -1000 ≤ hi ∧ hi ≤ 1000) :
    ∃ S1, f_X3_hear k t a S = some S1 ∧ Fr [k + 1] S S1 ∧ ∀ w, -50 ≤ w → w ≤ 50 → S1.1 (k + 1) (ix w) = if (decide (lo ≤ w) && decide (w ≤ hi)) = true then S.1 (k + 1) (ix w) else if S.1 (k + 1) (ix w) = -1 then -1 else if a = -1 then -1 else S.1 (k + 1) (ix w) + a := by
  obtain ⟨N, hN⟩ : ∃ N : Int → Int32, ∀ w, N w = if (decide (lo ≤ w) && decide (w ≤ hi)) = true then S.1 (k + 1) (ix w) else if S.1 (k + 1) (ix w) = -1 then -1 else if a = -1 then -1 else S.1 (k + 1) (ix w) + a := ⟨_, fun _ => rfl⟩
  have main := loop50 (fun fuel v s => lp_X3_hear_3 k t a fuel v s) id (fun v s => Fr [k + 1] S s ∧ ∀ w, -50 ≤ w → w ≤ 50 → s.1 (k + 1) (ix w) = if w < v then N w else S.1 (k + 1) (ix w))
    (fun fuel s => by
      show lp_X3_hear_3 k t a (fuel + 1) (iv 51) s = some s
      rw [lp_X3_hear_3, if_pos gt50])
    (fun fuel v s h3 h4 hI => by
      obtain ⟨i1, i2⟩ := hI
      have e0 : s.1 t 2 = iv lo := by rw [i1.1 t (nm1 ht)]; exact hlo
      have e1 : s.1 t 3 = iv hi := by rw [i1.1 t (nm1 ht)]; exact hhi
      have eo : s.1 (k + 1) (ix v) = S.1 (k + 1) (ix v) := by rw [i2 v h3 h4, if_neg (by omega)]
      have keep : N v = S.1 (k + 1) (ix v) → Fr [k + 1] S s ∧ ∀ w, -50 ≤ w → w ≤ 50 → s.1 (k + 1) (ix w) = if w < v + 1 then N w else S.1 (k + 1) (ix w) := fun hk => ⟨i1, fun w hw1 hw2 => by
        rw [i2 w hw1 hw2]
        by_cases c : w = v
        · subst c
          rw [if_neg (by omega), if_pos (by omega), hk]
        · by_cases d : w < v
          · rw [if_pos d, if_pos (by omega)]
          · rw [if_neg d, if_neg (by omega)]⟩
      have q := q_btw (v := v) (lo := lo) (hi := hi)
      by_cases c : (decide (lo ≤ v) && decide (v ≤ hi)) = true
      · refine ⟨s, ?_, keep (by rw [hN, if_pos c])⟩
        show lp_X3_hear_3 k t a (fuel + 1) (iv v) s = lp_X3_hear_3 k t a fuel (iv (v + 1)) s
        rw [lp_X3_hear_3, if_neg (hi50 h4), e0, e1, q, ob, if_neg (b2_n.mpr c), iv_one]
      · have c2 : b2 (decide (lo ≤ v) && decide (v ≤ hi)) = 0 := b2_0.mpr (by simpa using c)
        by_cases d : S.1 (k + 1) (ix v) = -1
        · refine ⟨s, ?_, keep (by rw [hN, if_neg c, if_pos d, d])⟩
          show lp_X3_hear_3 k t a (fuel + 1) (iv v) s = lp_X3_hear_3 k t a fuel (iv (v + 1)) s
          rw [lp_X3_hear_3, if_neg (hi50 h4), e0, e1, q, ob, if_pos c2, s_isOpen ⟨h3, h4⟩, eo, if_pos d, ob, if_pos rfl, iv_one]
        · refine ⟨setF (k + 1) (ix v) (N v) s, ?_, i1.tr (Fr.set (by simp)), fun w hw1 hw2 => ?_⟩
          · show lp_X3_hear_3 k t a (fuel + 1) (iv v) s = lp_X3_hear_3 k t a fuel (iv (v + 1)) _
            have q2 : ((if a = (-1) then (some (-1)) else ((f_X3_priceOf k (iv v) s).bind fun v8 => some (v8 + a))) : Option Int32) = some (N v) := by
              rw [hN, if_neg c, if_neg d]
              by_cases g : a = -1
              · rw [if_pos g, if_pos g]
              · rw [if_neg g, if_neg g, s_priceOf ⟨h3, h4⟩, ob, eo]
            rw [lp_X3_hear_3, if_neg (hi50 h4), e0, e1, q, ob, if_pos c2, s_isOpen ⟨h3, h4⟩, eo, if_neg d, ob, if_neg (by decide), q2, ob, s_setPrice ⟨h3, h4⟩, ob, iv_one]
          · by_cases g : w = v
            · subst g
              rw [st_eq, if_pos (by omega)]
            · rw [st_nej (ix_ne hw1 h3 g), i2 w hw1 hw2]
              by_cases g2 : w < v
              · rw [if_pos g2, if_pos (by omega)]
              · rw [if_neg g2, if_neg (by omega)])
    S ⟨Fr.rf, fun w hw1 hw2 => by rw [if_neg (by omega)]⟩
  obtain ⟨S1, e, i1, i2⟩ := main
  refine ⟨S1, ?_, i1, fun w hw1 hw2 => by rw [i2 w hw1 hw2, if_pos (by omega), hN]⟩
  unfold f_X3_hear
  rw [c_m50]
  exact e
theorem s_bound {k : Nat} {S : QS} : ∃ S1, f_X3_bound k S = some S1 ∧ Fr [k] S S1 ∧ S1.1 k 0 = S.1 k 0 ∧ S1.1 k 1 = S.1 k 1 ∧
    ∃ bo to : Int, S1.1 k 2 = iv bo ∧ S1.1 k 3 = iv to ∧ -50 ≤ bo ∧ bo ≤ 51 ∧ -51 ≤ to ∧ to ≤ 50 ∧ ∀ w, -50 ≤ w → w ≤ 50 → S.1 (k + 1) (ix w) ≠ -1 → bo ≤ w ∧ w ≤ to := by
  have main := loop50 (fun fuel v s => lp_X3_bound_15 k fuel v s) id (fun v s => Fr [k] S s ∧ s.1 k 0 = S.1 k 0 ∧ s.1 k 1 = S.1 k 1 ∧
      ∃ bo to : Int, s.1 k 2 = iv bo ∧ s.1 k 3 = iv to ∧ -50 ≤ bo ∧ bo ≤ 51 ∧ -51 ≤ to ∧ to < v ∧ ∀ w, -50 ≤ w → w < v → S.1 (k + 1) (ix w) ≠ -1 → bo ≤ w ∧ w ≤ to)
    (fun fuel s => by
      show lp_X3_bound_15 k (fuel + 1) (iv 51) s = some s
      rw [lp_X3_bound_15, if_pos gt50])
    (fun fuel v s h3 h4 hI => by
      obtain ⟨i1, i2, i3, bo, to, j1, j2, j3, j4, j5, j6, j7⟩ := hI
      have eo : s.1 (k + 1) (ix v) = S.1 (k + 1) (ix v) := by rw [i1.1 (k + 1) (nm1 (by omega))]
      by_cases d : S.1 (k + 1) (ix v) = -1
      · refine ⟨s, ?_, i1, i2, i3, bo, to, j1, j2, j3, j4, j5, by omega, fun w hw1 hw2 hw3 => ?_⟩
        · show lp_X3_bound_15 k (fuel + 1) (iv v) s = lp_X3_bound_15 k fuel (iv (v + 1)) s
          rw [lp_X3_bound_15, if_neg (hi50 h4), s_isOpen ⟨h3, h4⟩, eo, if_pos d, ob, if_pos rfl, iv_one]
        · by_cases c : w = v
          · subst c
            exact absurd d hw3
          · exact j7 w hw1 (by omega) hw3
      · refine ⟨setF k 3 (iv v) (setF k 2 (if iv v < s.1 k 2 then iv v else s.1 k 2) s), ?_, (i1.tr (Fr.set (by simp))).tr (Fr.set (by simp)), by rw [st_nej (by decide), st_nej (by decide)]; exact i2, by rw [st_nej (by decide), st_nej (by decide)]; exact i3,
          (if v < bo then v else bo), v, ?_, st_eq _ _ _ _, by split <;> omega, by split <;> omega, by omega, by omega, fun w hw1 hw2 hw3 => ?_⟩
        · show lp_X3_bound_15 k (fuel + 1) (iv v) s = lp_X3_bound_15 k fuel (iv (v + 1)) _
          rw [lp_X3_bound_15, if_neg (hi50 h4), s_isOpen ⟨h3, h4⟩, eo, if_neg d, ob, if_neg (by decide)]
          show lp_X3_bound_15 k fuel (iv v + 1) _ = _
          rw [iv_one]
        · rw [st_nej (by decide), st_eq, j1]
          by_cases c : v < bo
          · rw [if_pos (y_lt (a := v) (b := bo) c), if_pos c]
          · rw [if_neg (n_lt (a := v) (b := bo) (by omega)), if_neg c]
        · by_cases c : w = v
          · subst c
            split <;> omega
          · have := j7 w hw1 (by omega) hw3
            split <;> omega)
    (setF k 3 (-51) (setF k 2 51 S)) ⟨(Fr.set (by simp)).tr (Fr.set (by simp)), by rw [st_nej (by decide), st_nej (by decide)], by rw [st_nej (by decide), st_nej (by decide)], 51, -51, by rw [st_nej (by decide), st_eq, c_51], by rw [st_eq, c_m51], by omega, by omega, by omega, by omega, fun w _ _ => by omega⟩
  obtain ⟨S1, e, i1, i2, i3, bo, to, j1, j2, j3, j4, j5, j6, j7⟩ := main
  refine ⟨S1, ?_, i1, i2, i3, bo, to, j1, j2, j3, j4, j5, by omega, fun w hw1 hw2 hw3 => j7 w hw1 (by omega) hw3⟩
  unfold f_X3_bound
  show lp_X3_bound_15 k FU (-50) (setF k 3 (-51) (setF k 2 51 S)) = some S1
  rw [c_m50]
  exact e
end
section
/-! THE DESK: prices at their least, a car cleared, its sums, FIRST joined to AT -/
theorem sq_b {v : Int} (h : -50 ≤ v ∧ v ≤ 50) : 0 ≤ v * v ∧ v * v ≤ 2500 := by
  have key : ∀ n : Nat, n ≤ 50 → 0 ≤ (n : Int) * n ∧ (n : Int) * n ≤ 2500 := fun n hn => by
    refine ⟨Int.mul_nonneg (by omega) (by omega), ?_⟩
    have := Nat.mul_le_mul hn hn
    omega
  by_cases c : 0 ≤ v
  · have := key v.toNat (by omega)
    rw [Int.toNat_of_nonneg c] at this
    exact this
  · have := key (-v).toNat (by omega)
    rw [Int.toNat_of_nonneg (by omega), Int.neg_mul_neg] at this
    exact this
def MinP (m : Int32) (P : Nat → Prop) : Prop := (m = -1 ∧ ∀ x, ¬ P x) ∨ ∃ x : Nat, m = iv (x : Int) ∧ x ≤ 1000000 ∧ P x ∧ ∀ y, P y → x ≤ y
theorem MinP.cg {m : Int32} {P Q : Nat → Prop} (h : MinP m P) (e : ∀ x, P x ↔ Q x) : MinP m Q := by
  rcases h with ⟨h1, h2⟩ | ⟨x, h1, h2, h3, h4⟩
  · exact Or.inl ⟨h1, fun x z => h2 x ((e x).mpr z)⟩
  · exact Or.inr ⟨x, h1, h2, (e x).mp h3, fun y z => h4 y ((e y).mpr z)⟩
theorem MinP.none {P : Nat → Prop} (h : ∀ x, ¬ P x) : MinP (-1) P := Or.inl ⟨rfl, h⟩
theorem iv_nm1 {x : Nat} (h : x ≤ 2000000) : iv (x : Int) ≠ -1 := by
  rw [c_m1]
  exact n_eq (by omega)
theorem MinP.ne {m : Int32} {P : Nat → Prop} (h : MinP m P) : m ≠ -1 ↔ ∃ x, P x := by
  rcases h with ⟨h1, h2⟩ | ⟨x, h1, h2, h3, h4⟩
  · exact ⟨fun z => absurd h1 z, fun ⟨x, z⟩ => absurd z (h2 x)⟩
  · exact ⟨fun _ => ⟨x, h3⟩, fun _ => by rw [h1]; exact iv_nm1 (by omega)⟩
theorem MinP.eqn {m : Int32} {P : Nat → Prop} (h : MinP m P) : m = -1 ↔ ∀ x, ¬ P x := by
  constructor
  · intro z x hx
    exact (h.ne.mpr ⟨x, hx⟩) z
  · intro z
    rcases h with ⟨h1, h2⟩ | ⟨x, h1, h2, h3, h4⟩
    · exact h1
    · exact absurd h3 (z x)
theorem MinP.add {m : Int32} {P : Nat → Prop} (h : MinP m P) {x : Nat} (hx : x ≤ 1000000) : MinP (if m = -1 then iv (x : Int) else if m ≤ iv (x : Int) then m else iv (x : Int)) (fun y => P y ∨ y = x) := by
  rcases h with ⟨h1, h2⟩ | ⟨z, h1, h2, h3, h4⟩
  · rw [if_pos h1]
    exact Or.inr ⟨x, rfl, hx, Or.inr rfl, fun y hy => hy.elim (fun q => absurd q (h2 y)) (fun q => by omega)⟩
  · rw [if_neg (by rw [h1]; exact iv_nm1 (by omega)), h1]
    by_cases c : z ≤ x
    · rw [if_pos (y_le (a := z) (b := x) (by omega))]
      exact Or.inr ⟨z, rfl, h2, Or.inl h3, fun y hy => hy.elim (fun q => h4 y q) (fun q => by omega)⟩
    · rw [if_neg (n_le (a := z) (b := x) (by omega))]
      exact Or.inr ⟨x, rfl, hx, Or.inr rfl, fun y hy => hy.elim (fun q => by have := h4 y q; omega) (fun q => by omega)⟩
/-- a fixed price on top -/
theorem MinP.plus {m : Int32} {P : Nat → Prop} (h : MinP m P) {d : Nat} (hd : d ≤ 100000) (hP : ∀ x, P x → x ≤ 100000) : MinP (if m = -1 then -1 else iv (d : Int) + m) (fun y => ∃ x, P x ∧ y = d + x) := by
  rcases h with ⟨h1, h2⟩ | ⟨z, h1, h2, h3, h4⟩
  · rw [if_pos h1]
    exact MinP.none (fun y ⟨x, hx, _⟩ => h2 x hx)
  · rw [if_neg (by rw [h1]; exact iv_nm1 (by omega)), h1, iv_add]
    have hz := hP z h3
    refine Or.inr ⟨d + z, by rw [Int.natCast_add], by omega, ⟨z, h3, rfl⟩, ?_⟩
    rintro y ⟨x, hx, rfl⟩
    have := h4 x hx
    omega
/-- a car's row of first fields: what skids take -/
theorem s_takenB {k : Nat} {v bl bg : Int} {S : QS} (hv : -50 ≤ v ∧ v ≤ 50) (h1 : S.1 k 7 = iv bl) (h2 : S.1 k 8 = iv bg) (b1 : -10000000 ≤ bl ∧ bl ≤ 10000000) (b3 : -10000000 ≤ bg ∧ bg ≤ 10000000) : f_X0_isTakenBehind k (iv v) S = some (b2 (decide (bl ≤ 51 * v * v) && decide (51 * v * v ≤ bg))) := by
  unfold f_X0_isTakenBehind
  have hb : 0 ≤ v * v ∧ v * v ≤ 2500 := sq_b hv
  have e : 51 * v * v = 51 * (v * v) := Int.mul_assoc _ _ _
  rw [c_51, iv_mul, iv_mul, h1, h2]
  exact q_btw (v := 51 * v * v) (lo := bl) (hi := bg)
theorem s_takenA {k : Nat} {v p al ag : Int} {S : QS} (hv : -50 ≤ v ∧ v ≤ 50) (hp : -50 ≤ p ∧ p ≤ 50) (h1 : S.1 k 5 = iv al) (h2 : S.1 k 6 = iv ag) (b1 : -10000000 ≤ al ∧ al ≤ 10000000) (b3 : -10000000 ≤ ag ∧ ag ≤ 10000000) : f_X0_isTakenAhead k (iv p) (iv v) S = some (b2 (decide (al ≤ 51 * (p * p - v * v)) && decide (51 * (p * p - v * v) ≤ ag))) := by
  unfold f_X0_isTakenAhead
  have hb : 0 ≤ v * v ∧ v * v ≤ 2500 := sq_b hv
  have hb2 : 0 ≤ p * p ∧ p * p ≤ 2500 := sq_b hp
  have e : 51 * p * p - 51 * v * v = 51 * (p * p - v * v) := by rw [Int.mul_assoc, Int.mul_assoc, Int.mul_sub]
  rw [c_51, iv_mul, iv_mul, iv_mul, iv_mul, iv_sub, h1, h2, e]
  exact q_btw (v := 51 * (p * p - v * v)) (lo := al) (hi := ag)
/-- bounds of the sums over skids -/
theorem sLn_b {V : Vw} (hV : VOk V) (w : Int) (c : Nat) (b : Bool) : ∀ n, n ≤ vNs V → 0 ≤ sLn V w c b n ∧ sLn V w c b n ≤ 300000 * n
  | 0, _ => by simp [sLn, fb_si]
  | n + 1, h => by
    have h1 := sLn_b hV w c b n (by omega)
    have h2 := hV.2.2.2.1 n (by omega)
    have e : sLn V w c b (n + 1) = sLn V w c b n + (if oq V w c b n then kLo V n else 0) := fb_si_succ _ _
    rw [e]
    split <;> omega
theorem sHn_b {V : Vw} (hV : VOk V) (w : Int) (c : Nat) (b : Bool) : ∀ n, n ≤ vNs V → 0 ≤ sHn V w c b n ∧ sHn V w c b n ≤ 300000 * n
  | 0, _ => by simp [sHn, fb_si]
  | n + 1, h => by
    have h1 := sHn_b hV w c b n (by omega)
    have h2 := hV.2.2.2.1 n (by omega)
    have e : sHn V w c b (n + 1) = sHn V w c b n + (if oq V w c b n then kHi V n else 0) := fb_si_succ _ _
    rw [e]
    split <;> omega
theorem sL_b {V : Vw} (hV : VOk V) (w : Int) (c : Nat) (b : Bool) : 0 ≤ sL V w c b ∧ sL V w c b ≤ 3600000 := by
  have := sLn_b hV w c b (vNs V) (Nat.le_refl _)
  have := hV.2.2.1
  unfold sL
  omega
theorem sH_b {V : Vw} (hV : VOk V) (w : Int) (c : Nat) (b : Bool) : 0 ≤ sH V w c b ∧ sH V w c b ≤ 3600000 := by
  have := sHn_b hV w c b (vNs V) (Nat.le_refl _)
  have := hV.2.2.1
  unfold sH
  omega
/-- FIRST of a pace, one way or the other -/
def ff (v p : Int) : Int := if 0 ≤ v then p else -p
theorem ff_b {v p : Int} (h : -50 ≤ p ∧ p ≤ 50) : -50 ≤ ff v p ∧ ff v p ≤ 50 := by unfold ff; split <;> omega
theorem ff_sq (v p : Int) : ff v p * ff v p = p * p := by
  unfold ff
  split
  · rfl
  · rw [Int.neg_mul_neg]
theorem fq_low {V : Vw} (hV : VOk V) {set : Nat} {w : Int} {c : Nat} {v p : Int} (hv : -50 ≤ v ∧ v ≤ 50) (hp : -50 ≤ p) (h : p < v ∨ p < -v) : fq V set w c (ff v p) v = false := by
  cases hq : fq V set w c (ff v p) v with
  | false => rfl
  | true =>
    exfalso
    unfold fq at hq
    simp only [Bool.and_eq_true] at hq
    obtain ⟨h1, -, h3⟩ := hq
    unfold tkA at h3
    simp only [Bool.and_eq_true, decide_eq_true_eq] at h3
    have h4 := (sL_b hV w c false).1
    have h5 := ff_sq v p
    rw [h5] at h3
    have h6 : v * v ≤ p * p := by omega
    have hpos : 0 < p ∨ (v = 0 ∧ 0 ≤ p) := by
      unfold sgq ff at h1
      by_cases c1 : 0 < v
      · rw [if_pos c1, if_pos (by omega), decide_eq_true_eq] at h1
        exact Or.inl h1
      · by_cases c2 : v < 0
        · rw [if_neg c1, if_pos c2, if_neg (by omega), decide_eq_true_eq] at h1
          exact Or.inl (by omega)
        · rw [if_neg c1, if_neg c2, if_pos (by omega), decide_eq_true_eq] at h1
          exact Or.inr ⟨by omega, h1⟩
    rcases hpos with z | ⟨z1, z2⟩
    · by_cases c1 : 0 ≤ v
      · have h7 : p < v := by omega
        have h8 : p * p < v * v := Int.lt_of_le_of_lt (Int.mul_le_mul_of_nonneg_left (Int.le_of_lt h7) (Int.le_of_lt z)) (Int.mul_lt_mul_of_pos_right h7 (by omega))
        omega
      · have h7 : p < -v := by omega
        have h8 : p * p < (-v) * (-v) := Int.lt_of_le_of_lt (Int.mul_le_mul_of_nonneg_left (Int.le_of_lt h7) (Int.le_of_lt z)) (Int.mul_lt_mul_of_pos_right h7 (by omega))
        rw [Int.neg_mul_neg] at h8
        omega
    · omega
theorem fq_hi {V : Vw} {set : Nat} {w : Int} {c : Nat} {v p : Int} (h : v ≤ p) (h2 : -v ≤ p) : fq V set w c (ff v p) v = (lq V set (3 * c) (ff v p) && (decide (sL V w c false ≤ 51 * (p * p - v * v)) && decide (51 * (p * p - v * v) ≤ sH V w c false))) := by
  have e : sgq (ff v p) v = true := by
    unfold sgq ff
    by_cases c1 : 0 < v
    · rw [if_pos c1, if_pos (by omega), decide_eq_true_eq]
      omega
    · by_cases c2 : v < 0
      · rw [if_neg c1, if_pos c2, if_neg (by omega), decide_eq_true_eq]
        omega
      · rw [if_neg c1, if_neg c2, if_pos (by omega), decide_eq_true_eq]
        omega
  unfold fq tkA
  rw [e, ff_sq, Bool.true_and]
/-- the numbers of FIRST for one AT, counted by pace -/
theorem nq_pace {V : Vw} {set : Nat} {w : Int} {c : Nat} {v : Int} : sm (fun p => if fq V set w c (ff v p) v then 1 else 0) = sm (fun f => if fq V set w c f v then 1 else 0) := by
  by_cases c1 : 0 ≤ v
  · refine sm_cong (fun p _ _ => ?_)
    simp only [ff, if_pos c1]
  · rw [← sm_rev (fun f => if fq V set w c f v then 1 else 0)]
    refine sm_cong (fun p _ _ => ?_)
    simp only [ff, if_neg c1]
/-- what a car's places hold before FIRST is joined -/
def CF (V : Vw) (set : Nat) (w : Int) (c k : Nat) (S : QS) : Prop := S.1 k 5 = iv (sL V w c false) ∧ S.1 k 6 = iv (sH V w c false) ∧ S.1 k 7 = iv (sL V w c true) ∧ S.1 k 8 = iv (sH V w c true) ∧ S.1 k 9 = b2 (decide (sN V w c true ≠ 0)) ∧ ∀ f, -50 ≤ f → f ≤ 50 → S.1 (k + 2) (ix f) = if lq V set (3 * c) f then iv (pq V (3 * c) f : Int) else -1
theorem CF.fr {V : Vw} {set : Nat} {w : Int} {c k : Nat} {S S1 : QS} (h : CF V set w c k S) (h1 : S1.1 k = S.1 k) (h2 : S1.1 (k + 2) = S.1 (k + 2)) : CF V set w c k S1 := by
  unfold CF at h ⊢
  rw [h1, h2]
  exact h
/-- the prices of FIRST for one AT -/
def PF (V : Vw) (set : Nat) (w : Int) (c : Nat) (v : Int) : Nat → Prop := fun x => ∃ f, -50 ≤ f ∧ f ≤ 50 ∧ fq V set w c f v = true ∧ x = pq V (3 * c) f
/-- the prices of AT with FIRST -/
def PA (V : Vw) (set : Nat) (w : Int) (c : Nat) (v : Int) : Nat → Prop := fun y => lq V set (3 * c + 1) v = true ∧ ∃ x, PF V set w c v x ∧ y = pq V (3 * c + 1) v + x
theorem pq_le {V : Vw} (hV : VOk V) (r : Nat) (v : Int) : pq V r v ≤ 11263 := pr_le hV.2.2.2.2.1
theorem iv_abs {v : Int} (h : -50 ≤ v ∧ v ≤ 50) : (if 0 ≤ iv v then iv v else 0 - iv v) = iv (if 0 ≤ v then v else -v) := by
  rw [c_0]
  by_cases c : 0 ≤ v
  · rw [if_pos (y_le (a := 0) (b := v) c), if_pos c]
  · rw [if_neg (n_le (a := 0) (b := v) (by omega)), if_neg c, iv_sub]
    congr 1
    omega
theorem s_join {V : Vw} (hV : VOk V) {set : Nat} {w : Int} {c k : Nat} {S : QS} (hc : CF V set w c k S) {v : Int} (hv : -50 ≤ v ∧ v ≤ 50) (hl : lq V set (3 * c + 1) v = true) (hp : S.1 (k + 5) (ix v) = iv (pq V (3 * c + 1) v : Int)) :
    ∃ y, MinP y (PA V set w c v) ∧ f_X0_joinFirsts k (iv v) S = some (setF (k + 5) (ix v) y (setF (k + 10) (ix v) (iv (nq V set w c v : Int)) S)) := by
  obtain ⟨c5, c6, -, -, -, cF⟩ := hc
  have b1 := sL_b hV w c false
  have b3 := sH_b hV w c false
  obtain ⟨v0, hv0⟩ : ∃ v0, v0 = if 0 ≤ v then v else -v := ⟨_, rfl⟩
  have hv1 : 0 ≤ v0 ∧ v0 ≤ 50 ∧ v ≤ v0 ∧ -v ≤ v0 := by rw [hv0]; split <;> omega
  obtain ⟨G, hG⟩ : ∃ G : Int → Nat, ∀ p, G p = if fq V set w c (ff v p) v then 1 else 0 := ⟨_, fun _ => rfl⟩
  have main := up_loop (fun fuel p (s : Int32 × Int32) => lp_X0_joinFirsts_10 k (iv v) S fuel s.1 s.2 p) (fun p s => s.1 = iv (smv G p : Int) ∧ MinP s.2 (fun x => ∃ q, v0 ≤ q ∧ q < p ∧ fq V set w c (ff v q) v = true ∧ x = pq V (3 * c) (ff v q))) v0 50
    (fun fuel p s h3 h4 hI => by
      obtain ⟨i1, i2⟩ := hI
      obtain ⟨s1, s2⟩ := s
      dsimp only at i1 i2
      subst i1
      have hpr : -50 ≤ p ∧ p ≤ 50 := by omega
      have hT := s_takenA (k := k) (S := S) hv hpr c5 c6 (by omega) (by omega)
      have hFQ := fq_hi (V := V) (set := set) (w := w) (c := c) (v := v) (p := p) (by omega) (by omega)
      have hff := ff_b (v := v) hpr
      have hFv := cF (ff v p) hff.1 hff.2
      have hS := smv_s G (v := p) (by omega)
      have hq : ((if b2 (decide (sL V w c false ≤ 51 * (p * p - v * v)) && decide (51 * (p * p - v * v) ≤ sH V w c false)) = 0 then (some (-1)) else ((f_X0_firstFor (iv p) (iv v)).bind fun v9 => (f_X3_priceOf (k + 1) v9 S).bind fun v11 => some v11)) : Option Int32) = some (if fq V set w c (ff v p) v = true then iv (pq V (3 * c) (ff v p) : Int) else -1) := by
        cases ht : (decide (sL V w c false ≤ 51 * (p * p - v * v)) && decide (51 * (p * p - v * v) ≤ sH V w c false)) with
        | false =>
          rw [if_pos (by decide), if_neg]
          rw [hFQ, ht, Bool.and_false]
          decide
        | true =>
          rw [if_neg (by decide), s_firstFor (by omega), ob, show (if 0 ≤ v then p else -p) = ff v p from rfl, s_priceOf hff, ob]
          show some (S.1 (k + 2) (ix (ff v p))) = _
          rw [hFv, hFQ, ht, Bool.and_true]
      by_cases g : fq V set w c (ff v p) v = true
      · rw [if_pos g] at hq
        have hx := pq_le hV (3 * c) (ff v p)
        refine ⟨(iv (smv G (p + 1) : Int), _), ?_, rfl, MinP.cg (i2.add (x := pq V (3 * c) (ff v p)) (by omega)) (fun x => ?_)⟩
        · show lp_X0_joinFirsts_10 k (iv v) S (fuel + 1) (iv (smv G p : Int)) s2 (iv p) = lp_X0_joinFirsts_10 k (iv v) S fuel (iv (smv G (p + 1) : Int)) _ (iv (p + 1))
          rw [lp_X0_joinFirsts_10, if_neg (hi50 h4), hT, ob, hq, ob, if_neg (iv_nm1 (by omega)), s_cheaper, ob, iv_one, iv_one, hS, hG, if_pos g]
          rfl
        · constructor
          · rintro (⟨q, h5, h6, h7, h8⟩ | h5)
            · exact ⟨q, h5, by omega, h7, h8⟩
            · exact ⟨p, h3, by omega, g, h5⟩
          · rintro ⟨q, h5, h6, h7, h8⟩
            by_cases e : q = p
            · subst e
              exact Or.inr h8
            · exact Or.inl ⟨q, h5, by omega, h7, h8⟩
      · rw [if_neg g] at hq
        refine ⟨(iv (smv G p : Int), s2), ?_, ?_, MinP.cg i2 (fun x => ?_)⟩
        · show lp_X0_joinFirsts_10 k (iv v) S (fuel + 1) (iv (smv G p : Int)) s2 (iv p) = lp_X0_joinFirsts_10 k (iv v) S fuel (iv (smv G p : Int)) s2 (iv (p + 1))
          rw [lp_X0_joinFirsts_10, if_neg (hi50 h4), hT, ob, hq, ob, if_pos rfl, iv_one]
        · show iv _ = iv _
          rw [hS, hG, if_neg g]
          rfl
        · constructor
          · rintro ⟨q, h5, h6, h7, h8⟩
            exact ⟨q, h5, by omega, h7, h8⟩
          · rintro ⟨q, h5, h6, h7, h8⟩
            by_cases e : q = p
            · subst e
              exact absurd h7 g
            · exact ⟨q, h5, by omega, h7, h8⟩)
    (51 - v0).toNat FU v0 (0, -1) (by omega) (by omega) (by show _ < 1100; omega) ⟨by
      show (0 : Int32) = iv _
      rw [smv_z (fun q h1 h2 => by rw [hG, fq_low hV hv h1 (by rw [hv0] at h2; split at h2 <;> omega)]; rfl)]
      decide, MinP.none (fun x ⟨q, h1, h2, _⟩ => by omega)⟩
  obtain ⟨⟨s1, s2⟩, f1, e1, i1, i2⟩ := main
  dsimp only at i1 i2 e1
  have e2 : lp_X0_joinFirsts_10 k (iv v) S FU 0 (-1) (iv v0) = some (iv (nq V set w c v : Int), s2) := by
    rw [e1, show (50 : Int) + 1 = 51 by rfl, lp_X0_joinFirsts_10, if_pos gt50, i1]
    have e3 : smv G (50 + 1) = nq V set w c v := by
      unfold nq
      rw [if_pos hl, ← nq_pace]
      exact sm_cong (fun p _ _ => hG p)
    rw [e3]
  have hM : MinP s2 (PF V set w c v) := i2.cg (fun x => by
    constructor
    · rintro ⟨q, h1, h2, h3, h4⟩
      have := ff_b (v := v) (p := q) (by omega)
      exact ⟨ff v q, this.1, this.2, h3, h4⟩
    · rintro ⟨f, h1, h2, h3, h4⟩
      have hff : ff v (ff v f) = f := by unfold ff; split <;> omega
      refine ⟨ff v f, ?_, ?_, by rw [hff]; exact h3, by rw [hff]; exact h4⟩
      · have hb := ff_b (v := v) (p := f) ⟨h1, h2⟩
        rcases Int.lt_or_le (ff v f) v0 with z | z
        · have := fq_low hV (set := set) (w := w) (c := c) hv hb.1 (p := ff v f) (by rw [hv0] at z; split at z <;> omega)
          rw [hff, h3] at this
          cases this
        · exact z
      · have := ff_b (v := v) (p := f) ⟨h1, h2⟩
        omega)
  have hPF : ∀ x, PF V set w c v x → x ≤ 100000 := fun x ⟨f, _, _, _, h⟩ => by
    have := pq_le hV (3 * c) f
    omega
  refine ⟨if s2 = -1 then -1 else iv (pq V (3 * c + 1) v : Int) + s2, (hM.plus (d := pq V (3 * c + 1) v) (by have := pq_le hV (3 * c + 1) v; omega) hPF).cg (fun y => ⟨fun z => ⟨hl, z⟩, fun z => z.2⟩), ?_⟩
  unfold f_X0_joinFirsts
  rw [iv_abs hv, ← hv0, e2, ob]
  dsimp only
  rw [if_neg (lo50 hv.1), if_neg (hi50 hv.2), wr50 hv, ob, ob]
  have eo : (setF (k + 10) (ix v) (iv (nq V set w c v : Int)) S).1 (k + 4 + 1) (ix v) = iv (pq V (3 * c + 1) v : Int) := by
    rw [st_nek (by omega)]
    exact hp
  have q3 : ((if s2 = (-1) then (some (-1)) else ((f_X3_priceOf (k + 4) (iv v) (setF (k + 10) (ix v) (iv (nq V set w c v : Int)) S)).bind fun v19 => some (v19 + s2))) : Option Int32) = some (if s2 = -1 then -1 else iv (pq V (3 * c + 1) v : Int) + s2) := by
    by_cases g : s2 = -1
    · rw [if_pos g, if_pos g]
    · rw [if_neg g, if_neg g, s_priceOf hv, ob, eo]
  rw [q3, ob, s_setPrice hv, ob]
end
section
/-! THE DESK: a car settled -/
def Bnd (S : QS) (k : Nat) : Prop := ∃ bo to : Int, S.1 k 2 = iv bo ∧ S.1 k 3 = iv to ∧ -50 ≤ bo ∧ bo ≤ 51 ∧ -51 ≤ to ∧ to ≤ 50 ∧ ∀ u, -50 ≤ u → u ≤ 50 → S.1 (k + 1) (ix u) ≠ -1 → bo ≤ u ∧ u ≤ to
theorem Bnd.fr {S S1 : QS} {k : Nat} (h : Bnd S k) (h1 : S1.1 k = S.1 k) (h2 : S1.1 (k + 1) = S.1 (k + 1)) : Bnd S1 k := by
  unfold Bnd at h ⊢
  rw [h1, h2]
  exact h
/-- a car's places once it is settled -/
def Set1 (V : Vw) (set : Nat) (w : Int) (c k : Nat) (u : Int) (S : QS) : Prop := MinP (S.1 (k + 5) (ix u)) (PA V set w c u) ∧ (S.1 (k + 5) (ix u) ≠ -1 → S.1 (k + 10) (ix u) = iv (nq V set w c u : Int)) ∧ S.1 (k + 8) (ix u) = if aq V set w c u then iv (pq V (3 * c + 2) u : Int) else -1
theorem Set1.fr {V : Vw} {set : Nat} {w : Int} {c k : Nat} {u : Int} {S S1 : QS} (h : Set1 V set w c k u S) (h1 : S1.1 (k + 5) (ix u) = S.1 (k + 5) (ix u)) (h2 : S1.1 (k + 10) (ix u) = S.1 (k + 10) (ix u)) (h3 : S1.1 (k + 8) (ix u) = S.1 (k + 8) (ix u)) : Set1 V set w c k u S1 := by
  unfold Set1 at h ⊢
  rw [h1, h2, h3]
  exact h
theorem s_after {V : Vw} (hV : VOk V) {set : Nat} {w : Int} {c k : Nat} {S : QS} (hc : CF V set w c k S) {v : Int} (hv : -50 ≤ v ∧ v ≤ 50) (hp : S.1 (k + 8) (ix v) = if lq V set (3 * c + 2) v then iv (pq V (3 * c + 2) v : Int) else -1) :
    ∃ S1, ((if (S.1 k 9) = 0 then (some S) else ((f_X0_isTakenBehind k (iv v) S).bind fun v6 => if v6 = 0 then ((f_X3_setPrice (k + 7) (iv v) (-1) S).bind fun S8 => some S8) else (some S))) : Option QS) = some S1 ∧ Fr [k + 8] S S1 ∧ (∀ u, -50 ≤ u → u ≠ v → S1.1 (k + 8) (ix u) = S.1 (k + 8) (ix u)) ∧ S1.1 (k + 8) (ix v) = if aq V set w c v then iv (pq V (3 * c + 2) v : Int) else -1 := by
  obtain ⟨-, -, c7, c8, c9, -⟩ := hc
  have b1 := sL_b hV w c true
  have b3 := sH_b hV w c true
  rw [c9, s_takenB hv c7 c8 (by omega) (by omega), ob]
  by_cases n0 : sN V w c true = 0
  · refine ⟨S, ?_, Fr.rf, fun u _ _ => rfl, ?_⟩
    · rw [if_pos (b2_0.mpr (by simp [n0]))]
    · rw [hp]
      have e : aq V set w c v = lq V set (3 * c + 2) v := by
        unfold aq tkB
        rw [decide_eq_true n0, Bool.true_or, Bool.and_true]
      rw [e]
  · rw [if_neg (b2_n.mpr (by simp [n0]))]
    have e : aq V set w c v = (lq V set (3 * c + 2) v && (decide (sL V w c true ≤ 51 * v * v) && decide (51 * v * v ≤ sH V w c true))) := by
      unfold aq tkB
      rw [decide_eq_false n0, Bool.false_or]
    cases ht : (decide (sL V w c true ≤ 51 * v * v) && decide (51 * v * v ≤ sH V w c true)) with
    | true =>
      refine ⟨S, by rw [if_neg (by decide)], Fr.rf, fun u _ _ => rfl, ?_⟩
      rw [hp, e, ht, Bool.and_true]
    | false =>
      refine ⟨setF (k + 8) (ix v) (-1) S, ?_, Fr.set (by simp), fun u hu hne => st_nej (ix_ne hu hv.1 hne), ?_⟩
      · rw [if_pos (by decide), s_setPrice hv, ob]
      · rw [st_eq, e, ht, Bool.and_false]
        rfl
theorem s_settle {V : Vw} (hV : VOk V) {set : Nat} {w : Int} {c k : Nat} {S : QS} (hc : CF V set w c k S)
    (hA : ∀ v, -50 ≤ v → v ≤ 50 → S.1 (k + 5) (ix v) = if lq V set (3 * c + 1) v then iv (pq V (3 * c + 1) v : Int) else -1) (hB : ∀ v, -50 ≤ v → v ≤ 50 → S.1 (k + 8) (ix v) = if lq V set (3 * c + 2) v then iv (pq V (3 * c + 2) v : Int) else -1) :
    ∃ S1, f_X0_settle k S = some S1 ∧ Fr [k + 4, k + 5, k + 7, k + 8, k + 10] S S1 ∧ (S1.1 (k + 4) 0 = S.1 (k + 4) 0 ∧ S1.1 (k + 4) 1 = S.1 (k + 4) 1 ∧ S1.1 (k + 7) 0 = S.1 (k + 7) 0 ∧ S1.1 (k + 7) 1 = S.1 (k + 7) 1) ∧
      (∀ u, -50 ≤ u → u ≤ 50 → Set1 V set w c k u S1) ∧ Bnd S1 (k + 4) ∧ Bnd S1 (k + 7) := by
  have main := loop50 (fun fuel v s => lp_X0_settle_3 k fuel v s) id (fun v s => Fr [k + 5, k + 8, k + 10] S s ∧ (∀ u, -50 ≤ u → u < v → Set1 V set w c k u s) ∧ ∀ u, v ≤ u → -50 ≤ u → s.1 (k + 5) (ix u) = S.1 (k + 5) (ix u) ∧ s.1 (k + 8) (ix u) = S.1 (k + 8) (ix u))
    (fun fuel s => by
      show lp_X0_settle_3 k (fuel + 1) (iv 51) s = some s
      rw [lp_X0_settle_3, if_pos gt50])
    (fun fuel v s h3 h4 hI => by
      obtain ⟨i1, i2, i3⟩ := hI
      have hv : -50 ≤ v ∧ v ≤ 50 := ⟨h3, h4⟩
      have hc1 : CF V set w c k s := hc.fr (i1.1 k (by simp)) (i1.1 (k + 2) (by simp))
      obtain ⟨s1, e1, f1, g1, g2⟩ := s_after hV hc1 hv (by rw [(i3 v (Int.le_refl v) h3).2]; exact hB v h3 h4)
      have hc2 : CF V set w c k s1 := hc1.fr (f1.1 k (by simp)) (f1.1 (k + 2) (by simp))
      have e5 : s1.1 (k + 5) = s.1 (k + 5) := f1.1 (k + 5) (by simp)
      have e10 : s1.1 (k + 10) = s.1 (k + 10) := f1.1 (k + 10) (by simp)
      have e5v : s1.1 (k + 5) (ix v) = if lq V set (3 * c + 1) v then iv (pq V (3 * c + 1) v : Int) else -1 := by rw [e5, (i3 v (Int.le_refl v) h3).1]; exact hA v h3 h4
      have hpq := pq_le hV (3 * c + 1) v
      cases hl : lq V set (3 * c + 1) v with
      | false =>
        rw [hl] at e5v
        have e5w : s1.1 (k + 4 + 1) (ix v) = -1 := e5v
        refine ⟨s1, ?_, i1.tr (f1.mono (by simp)), fun u hu1 hu2 => ?_, fun u hu1 hu2 => ?_⟩
        · show lp_X0_settle_3 k (fuel + 1) (iv v) s = lp_X0_settle_3 k fuel (iv (v + 1)) s1
          rw [lp_X0_settle_3, if_neg (hi50 h4), e1, ob, s_isOpen hv, e5w, if_pos rfl, ob, if_pos rfl, iv_one]
        · by_cases cu : u = v
          · subst cu
            refine ⟨?_, fun z => absurd e5v z, g2⟩
            rw [show s1.1 (k + 5) (ix u) = -1 from e5v]
            exact MinP.none (fun x hx => by
              unfold PA at hx
              rw [hl] at hx
              exact absurd hx.1 (by decide))
          · exact (i2 u hu1 (by omega)).fr (by rw [e5]) (by rw [e10]) (g1 u hu1 cu)
        · exact ⟨by rw [e5]; exact (i3 u (by omega) hu2).1, by rw [g1 u hu2 (by omega)]; exact (i3 u (by omega) hu2).2⟩
      | true =>
        rw [hl] at e5v
        have e5w : s1.1 (k + 4 + 1) (ix v) = iv (pq V (3 * c + 1) v : Int) := e5v
        obtain ⟨y, hy, ey⟩ := s_join hV hc2 hv hl e5v
        refine ⟨setF (k + 5) (ix v) y (setF (k + 10) (ix v) (iv (nq V set w c v : Int)) s1), ?_, ((i1.tr (f1.mono (by simp))).tr (Fr.set (by simp))).tr (Fr.set (by simp)), fun u hu1 hu2 => ?_, fun u hu1 hu2 => ?_⟩
        · show lp_X0_settle_3 k (fuel + 1) (iv v) s = lp_X0_settle_3 k fuel (iv (v + 1)) _
          rw [lp_X0_settle_3, if_neg (hi50 h4), e1, ob, s_isOpen hv, e5w, if_neg (iv_nm1 (by omega)), ob, if_neg (by decide), ey, ob, iv_one]
        · by_cases cu : u = v
          · subst cu
            refine ⟨by rw [st_eq]; exact hy, fun _ => by rw [st_nek (by omega), st_eq], ?_⟩
            rw [st_nek (by omega), st_nek (by omega)]
            exact g2
          · have hn := ix_ne hu1 h3 cu
            exact (i2 u hu1 (by omega)).fr (by rw [st_nej hn, st_nek (by omega), e5]) (by rw [st_nek (by omega), st_nej hn, e10]) (by rw [st_nek (by omega), st_nek (by omega)]; exact g1 u hu1 cu)
        · have hn := ix_ne hu2 h3 (by omega : u ≠ v)
          exact ⟨by rw [st_nej hn, st_nek (by omega), e5]; exact (i3 u (by omega) hu2).1, by rw [st_nek (by omega), st_nek (by omega), g1 u hu2 (by omega)]; exact (i3 u (by omega) hu2).2⟩)
    S ⟨Fr.rf, fun u hu1 hu2 => by omega, fun u _ _ => ⟨rfl, rfl⟩⟩
  obtain ⟨s1, e1, i1, i2, -⟩ := main
  obtain ⟨s2, e2, f2, j1, j2, j3⟩ := s_bound (k := k + 4) (S := s1)
  obtain ⟨s3, e3, f3, l1, l2, l3⟩ := s_bound (k := k + 7) (S := s2)
  have hb1 : Bnd s2 (k + 4) := by
    obtain ⟨bo, to, p1, p2, p3, p4, p5, p6, p7⟩ := j3
    exact ⟨bo, to, p1, p2, p3, p4, p5, p6, fun u h1 h2 h3 => p7 u h1 h2 (by rw [← f2.1 (k + 4 + 1) (by simp)]; exact h3)⟩
  have hb2 : Bnd s3 (k + 7) := by
    obtain ⟨bo, to, p1, p2, p3, p4, p5, p6, p7⟩ := l3
    exact ⟨bo, to, p1, p2, p3, p4, p5, p6, fun u h1 h2 h3 => p7 u h1 h2 (by rw [← f3.1 (k + 7 + 1) (by simp)]; exact h3)⟩
  refine ⟨s3, ?_, ((i1.mono (by simp)).tr (f2.mono (by simp))).tr (f3.mono (by simp)), ⟨?_, ?_, ?_, ?_⟩, fun u hu1 hu2 => ?_, hb1.fr (f3.1 _ (by simp)) (f3.1 _ (by simp)), hb2⟩
  · unfold f_X0_settle
    rw [c_m50]
    have e1 : lp_X0_settle_3 k FU (iv (-50)) S = some s1 := e1
    rw [e1, ob, e2, ob, e3, ob]
  · rw [f3.1 (k + 4) (by simp), j1, i1.1 (k + 4) (by simp)]
  · rw [f3.1 (k + 4) (by simp), j2, i1.1 (k + 4) (by simp)]
  · rw [l1, f2.1 (k + 7) (by simp), i1.1 (k + 7) (by simp)]
  · rw [l2, f2.1 (k + 7) (by simp), i1.1 (k + 7) (by simp)]
  · exact (i2 u hu1 (by omega)).fr (by rw [f3.1 (k + 5) (by simp), f2.1 (k + 5) (by simp)]) (by rw [f3.1 (k + 10) (by simp), f2.1 (k + 10) (by simp)]) (by rw [f3.1 (k + 8) (by simp), f2.1 (k + 8) (by simp)])
end
section
/-! THE DESK: a car cleared, a skid added -/
theorem s_carclear {k : Nat} {S : QS} {lo hi : Nat → Int} (hb : ∀ j, -1000 ≤ lo j ∧ lo j ≤ 1000 ∧ -1000 ≤ hi j ∧ hi j ≤ 1000) (hS : ∀ j, j = 1 ∨ j = 4 ∨ j = 7 → S.1 (k + j) 0 = iv (lo j) ∧ S.1 (k + j) 1 = iv (hi j)) :
    ∃ S1, f_X0_clear k S = some S1 ∧ Fr [k, k + 2, k + 3, k + 5, k + 6, k + 8, k + 9] S S1 ∧ S1.1 k 0 = S.1 k 0 ∧ S1.1 k 5 = 0 ∧ S1.1 k 6 = 0 ∧ S1.1 k 7 = 0 ∧ S1.1 k 8 = 0 ∧ S1.1 k 9 = 0 ∧
      ∀ j, j = 1 ∨ j = 4 ∨ j = 7 → ∀ u, -50 ≤ u → u ≤ 50 → S1.1 (k + j + 1) (ix u) = (if lo j ≤ u ∧ u ≤ hi j then 0 else -1) ∧ S1.1 (k + j + 2) (ix u) = 0 := by
  obtain ⟨s1, e1, f1, g1⟩ := s_clear (k := k + 1) (S := S) (hS 1 (Or.inl rfl)).1 (hS 1 (Or.inl rfl)).2 ⟨(hb 1).1, (hb 1).2.1⟩ ⟨(hb 1).2.2.1, (hb 1).2.2.2⟩
  obtain ⟨s2, e2, f2, g2⟩ := s_clear (k := k + 4) (S := s1) (by rw [f1.1 (k + 4) (by simp)]; exact (hS 4 (Or.inr (Or.inl rfl))).1) (by rw [f1.1 (k + 4) (by simp)]; exact (hS 4 (Or.inr (Or.inl rfl))).2) ⟨(hb 4).1, (hb 4).2.1⟩ ⟨(hb 4).2.2.1, (hb 4).2.2.2⟩
  obtain ⟨s3, e3, f3, g3⟩ := s_clear (k := k + 7) (S := s2) (by rw [f2.1 (k + 7) (by simp), f1.1 (k + 7) (by simp)]; exact (hS 7 (Or.inr (Or.inr rfl))).1) (by rw [f2.1 (k + 7) (by simp), f1.1 (k + 7) (by simp)]; exact (hS 7 (Or.inr (Or.inr rfl))).2) ⟨(hb 7).1, (hb 7).2.1⟩ ⟨(hb 7).2.2.1, (hb 7).2.2.2⟩
  obtain ⟨s4, hs4⟩ : ∃ s4, s4 = setF k 9 0 (setF k 8 0 (setF k 7 0 (setF k 6 0 (setF k 5 0 s3)))) := ⟨_, rfl⟩
  have fk : ∀ j, j ≠ k → s4.1 j = s3.1 j := fun j hj => by rw [hs4, st_nek hj, st_nek hj, st_nek hj, st_nek hj, st_nek hj]
  have f4 : Fr [k] s3 s4 := ⟨fun j hj => fk j (fun z => hj (by simp [z])), fun j hj => by rw [hs4]; rfl⟩
  refine ⟨s4, ?_, (((f1.mono (by simp)).tr (f2.mono (by simp))).tr (f3.mono (by simp))).tr (f4.mono (by simp)), ?_, ?_, ?_, ?_, ?_, ?_, ?_⟩
  · unfold f_X0_clear
    rw [e1, ob, e2, ob, e3, ob, hs4]
    show (stZ k 9 0 (setF k 8 0 (setF k 7 0 (setF k 6 0 (setF k 5 0 s3))))).bind _ = _
    rw [stZ_ok (Or.inl rfl), ob]
  · rw [hs4, st_nej (by decide), st_nej (by decide), st_nej (by decide), st_nej (by decide), st_nej (by decide), f3.1 k (by simp <;> omega), f2.1 k (by simp <;> omega), f1.1 k (by simp <;> omega)]
  · rw [hs4, st_nej (by decide), st_nej (by decide), st_nej (by decide), st_nej (by decide), st_eq]
  · rw [hs4, st_nej (by decide), st_nej (by decide), st_nej (by decide), st_eq]
  · rw [hs4, st_nej (by decide), st_nej (by decide), st_eq]
  · rw [hs4, st_nej (by decide), st_eq]
  · rw [hs4, st_eq]
  · rintro j (rfl | rfl | rfl) u hu1 hu2
    · rw [fk (k + 1 + 1) (by omega), fk (k + 1 + 2) (by omega), f3.1 (k + 1 + 1) (by simp), f3.1 (k + 1 + 2) (by simp), f2.1 (k + 1 + 1) (by simp), f2.1 (k + 1 + 2) (by simp)]
      exact g1 u hu1 hu2
    · rw [fk (k + 4 + 1) (by omega), fk (k + 4 + 2) (by omega), f3.1 (k + 4 + 1) (by simp), f3.1 (k + 4 + 2) (by simp)]
      exact g2 u hu1 hu2
    · rw [fk (k + 7 + 1) (by omega), fk (k + 7 + 2) (by omega)]
      exact g3 u hu1 hu2
/-- a car's sums -/
def Sums (k : Nat) (al ag bl bg : Int) (bn : Bool) (S : QS) : Prop := S.1 k 5 = iv al ∧ S.1 k 6 = iv ag ∧ S.1 k 7 = iv bl ∧ S.1 k 8 = iv bg ∧ S.1 k 9 = b2 bn
theorem s_add {k t : Nat} {al ag bl bg lo hi : Int} {bn b : Bool} {S : QS} (hk : t ≠ k) (h : Sums k al ag bl bg bn S) (hb : S.1 t 1 = b2 b) (hl : S.1 t 2 = iv lo) (hh : S.1 t 3 = iv hi) :
    ∃ S1, f_X0_add k t S = some S1 ∧ Fr [k] S S1 ∧ S1.1 k 0 = S.1 k 0 ∧ Sums k (if b then al else al + lo) (if b then ag else ag + hi) (if b then bl + lo else bl) (if b then bg + hi else bg) (bn || b) S1 := by
  obtain ⟨h5, h6, h7, h8, h9⟩ := h
  unfold f_X0_add
  cases b with
  | false =>
    refine ⟨setF k 6 (iv (ag + hi)) (setF k 5 (iv (al + lo)) S), ?_, (Fr.set (by simp)).tr (Fr.set (by simp)), by rw [st_nej (by decide), st_nej (by decide)], ?_, ?_, ?_, ?_, ?_⟩
    · rw [if_pos (by rw [hb]; rfl)]
      show some (setF k 6 _ _) = _
      rw [st_nej (by decide), st_nek hk, h5, h6, hl, hh, iv_add, iv_add]
    · rw [st_nej (by decide), st_eq]; rfl
    · rw [st_eq]; rfl
    · rw [st_nej (by decide), st_nej (by decide)]; exact h7
    · rw [st_nej (by decide), st_nej (by decide)]; exact h8
    · rw [st_nej (by decide), st_nej (by decide), Bool.or_false]; exact h9
  | true =>
    refine ⟨setF k 9 1 (setF k 8 (iv (bg + hi)) (setF k 7 (iv (bl + lo)) S)), ?_, ((Fr.set (by simp)).tr (Fr.set (by simp))).tr (Fr.set (by simp)), by rw [st_nej (by decide), st_nej (by decide), st_nej (by decide)], ?_, ?_, ?_, ?_, ?_⟩
    · rw [if_neg (by rw [hb]; decide)]
      show (stZ k 9 1 (setF k 8 _ _)).bind _ = _
      rw [stZ_ok (Or.inr rfl), ob, st_nej (by decide), st_nek hk, h7, h8, hl, hh, iv_add, iv_add]
    · rw [st_nej (by decide), st_nej (by decide), st_nej (by decide)]; exact h5
    · rw [st_nej (by decide), st_nej (by decide), st_nej (by decide)]; exact h6
    · rw [st_nej (by decide), st_nej (by decide), st_eq]; rfl
    · rw [st_nej (by decide), st_eq]; rfl
    · rw [st_eq, Bool.or_true]; rfl
/-! what the desk was told, by its places -/
def kp (r : Nat) : Nat := 27 + 3 * (r % 3) + 11 * (r / 3)
def DR (V : Vw) (S : QS) : Prop := (S.1 26 0 = iv (vM V 0) ∧ S.1 37 0 = iv (vM V 1)) ∧ (∀ r, r < 6 → S.1 (kp r) 0 = iv (vLo V r) ∧ S.1 (kp r) 1 = iv (vHi V r)) ∧ S.1 0 2 = iv (vNs V : Int) ∧ S.1 0 3 = iv (vNt V : Int) ∧
  (∀ s, s < vNs V → S.1 (2 + s) 0 = iv (kCar V s : Int) ∧ S.1 (2 + s) 1 = b2 (kBeh V s) ∧ S.1 (2 + s) 2 = iv (kLo V s) ∧ S.1 (2 + s) 3 = iv (kHi V s) ∧ S.1 (2 + s) 4 = b2 (kOn V s)) ∧
  ∀ t, t < vNt V → S.1 (15 + t) 0 = iv ((tRow V t / 3 : Nat) : Int) ∧ S.1 (15 + t) 1 = iv ((tRow V t % 3 : Nat) : Int) ∧ S.1 (15 + t) 2 = iv (tLo V t) ∧ S.1 (15 + t) 3 = iv (tHi V t)
/-- the places that keep what was told -/
def Dk (S S1 : QS) : Prop := S1.1 0 2 = S.1 0 2 ∧ S1.1 0 3 = S.1 0 3 ∧ (∀ k, 1 ≤ k → k ≤ 24 → S1.1 k = S.1 k) ∧ (S1.1 26 0 = S.1 26 0 ∧ S1.1 37 0 = S.1 37 0) ∧ ∀ r, r < 6 → S1.1 (kp r) 0 = S.1 (kp r) 0 ∧ S1.1 (kp r) 1 = S.1 (kp r) 1
theorem Dk.tr {S S1 S2 : QS} (h : Dk S S1) (h2 : Dk S1 S2) : Dk S S2 := ⟨h2.1.trans h.1, h2.2.1.trans h.2.1, fun k a b => (h2.2.2.1 k a b).trans (h.2.2.1 k a b), ⟨h2.2.2.2.1.1.trans h.2.2.2.1.1, h2.2.2.2.1.2.trans h.2.2.2.1.2⟩, fun r hr => ⟨(h2.2.2.2.2 r hr).1.trans (h.2.2.2.2 r hr).1, (h2.2.2.2.2 r hr).2.trans (h.2.2.2.2 r hr).2⟩⟩
theorem Dk.rf {S : QS} : Dk S S := ⟨rfl, rfl, fun _ _ _ => rfl, ⟨rfl, rfl⟩, fun _ _ => ⟨rfl, rfl⟩⟩
theorem kp_cases {r : Nat} (h : r < 6) : kp r = 27 ∨ kp r = 30 ∨ kp r = 33 ∨ kp r = 38 ∨ kp r = 41 ∨ kp r = 44 := by
  rcases (show r = 0 ∨ r = 1 ∨ r = 2 ∨ r = 3 ∨ r = 4 ∨ r = 5 by omega) with rfl | rfl | rfl | rfl | rfl | rfl <;> decide
/-- nothing told stands at these places -/
theorem Dk.of {P : List Nat} {S S1 : QS} (h : Fr P S S1) (hP : ∀ k, k ∈ P → 25 ≤ k ∧ k ≠ 26 ∧ k ≠ 37 ∧ k ≠ 27 ∧ k ≠ 30 ∧ k ≠ 33 ∧ k ≠ 38 ∧ k ≠ 41 ∧ k ≠ 44) : Dk S S1 := by
  have ne : ∀ k, (k < 25 ∨ k = 26 ∨ k = 37 ∨ k = 27 ∨ k = 30 ∨ k = 33 ∨ k = 38 ∨ k = 41 ∨ k = 44) → S1.1 k = S.1 k := fun k hk => h.1 k (fun z => by have := hP k z; omega)
  refine ⟨by rw [ne 0 (by omega)], by rw [ne 0 (by omega)], fun k h1 h2 => ne k (by omega), ⟨by rw [ne 26 (by omega)], by rw [ne 37 (by omega)]⟩, fun r hr => ?_⟩
  have := kp_cases hr
  rw [ne (kp r) (by omega)]
  exact ⟨rfl, rfl⟩
theorem DR.dk {V : Vw} {S S1 : QS} (hV : VOk V) (h : DR V S) (hd : Dk S S1) : DR V S1 := by
  obtain ⟨h1, h2, h3, h4, h5, h6⟩ := h
  have n1 := hV.2.2.1
  have n2 := hV.2.2.2.2.1
  refine ⟨⟨hd.2.2.2.1.1.trans h1.1, hd.2.2.2.1.2.trans h1.2⟩, fun r hr => ⟨(hd.2.2.2.2 r hr).1.trans (h2 r hr).1, (hd.2.2.2.2 r hr).2.trans (h2 r hr).2⟩, hd.1.trans h3, hd.2.1.trans h4, fun s hs => ?_, fun t ht => ?_⟩
  · rw [hd.2.2.1 (2 + s) (by omega) (by omega)]
    exact h5 s hs
  · rw [hd.2.2.1 (15 + t) (by omega) (by omega)]
    exact h6 t ht
end
section
/-! THE DESK: its tales heard, its skids added -/
/-- the prices of a row by the first n tales -/
def Pz (V : Vw) (set n : Nat) (r : Nat) (S : QS) : Prop := ∀ u, -50 ≤ u → u ≤ 50 → S.1 (kp r + 1) (ix u) = if ltN V set r u n then iv (prN V r u n : Int) else -1
theorem kp_ne {r r2 : Nat} (h : r < 6) (h2 : r2 < 6) (hne : r ≠ r2) : kp r + 1 ≠ kp r2 + 1 ∧ kp r + 2 ≠ kp r2 + 1 ∧ kp r ≠ kp r2 + 1 := by
  rcases (show r = 0 ∨ r = 1 ∨ r = 2 ∨ r = 3 ∨ r = 4 ∨ r = 5 by omega) with rfl | rfl | rfl | rfl | rfl | rfl <;> rcases (show r2 = 0 ∨ r2 = 1 ∨ r2 = 2 ∨ r2 = 3 ∨ r2 = 4 ∨ r2 = 5 by omega) with rfl | rfl | rfl | rfl | rfl | rfl <;> first | exact absurd rfl hne | decide
theorem kp_pick {r : Nat} (h : r < 6) (S S2 : QS) : (f_X1_pick (iv ((r / 3 : Nat) : Int)) S).bind (fun c => f_X0_pick c (iv ((r % 3 : Nat) : Int)) S2) = some (kp r) := by
  rcases (show r = 0 ∨ r = 1 ∨ r = 2 ∨ r = 3 ∨ r = 4 ∨ r = 5 by omega) with rfl | rfl | rfl | rfl | rfl | rfl
  · rfl
  · rfl
  · rfl
  · rfl
  · rfl
  · rfl
theorem shl_iv {i : Nat} (h : i < 31) : (1 : Int32) <<< (iv (i : Int) &&& 31) = nI (2 ^ i) := (show ∀ i : Nat, i < 31 → (1 : Int32) <<< (iv (i : Int) &&& 31) = nI (2 ^ i) by decide +kernel) i h
theorem pow10 {i : Nat} (h : i < 10) : 2 ^ i ≤ 512 := by
  have := Nat.pow_le_pow_right (n := 2) (by decide) (show i ≤ 9 by omega)
  exact this
theorem ask_iv {set i : Nat} (h : i < 10) : ((if (nI set &&& nI (2 ^ i)) = 0 then (some ((1024 : Int32) + nI (2 ^ i))) else (some (-1))) : Option Int32) = some (if set.testBit i then -1 else iv ((1024 + 2 ^ i : Nat) : Int)) := by
  have hb := fa_bit (n := set) (j := i) (by omega)
  cases ht : set.testBit i with
  | true =>
    rw [if_neg (fun z => by rw [hb.mp z] at ht; cases ht), if_pos rfl]
  | false =>
    rw [if_pos (hb.mpr ht), if_neg (by decide), iv_nI, c_1024, iv_add]
    rfl
theorem ltN_s (V : Vw) (set r : Nat) (u : Int) (n : Nat) : ltN V set r u (n + 1) = (ltN V set r u n && !(tB V r u n && set.testBit n)) := by
  unfold ltN
  rw [allB_s]
  simp only [Bool.and_assoc]
theorem prN_s (V : Vw) (r : Nat) (u : Int) (n : Nat) : prN V r u (n + 1) = prN V r u n + if tB V r u n then 1024 + 2 ^ n else 0 := fb_sm_succ _ _
theorem Pz.other {V : Vw} {set n r : Nat} {S S1 : QS} (h : Pz V set n r S) (hr : tRow V n ≠ r) (hs : S1.1 (kp r + 1) = S.1 (kp r + 1)) : Pz V set (n + 1) r S1 := by
  intro u h1 h2
  have e : tB V r u n = false := by unfold tB; rw [decide_eq_false hr, Bool.false_and]
  rw [hs, ltN_s, prN_s, e, Bool.false_and, Bool.not_false, Bool.and_true, if_neg (by decide : ¬ (false = true)), Nat.add_zero]
  exact h u h1 h2
theorem s_tales {V : Vw} (hV : VOk V) {set : Nat} (hset : set < 1024) {S : QS} (hD : DR V S) (hP : ∀ r, r < 6 → Pz V set 0 r S) :
    ∃ S1, lp_X5_reckon_46 (nI set) FU 0 S = some S1 ∧ Fr [28, 31, 34, 39, 42, 45] S S1 ∧ ∀ r, r < 6 → Pz V set (vNt V) r S1 := by
  have hn := hV.2.2.2.2.1
  have main := loopN (fun fuel v s => lp_X5_reckon_46 (nI set) fuel v s) id (fun n s => Fr [28, 31, 34, 39, 42, 45] S s ∧ ∀ r, r < 6 → Pz V set n r s) (vNt V) (by omega)
    (fun fuel s hI => by
      have hd := hD.dk hV (Dk.of hI.1 (by decide))
      show lp_X5_reckon_46 (nI set) (fuel + 1) (iv (vNt V : Int)) s = some s
      rw [lp_X5_reckon_46, hd.2.2.2.1, if_pos (y_le (a := (vNt V : Int)) (b := (vNt V : Int)) (Int.le_refl _))])
    (fun fuel n s hlt hI => by
      obtain ⟨i1, i2⟩ := hI
      have hd := hD.dk hV (Dk.of i1 (by decide))
      obtain ⟨t0, t1, t2, t3⟩ := hd.2.2.2.2.2 n hlt
      have hr := (hV.2.2.2.2.2 n hlt)
      have hk := kp_cases hr.1
      obtain ⟨s1, e1, f1, g1⟩ := s_hear (k := kp (tRow V n)) (t := 15 + n) (a := if set.testBit n then -1 else iv ((1024 + 2 ^ n : Nat) : Int)) (S := s) (by omega) t2 t3 (by omega) (by omega)
      have hp := pow10 (i := n) (by omega)
      refine ⟨s1, ?_, i1.tr (f1.mono (fun j hj => by
        simp only [List.mem_cons, List.not_mem_nil, or_false] at hj ⊢
        omega)), fun r hr6 => ?_⟩
      · show lp_X5_reckon_46 (nI set) (fuel + 1) (iv (n : Int)) s = lp_X5_reckon_46 (nI set) fuel (iv ((n + 1 : Nat) : Int)) s1
        have e2 := kp_pick hr.1 s s
        have e4 := ask_iv (set := set) (i := n) (by omega)
        rw [lp_X5_reckon_46, hd.2.2.2.1, if_neg (n_le (a := (vNt V : Int)) (b := (n : Int)) (by omega)), rq_iv (by omega), ob, t0, t1, shl_iv (by omega), e4]
        cases hpk : f_X1_pick (iv ((tRow V n / 3 : Nat) : Int)) s with
        | none =>
          rw [hpk] at e2
          cases e2
        | some c =>
          rw [hpk, ob] at e2
          rw [ob, e2, ob, ob, e1, ob, iv_one]
          rfl
      · by_cases hrow : tRow V n = r
        · subst hrow
          intro u h1 h2
          rw [g1 u h1 h2, i2 _ hr6 u h1 h2, ltN_s, prN_s]
          have e : tB V (tRow V n) u n = !(decide (tLo V n ≤ u) && decide (u ≤ tHi V n)) := by unfold tB; rw [decide_eq_true rfl, Bool.true_and]
          rw [e]
          cases hb : (decide (tLo V n ≤ u) && decide (u ≤ tHi V n)) with
          | true =>
            rw [if_pos rfl, Bool.not_true, Bool.false_and, Bool.not_false, Bool.and_true, if_neg (by decide : ¬ (false = true)), Nat.add_zero]
          | false =>
            have hpr := pr_le (V := V) (r := tRow V n) (v := u) (n := n) (by omega)
            rw [if_neg (by decide), Bool.not_false, Bool.true_and, if_pos (rfl : (true = true))]
            cases hl : ltN V set (tRow V n) u n with
            | false =>
              rw [if_neg (by decide : ¬ (false = true)), if_pos rfl, Bool.false_and]
              rfl
            | true =>
              rw [if_pos (rfl : (true = true)), if_neg (iv_nm1 (by omega)), Bool.true_and]
              cases ht : set.testBit n with
              | true =>
                rw [if_pos (rfl : (true = true)), if_pos rfl]
                rfl
              | false =>
                rw [if_neg (by decide : ¬ (false = true)), if_neg (iv_nm1 (by omega)), iv_add]
                rfl
        · have hne := kp_ne hr6 hr.1 (fun z => hrow z.symm)
          exact (i2 r hr6).other hrow (f1.1 _ (by simp <;> omega)))
    S ⟨Fr.rf, hP⟩
  obtain ⟨s1, e1, i1, i2⟩ := main
  exact ⟨s1, by rw [c_0]; exact e1, i1, i2⟩
end
section
/-! THE DESK: its skids added to the cars' sums -/
theorem Dk.of2 {P : List Nat} {S S1 : QS} (h : Fr P S S1) (hP : ∀ k, k ∈ P → 25 ≤ k ∧ k ≠ 27 ∧ k ≠ 30 ∧ k ≠ 33 ∧ k ≠ 38 ∧ k ≠ 41 ∧ k ≠ 44) (h1 : S1.1 26 0 = S.1 26 0) (h2 : S1.1 37 0 = S.1 37 0) : Dk S S1 := by
  have ne : ∀ k, (k < 25 ∨ k = 27 ∨ k = 30 ∨ k = 33 ∨ k = 38 ∨ k = 41 ∨ k = 44) → S1.1 k = S.1 k := fun k hk => h.1 k (fun z => by have := hP k z; omega)
  refine ⟨by rw [ne 0 (by omega)], by rw [ne 0 (by omega)], fun k h1 h2 => ne k (by omega), ⟨h1, h2⟩, fun r hr => ?_⟩
  have := kp_cases hr
  rw [ne (kp r) (by omega)]
  exact ⟨rfl, rfl⟩
def SS (V : Vw) (w : Int) (c k n : Nat) (S : QS) : Prop := Sums k (sLn V w c false n) (sHn V w c false n) (sLn V w c true n) (sHn V w c true n) (decide (sNn V w c true n ≠ 0)) S
theorem Sums.fr {k : Nat} {al ag bl bg : Int} {bn : Bool} {S S1 : QS} (h : Sums k al ag bl bg bn S) (h1 : S1.1 k = S.1 k) : Sums k al ag bl bg bn S1 := by
  unfold Sums at h ⊢
  rw [h1]
  exact h
theorem sLn_s (V : Vw) (w : Int) (c : Nat) (b : Bool) (n : Nat) : sLn V w c b (n + 1) = sLn V w c b n + (if oq V w c b n then kLo V n else 0) := fb_si_succ _ _
theorem sHn_s (V : Vw) (w : Int) (c : Nat) (b : Bool) (n : Nat) : sHn V w c b (n + 1) = sHn V w c b n + (if oq V w c b n then kHi V n else 0) := fb_si_succ _ _
theorem sNn_s (V : Vw) (w : Int) (c : Nat) (b : Bool) (n : Nat) : sNn V w c b (n + 1) = sNn V w c b n + (if oq V w c b n then 1 else 0) := fb_sm_succ _ _
theorem SS.skip {V : Vw} {w : Int} {c k n : Nat} {S : QS} (h : SS V w c k n S) (ho : ∀ b, oq V w c b n = false) : SS V w c k (n + 1) S := by
  unfold SS at h ⊢
  rw [sLn_s, sHn_s, sLn_s, sHn_s, sNn_s, ho, ho, if_neg (by decide), if_neg (by decide), if_neg (by decide), Int.add_zero, Int.add_zero, Int.add_zero, Int.add_zero, Nat.add_zero]
  exact h
theorem SS.add {V : Vw} {w : Int} {c k n : Nat} {S1 : QS} (h1 : oq V w c (kBeh V n) n = true) (h2 : oq V w c (!kBeh V n) n = false)
    (h : Sums k (if kBeh V n then sLn V w c false n else sLn V w c false n + kLo V n) (if kBeh V n then sHn V w c false n else sHn V w c false n + kHi V n) (if kBeh V n then sLn V w c true n + kLo V n else sLn V w c true n) (if kBeh V n then sHn V w c true n + kHi V n else sHn V w c true n) (decide (sNn V w c true n ≠ 0) || kBeh V n) S1) : SS V w c k (n + 1) S1 := by
  unfold SS
  rw [sLn_s, sHn_s, sLn_s, sHn_s, sNn_s]
  cases hb : kBeh V n with
  | true =>
    rw [hb] at h h1 h2
    rw [Bool.not_true] at h2
    rw [h1, h2]
    simp only [if_true, Bool.or_true] at h
    simp only [if_true, Bool.false_eq_true, if_false, Int.add_zero]
    have e : decide (sNn V w c true n + 1 ≠ 0) = true := decide_eq_true (by omega)
    rw [e]
    exact h
  | false =>
    rw [hb] at h h1 h2
    rw [Bool.not_false] at h2
    rw [h1, h2]
    simp only [Bool.false_eq_true, if_false, Bool.or_false] at h
    simp only [if_true, Bool.false_eq_true, if_false, Int.add_zero, Nat.add_zero]
    exact h
theorem pick_iv {c : Nat} (h : c < 2) (S : QS) : f_X1_pick (iv (c : Int)) S = some (26 + 11 * c) := by
  rcases (show c = 0 ∨ c = 1 by omega) with rfl | rfl
  · rfl
  · rfl
theorem s_skids {V : Vw} (hV : VOk V) {w : Int} (hw : -1 ≤ w ∧ w ≤ 100) {S : QS} (hD : DR V S) (h0 : SS V w 0 26 0 S) (h1 : SS V w 1 37 0 S) :
    ∃ S1, lp_X5_reckon_121 (iv w) FU 0 S = some S1 ∧ Fr [26, 37] S S1 ∧ (S1.1 26 0 = S.1 26 0 ∧ S1.1 37 0 = S.1 37 0) ∧ SS V w 0 26 (vNs V) S1 ∧ SS V w 1 37 (vNs V) S1 := by
  have hn := hV.2.2.1
  have main := loopN (fun fuel v s => lp_X5_reckon_121 (iv w) fuel v s) id (fun n s => Fr [26, 37] S s ∧ (s.1 26 0 = S.1 26 0 ∧ s.1 37 0 = S.1 37 0) ∧ SS V w 0 26 n s ∧ SS V w 1 37 n s) (vNs V) (by omega)
    (fun fuel s hI => by
      have hd := hD.dk hV (Dk.of2 hI.1 (by decide) hI.2.1.1 hI.2.1.2)
      show lp_X5_reckon_121 (iv w) (fuel + 1) (iv (vNs V : Int)) s = some s
      rw [lp_X5_reckon_121, hd.2.2.1, if_pos (y_le (a := (vNs V : Int)) (b := (vNs V : Int)) (Int.le_refl _))])
    (fun fuel n s hlt hI => by
      obtain ⟨i1, i2, i3, i4⟩ := hI
      have hd := hD.dk hV (Dk.of2 i1 (by decide) i2.1 i2.2)
      obtain ⟨t0, t1, t2, t3, t4⟩ := hd.2.2.2.2.1 n hlt
      have hs := hV.2.2.2.1 n hlt
      have head : ∀ X : Option QS, (if b2 (kOn V n) = 0 then lp_X5_reckon_121 (iv w) fuel (iv (n : Int) + 1) s else if iv (n : Int) = iv w then lp_X5_reckon_121 (iv w) fuel (iv (n : Int) + 1) s else ((f_X0_add (26 + 11 * kCar V n) (2 + n) s).bind fun S29 => lp_X5_reckon_121 (iv w) fuel (iv (n : Int) + 1) S29)) = X → lp_X5_reckon_121 (iv w) (fuel + 1) (iv (n : Int)) s = X := by
        rintro X rfl
        rw [lp_X5_reckon_121, hd.2.2.1, if_neg (n_le (a := (vNs V : Int)) (b := (n : Int)) (by omega)), rq_iv (by omega), ob, t4, ob, t0, pick_iv hs.1, ob, ob]
      by_cases hon : kOn V n = true ∧ (n : Int) ≠ w
      · obtain ⟨ho, hnw⟩ := hon
        have q1 : oq V w (kCar V n) (kBeh V n) n = true := by simp [oq, ho, hnw]
        have q2 : oq V w (kCar V n) (!kBeh V n) n = false := by cases hb : kBeh V n <;> simp [oq, hb]
        have q3 : ∀ c b, c ≠ kCar V n → oq V w c b n = false := fun c b hc => by
          have e : decide (kCar V n = c) = false := decide_eq_false (fun z => hc z.symm)
          unfold oq
          rw [e, Bool.false_and, Bool.and_false, Bool.and_false]
        rcases (show kCar V n = 0 ∨ kCar V n = 1 by omega) with hc | hc
        · obtain ⟨s1, e1, f1, g0, g1⟩ := s_add (k := 26) (t := 2 + n) (b := kBeh V n) (by omega) i3 t1 t2 t3
          refine ⟨s1, ?_, i1.tr (f1.mono (by simp)), ⟨g0.trans i2.1, by rw [f1.1 37 (by decide)]; exact i2.2⟩, ?_, (SS.skip (i4 : SS V w 1 37 n s) (fun b => q3 1 b (by omega))).fr (f1.1 37 (by decide))⟩
          · refine head _ ?_
            rw [if_neg (b2_n.mpr ho), if_neg (n_eq hnw), hc, show 26 + 11 * 0 = 26 from rfl, e1, ob, iv_one]
            rfl
          · rw [hc] at q1 q2
            exact SS.add q1 q2 g1
        · obtain ⟨s1, e1, f1, g0, g1⟩ := s_add (k := 37) (t := 2 + n) (b := kBeh V n) (by omega) i4 t1 t2 t3
          refine ⟨s1, ?_, i1.tr (f1.mono (by simp)), ⟨by rw [f1.1 26 (by decide)]; exact i2.1, g0.trans i2.2⟩, (SS.skip (i3 : SS V w 0 26 n s) (fun b => q3 0 b (by omega))).fr (f1.1 26 (by decide)), ?_⟩
          · refine head _ ?_
            rw [if_neg (b2_n.mpr ho), if_neg (n_eq hnw), hc, show 26 + 11 * 1 = 37 from rfl, e1, ob, iv_one]
            rfl
          · rw [hc] at q1 q2
            exact SS.add q1 q2 g1
      · have q3 : ∀ c b, oq V w c b n = false := fun c b => by
          cases ho : kOn V n with
          | false => simp [oq, ho]
          | true =>
            have hnw : (n : Int) = w := Decidable.byContradiction (fun z => hon ⟨ho, z⟩)
            simp [oq, hnw]
        refine ⟨s, ?_, i1, i2, SS.skip i3 (q3 0), SS.skip i4 (q3 1)⟩
        refine head _ ?_
        cases ho : kOn V n with
        | false =>
          rw [if_pos (b2_0.mpr rfl), iv_one]
          rfl
        | true =>
          have hnw : (n : Int) = w := Decidable.byContradiction (fun z => hon ⟨ho, z⟩)
          rw [if_neg (by decide), if_pos (by rw [hnw]), iv_one]
          rfl)
    S ⟨Fr.rf, ⟨rfl, rfl⟩, h0, h1⟩
  obtain ⟨s1, e1, i1, i2, i3, i4⟩ := main
  exact ⟨s1, by rw [c_0]; exact e1, i1, i2, i3, i4⟩
end
section
/-! longs that count; the masses' shares; one push's meetings -/
theorem lN_le0 {n : Nat} (h : n < 2 ^ 63) : (lg_cmp (lN n) 0 ≤ 0) ↔ n = 0 := by
  rw [lg_cmp_le, show (0 : Int64) = lN 0 from rfl, fa_le64, show (lN n).toInt = (n : Int) from lg_ofNat_toInt h, show (lN 0).toInt = 0 by decide]
  omega
theorem lN_eq0 {n : Nat} (h : n < 2 ^ 63) : (lg_cmp (lN n) 0 = 0) ↔ n = 0 := by
  unfold lg_cmp
  have e0 : (lN 0).toInt = 0 := by decide
  have e1 : (lN n).toInt = (n : Int) := lg_ofNat_toInt h
  rw [show (0 : Int64) = lN 0 from rfl]
  by_cases c : n = 0
  · subst c
    simp
  · have : lN n > lN 0 := by
      show lN 0 < lN n
      rw [fa_lt64, e0, e1]
      omega
    rw [if_pos this]
    simp [c]
theorem s_share {m o : Nat} (hm : 1 ≤ m ∧ m ≤ 100) (ho : 1 ≤ o ∧ o ≤ 100) : f_X1_lowestShare (iv (m : Int)) (iv (o : Int)) = some (iv ((m / Nat.gcd m o : Nat) : Int)) := by
  have hg : 1 ≤ Nat.gcd m o := Nat.gcd_pos_of_pos_left o (by omega)
  have hgm : Nat.gcd m o ∣ m := Nat.gcd_dvd_left m o
  have hgo : Nat.gcd m o ∣ o := Nat.gcd_dvd_right m o
  have hg100 : Nat.gcd m o ≤ 100 := Nat.le_trans (Nat.le_of_dvd (by omega) hgm) hm.2
  have rem : ∀ {x p : Nat}, x ≤ 100 → 1 ≤ p → p ≤ 100 → rmI (iv (x : Int)) (iv (p : Int)) = some (iv ((x % p : Nat) : Int)) := fun {x p} hx hp hp2 => by
    rw [rm_iv, ← Int.ofNat_tdiv]
    have e := Nat.div_add_mod x p
    have e2 : ((x % p : Nat) : Int) = (x : Int) - ((x / p : Nat) : Int) * (p : Int) := by
      have h := congrArg (Nat.cast : Nat → Int) e
      rw [Int.natCast_add, Int.natCast_mul] at h
      rw [Int.mul_comm ((x / p : Nat) : Int)]
      omega
    rw [e2]
  have key : ∀ p fuel : Nat, p < fuel → p ≤ 100 → Nat.gcd m o ≤ p → lp_X1_lowestShare_3 (iv (m : Int)) (iv (o : Int)) fuel (iv (p : Int)) = some (iv ((m / Nat.gcd m o : Nat) : Int)) := by
    intro p
    induction p with
    | zero => intro fuel _ _ h; omega
    | succ p ih =>
      intro fuel hf hp hgp
      obtain ⟨f1, rfl⟩ : ∃ f1, fuel = f1 + 1 := ⟨fuel - 1, by omega⟩
      rw [lp_X1_lowestShare_3]
      by_cases c1 : p = 0
      · subst c1
        have e : Nat.gcd m o = 1 := by omega
        rw [if_pos (by decide), e, Nat.div_one]
      · have u1 := Nat.mod_lt m (Nat.succ_pos p)
        have u2 := Nat.mod_lt o (Nat.succ_pos p)
        rw [if_neg (by rw [c_1]; exact n_le (by omega)), rem hm.2 (by omega) hp, ob]
        have down : Nat.gcd m o ≠ p + 1 → lp_X1_lowestShare_3 (iv (m : Int)) (iv (o : Int)) f1 (iv ((p + 1 : Nat) : Int) + (-1)) = some (iv ((m / Nat.gcd m o : Nat) : Int)) := fun hne => by
          rw [iv_m1, show ((p + 1 : Nat) : Int) - 1 = (p : Int) by omega]
          exact ih f1 (by omega) (by omega) (by omega)
        by_cases c2 : m % (p + 1) = 0
        · rw [c2, if_pos (by decide), rem ho.2 (by omega) hp, ob]
          by_cases c3 : o % (p + 1) = 0
          · have hd : p + 1 ∣ Nat.gcd m o := Nat.dvd_gcd (Nat.dvd_of_mod_eq_zero c2) (Nat.dvd_of_mod_eq_zero c3)
            have e : Nat.gcd m o = p + 1 := by
              have := Nat.le_of_dvd (by omega) hd
              omega
            rw [c3, if_pos (by decide), dv_iv, ob, ← Int.ofNat_tdiv, e]
          · generalize hz : o % (p + 1) = z9 at c3 u2 ⊢
            rw [if_neg (by rw [c_0]; exact n_eq (by omega))]
            exact down (fun z => c3 (hz ▸ Nat.mod_eq_zero_of_dvd (z ▸ hgo)))
        · generalize hz : m % (p + 1) = z9 at c2 u1 ⊢
          rw [if_neg (by rw [c_0]; exact n_eq (by omega))]
          exact down (fun z => c2 (hz ▸ Nat.mod_eq_zero_of_dvd (z ▸ hgm)))
  unfold f_X1_lowestShare
  rw [c_100]
  exact key 100 FU (by decide) (by decide) hg100
end
section
/-! one push: the meetings of one AT of car 0 -/
theorem MinP.join {m n : Int32} {P Q : Nat → Prop} (h : MinP m P) (h2 : MinP n Q) (hn : n ≠ -1) : MinP (if m = -1 then n else if m ≤ n then m else n) (fun x => P x ∨ Q x) := by
  rcases h2 with ⟨z, -⟩ | ⟨y, g1, g2, g3, g4⟩
  · exact absurd z hn
  · rcases h with ⟨h1, h2⟩ | ⟨z, h1, h2, h3, h4⟩
    · rw [if_pos h1]
      exact Or.inr ⟨y, g1, g2, Or.inr g3, fun x hx => hx.elim (fun q => absurd q (h2 x)) (g4 x)⟩
    · rw [if_neg (by rw [h1]; exact iv_nm1 (by omega)), h1, g1]
      by_cases c : z ≤ y
      · rw [if_pos (y_le (a := z) (b := y) (by omega))]
        exact Or.inr ⟨z, rfl, h2, Or.inl h3, fun x hx => hx.elim (h4 x) (fun q => by have := g4 x q; omega)⟩
      · rw [if_neg (n_le (a := z) (b := y) (by omega))]
        exact Or.inr ⟨y, rfl, g2, Or.inr g3, fun x hx => hx.elim (fun q => by have := h4 x q; omega) (g4 x)⟩
theorem MinP.shift {m : Int32} {P : Nat → Prop} (h : MinP m P) (hm : m ≠ -1) {d : Nat} (hd : d ≤ 100000) (hP : ∀ x, P x → x ≤ 500000) : MinP (m + iv (d : Int)) (fun y => ∃ x, P x ∧ y = x + d) ∧ m + iv (d : Int) ≠ -1 := by
  rcases h with ⟨h1, h2⟩ | ⟨z, h1, h2, h3, h4⟩
  · exact absurd h1 hm
  · have hz := hP z h3
    have e : m + iv (d : Int) = iv ((z + d : Nat) : Int) := by rw [h1, iv_add]; rfl
    rw [e]
    refine ⟨Or.inr ⟨z + d, rfl, by omega, ⟨z, h3, rfl⟩, ?_⟩, iv_nm1 (by omega)⟩
    rintro y ⟨x, hx, rfl⟩
    have := h4 x hx
    omega
theorem PA_le {V : Vw} (hV : VOk V) {set : Nat} {w : Int} {c : Nat} {v : Int} {x : Nat} (h : PA V set w c v x) : x ≤ 22526 := by
  obtain ⟨-, y, ⟨f, -, -, -, rfl⟩, rfl⟩ := h
  have h1 := pq_le hV (3 * c) f
  have h2 := pq_le hV (3 * c + 1) v
  omega
theorem PA_ex {V : Vw} {set : Nat} {w : Int} {c : Nat} {v : Int} : (∃ x, PA V set w c v x) ↔ 0 < nq V set w c v := by
  unfold nq
  constructor
  · rintro ⟨x, h1, y, ⟨f, h2, h3, h4, -⟩, -⟩
    rw [if_pos h1, sm_pos]
    exact ⟨f, h2, h3, by rw [if_pos h4]; decide⟩
  · intro h
    cases hl : lq V set (3 * c + 1) v with
    | false =>
      rw [hl, if_neg (by decide)] at h
      omega
    | true =>
      rw [hl, if_pos rfl, sm_pos] at h
      obtain ⟨f, h2, h3, h4⟩ := h
      cases hf : fq V set w c f v with
      | false =>
        rw [hf, if_neg (by decide)] at h4
        omega
      | true => exact ⟨_, hl, _, ⟨f, h2, h3, hf, rfl⟩, rfl⟩
def okq (V : Vw) (set : Nat) (w G k b : Int) : Bool := decide (0 < nq V set w 1 b) && aq V set w 1 (b + k * G)
def rgq (L G a k b : Int) : Bool := decide (a - k * (L + G) ≤ b) && decide (k * (L + G) ≤ 2 * (a - b))
def mtq (V : Vw) (set : Nat) (w L G a k b : Int) : Nat := if rgq L G a k b && okq V set w G k b then nq V set w 1 b else 0
/-- the prices of car 1, one push -/
def PB (V : Vw) (set : Nat) (w L G a k : Int) (P : Int → Prop) : Nat → Prop := fun x => ∃ b, -50 ≤ b ∧ b ≤ 50 ∧ P b ∧ (rgq L G a k b && okq V set w G k b) = true ∧ ∃ y, PA V set w 1 b y ∧ x = y + pq V 5 (b + k * G)
theorem s_meetloop {V : Vw} (hV : VOk V) {set : Nat} {w L G a k : Int} {S : QS} (hG : S.1 25 5 = iv G) (h1 : ∀ u, -50 ≤ u → u ≤ 50 → Set1 V set w 1 37 u S) {fr to : Int} (hft : fr ≤ to + 1) (hfr : -50 ≤ fr) (hto : to ≤ 50)
    (hin : ∀ b, fr ≤ b → b ≤ to → -50 ≤ b + k * G ∧ b + k * G ≤ 50 ∧ rgq L G a k b = true) (hout : ∀ b, -50 ≤ b → b ≤ 50 → (rgq L G a k b && okq V set w G k b) = true → fr ≤ b ∧ b ≤ to) :
    ∃ (pr : Int32) (S1 : QS), lp_X1_meet_102 (iv k) S (iv to) FU 0 (-1) (iv fr) S = some (lN (sm (mtq V set w L G a k)), pr, S1) ∧ MinP pr (PB V set w L G a k (fun _ => True)) ∧ Fr [43, 46] S S1 ∧
      (∀ u, -50 ≤ u → u ≤ 50 → S1.1 43 (ix u) = if (rgq L G a k u && okq V set w G k u) = true then 1 else S.1 43 (ix u)) ∧
      (∀ u, -50 ≤ u → u ≤ 50 → (-50 ≤ u - k * G ∧ u - k * G ≤ 50 → S1.1 46 (ix u) = if (rgq L G a k (u - k * G) && okq V set w G k (u - k * G)) = true then 1 else S.1 46 (ix u)) ∧ (¬ (-50 ≤ u - k * G ∧ u - k * G ≤ 50) → S1.1 46 (ix u) = S.1 46 (ix u))) := by
  have main := up_loop (fun fuel b (s : Int64 × Int32 × QS) => lp_X1_meet_102 (iv k) S (iv to) fuel s.1 s.2.1 b s.2.2)
    (fun b s => s.1 = lN (smv (mtq V set w L G a k) b) ∧ MinP s.2.1 (PB V set w L G a k (fun b2 => b2 < b)) ∧ Fr [43, 46] S s.2.2 ∧ (∀ u, -50 ≤ u → u ≤ 50 → s.2.2.1 43 (ix u) = if (rgq L G a k u && okq V set w G k u) = true ∧ u < b then 1 else S.1 43 (ix u)) ∧
      ∀ u, -50 ≤ u → u ≤ 50 → s.2.2.1 46 (ix u) = if (-50 ≤ u - k * G ∧ u - k * G ≤ 50) ∧ (rgq L G a k (u - k * G) && okq V set w G k (u - k * G)) = true ∧ u - k * G < b then 1 else S.1 46 (ix u)) fr to
    (fun fuel b s h3 h4 hI => by
      obtain ⟨w6, v7, s⟩ := s
      obtain ⟨i1, i2, i3, i4, i5⟩ := hI
      dsimp only at i1 i2 i3 i4 i5
      obtain ⟨p1, p2, p3⟩ := hin b h3 h4
      have hb : -50 ≤ b ∧ b ≤ 50 := by omega
      obtain ⟨j1, j2, -⟩ := h1 b hb.1 hb.2
      have j3 := (h1 (b + k * G) p1 p2).2.2
      have e42 : s.1 42 (ix b) = S.1 42 (ix b) := by rw [i3.1 42 (by decide)]
      have e45 : s.1 45 (ix (b + k * G)) = S.1 45 (ix (b + k * G)) := by rw [i3.1 45 (by decide)]
      have e47 : s.1 47 (ix b) = S.1 47 (ix b) := by rw [i3.1 47 (by decide)]
      have hS := smv_s (mtq V set w L G a k) (v := b) hb.1
      have skip : okq V set w G k b = false → lp_X1_meet_102 (iv k) S (iv to) (fuel + 1) w6 v7 (iv b) s = lp_X1_meet_102 (iv k) S (iv to) fuel w6 v7 (iv (b + 1)) s → ∃ s1 : Int64 × Int32 × QS, lp_X1_meet_102 (iv k) S (iv to) (fuel + 1) w6 v7 (iv b) s = lp_X1_meet_102 (iv k) S (iv to) fuel s1.1 s1.2.1 (iv (b + 1)) s1.2.2 ∧ (s1.1 = lN (smv (mtq V set w L G a k) (b + 1)) ∧ MinP s1.2.1 (PB V set w L G a k (fun b2 => b2 < b + 1)) ∧ Fr [43, 46] S s1.2.2 ∧ (∀ u, -50 ≤ u → u ≤ 50 → s1.2.2.1 43 (ix u) = if (rgq L G a k u && okq V set w G k u) = true ∧ u < b + 1 then 1 else S.1 43 (ix u)) ∧
          ∀ u, -50 ≤ u → u ≤ 50 → s1.2.2.1 46 (ix u) = if (-50 ≤ u - k * G ∧ u - k * G ≤ 50) ∧ (rgq L G a k (u - k * G) && okq V set w G k (u - k * G)) = true ∧ u - k * G < b + 1 then 1 else S.1 46 (ix u)) := fun ho hl => by
        have lift : ∀ u, (rgq L G a k u && okq V set w G k u) = true → (u < b + 1 ↔ u < b) := fun u hu => by
          constructor
          · intro z
            rcases Int.lt_or_eq_of_le (show u ≤ b by omega) with q | q
            · exact q
            · subst q
              rw [ho, Bool.and_false] at hu
              cases hu
          · intro z
            omega
        refine ⟨(w6, v7, s), hl, ?_, i2.cg (fun x => ?_), i3, fun u hu1 hu2 => ?_, fun u hu1 hu2 => ?_⟩
        · show w6 = _
          rw [i1, hS]
          unfold mtq
          rw [ho, Bool.and_false, if_neg (by decide)]
          rfl
        · constructor
          · rintro ⟨b2, q1, q2, q3, q4, q5⟩
            exact ⟨b2, q1, q2, (lift b2 q4).mpr q3, q4, q5⟩
          · rintro ⟨b2, q1, q2, q3, q4, q5⟩
            exact ⟨b2, q1, q2, (lift b2 q4).mp q3, q4, q5⟩
        · show s.1 43 (ix u) = _
          rw [i4 u hu1 hu2]
          by_cases c : (rgq L G a k u && okq V set w G k u) = true
          · simp only [c, lift u c]
          · rw [if_neg (fun z => c z.1), if_neg (fun z => c z.1)]
        · show s.1 46 (ix u) = _
          rw [i5 u hu1 hu2]
          by_cases c : (rgq L G a k (u - k * G) && okq V set w G k (u - k * G)) = true
          · simp only [c, lift _ c]
          · rw [if_neg (fun z => c z.2.1), if_neg (fun z => c z.2.1)]
      have head : lp_X1_meet_102 (iv k) S (iv to) (fuel + 1) w6 v7 (iv b) s = if S.1 42 (ix b) = -1 then lp_X1_meet_102 (iv k) S (iv to) fuel w6 v7 (iv (b + 1)) s else if S.1 45 (ix (b + k * G)) = -1 then lp_X1_meet_102 (iv k) S (iv to) fuel w6 v7 (iv (b + 1)) s else
          lp_X1_meet_102 (iv k) S (iv to) fuel (w6 + (S.1 47 (ix b)).toInt64) (if v7 = -1 then S.1 42 (ix b) + S.1 45 (ix (b + k * G)) else if v7 ≤ S.1 42 (ix b) + S.1 45 (ix (b + k * G)) then v7 else S.1 42 (ix b) + S.1 45 (ix (b + k * G))) (iv (b + 1)) (setF 46 (ix (b + k * G)) 1 (setF 43 (ix b) 1 s)) := by
        rw [lp_X1_meet_102, if_neg (n_lt (a := to) (b := b) h4), hG, iv_mul, iv_add, rd50 hb, ob, rd50 ⟨p1, p2⟩, ob, e42, e45, iv_one]
        by_cases c1 : S.1 42 (ix b) = -1
        · rw [if_pos c1, if_pos c1]
        · rw [if_neg c1, if_neg c1]
          by_cases c2 : S.1 45 (ix (b + k * G)) = -1
          · rw [if_pos c2, if_pos c2]
          · rw [if_neg c2, if_neg c2, rd50 hb, ob, e47, s_cheaper, ob, wz50 hb (Or.inr rfl), ob, wz50 ⟨p1, p2⟩ (Or.inr rfl), ob]
      by_cases c1 : S.1 42 (ix b) = -1
      · refine skip ?_ (by rw [head, if_pos c1])
        have : ¬ 0 < nq V set w 1 b := fun z => by
          obtain ⟨x, hx⟩ := PA_ex.mpr z
          exact (j1.eqn.mp c1) x hx
        unfold okq
        rw [decide_eq_false this, Bool.false_and]
      · have hnq : 0 < nq V set w 1 b := PA_ex.mp (j1.ne.mp c1)
        have e45b : S.1 45 (ix (b + k * G)) = if aq V set w 1 (b + k * G) then iv (pq V 5 (b + k * G) : Int) else -1 := j3
        have hpq := pq_le hV 5 (b + k * G)
        cases ha : aq V set w 1 (b + k * G) with
        | false =>
          rw [ha, if_neg (by decide)] at e45b
          refine skip ?_ (by rw [head, if_neg c1, if_pos e45b])
          unfold okq
          rw [ha, Bool.and_false]
        | true =>
          rw [ha, if_pos rfl] at e45b
          have ho : okq V set w G k b = true := by
            unfold okq
            rw [ha, decide_eq_true hnq]
            rfl
          have hm : (rgq L G a k b && okq V set w G k b) = true := by rw [p3, ho]; rfl
          have e47b : (S.1 47 (ix b)).toInt64 = lN (nq V set w 1 b) := by
            have e9 : S.1 47 (ix b) = iv (nq V set w 1 b : Int) := j2 c1
            have hle := na_le (V := V) (set := set) (w := w) (c := 1) (a := b)
            rw [e9, iv_long (x := (nq V set w 1 b : Int)) (by omega)]
            rfl
          obtain ⟨m1, m2⟩ := j1.shift c1 (d := pq V 5 (b + k * G)) (by omega) (fun x hx => by have := PA_le hV hx; omega)
          have m1 : MinP (S.1 42 (ix b) + S.1 45 (ix (b + k * G))) (fun y => ∃ x, PA V set w 1 b x ∧ y = x + pq V 5 (b + k * G)) := by rw [e45b]; exact m1
          have m2 : S.1 42 (ix b) + S.1 45 (ix (b + k * G)) ≠ -1 := by rw [e45b]; exact m2
          refine ⟨(lN (smv (mtq V set w L G a k) (b + 1)), (if v7 = -1 then S.1 42 (ix b) + S.1 45 (ix (b + k * G)) else if v7 ≤ S.1 42 (ix b) + S.1 45 (ix (b + k * G)) then v7 else S.1 42 (ix b) + S.1 45 (ix (b + k * G))), setF 46 (ix (b + k * G)) 1 (setF 43 (ix b) 1 s)), ?_, rfl, MinP.cg (i2.join m1 m2) (fun x => ?_), (i3.tr (Fr.set (by simp))).tr (Fr.set (by simp)), fun u hu1 hu2 => ?_, fun u hu1 hu2 => ?_⟩
          · show lp_X1_meet_102 (iv k) S (iv to) (fuel + 1) w6 v7 (iv b) s = lp_X1_meet_102 (iv k) S (iv to) fuel (lN (smv (mtq V set w L G a k) (b + 1))) (if v7 = -1 then S.1 42 (ix b) + S.1 45 (ix (b + k * G)) else if v7 ≤ S.1 42 (ix b) + S.1 45 (ix (b + k * G)) then v7 else S.1 42 (ix b) + S.1 45 (ix (b + k * G))) (iv (b + 1)) (setF 46 (ix (b + k * G)) 1 (setF 43 (ix b) 1 s))
            have e : mtq V set w L G a k b = nq V set w 1 b := by unfold mtq; rw [hm, if_pos rfl]
            rw [head, if_neg c1, if_neg (by rw [e45b]; exact iv_nm1 (by omega)), e47b, i1, lN_add, hS, e]
          · constructor
            · rintro (⟨b2, q1, q2, q3, q4, q5⟩ | ⟨y, q1, q2⟩)
              · exact ⟨b2, q1, q2, by omega, q4, q5⟩
              · exact ⟨b, hb.1, hb.2, by omega, hm, y, q1, q2⟩
            · rintro ⟨b2, q1, q2, q3, q4, y, q5, q6⟩
              by_cases c : b2 = b
              · subst c
                exact Or.inr ⟨y, q5, q6⟩
              · exact Or.inl ⟨b2, q1, q2, by omega, q4, y, q5, q6⟩
          · show (setF 46 (ix (b + k * G)) 1 (setF 43 (ix b) 1 s)).1 43 (ix u) = _
            rw [st_nek (by decide)]
            by_cases c : u = b
            · subst c
              rw [st_eq, if_pos ⟨hm, by omega⟩]
            · rw [st_nej (ix_ne hu1 hb.1 c), i4 u hu1 hu2]
              have : (u < b + 1) ↔ (u < b) := by omega
              simp only [this]
          · show (setF 46 (ix (b + k * G)) 1 (setF 43 (ix b) 1 s)).1 46 (ix u) = _
            by_cases c : u = b + k * G
            · subst c
              have e : b + k * G - k * G = b := by omega
              rw [st_eq, if_pos ⟨by rw [e]; exact hb, by rw [e]; exact hm, by rw [e]; omega⟩]
            · rw [st_nej (ix_ne hu1 p1 c), st_nek (by decide), i5 u hu1 hu2]
              have : (u - k * G < b + 1) ↔ (u - k * G < b) := by omega
              simp only [this])
    (to + 1 - fr).toNat FU fr (0, -1, S) (by omega) (by omega) (by show _ < 1100; omega) ⟨by
      show (0 : Int64) = _
      rw [smv_z (fun b hb1 hb2 => by
        unfold mtq
        cases hm : (rgq L G a k b && okq V set w G k b) with
        | false => rfl
        | true =>
          have := hout b hb1 (by omega) hm
          omega)]
      rfl, MinP.none (fun x ⟨b, q1, q2, q3, q4, _⟩ => by have := hout b q1 q2 q4; omega), Fr.rf, fun u hu1 hu2 => by
      rw [if_neg]
      rintro ⟨q1, q2⟩
      have := hout u hu1 hu2 q1
      omega, fun u hu1 hu2 => by
      rw [if_neg]
      rintro ⟨q0, q1, q2⟩
      have := hout _ q0.1 q0.2 q1
      omega⟩
  obtain ⟨⟨w6, v7, s⟩, f1, e1, i1, i2, i3, i4, i5⟩ := main
  dsimp only at i1 i2 i3 i4 i5
  refine ⟨v7, s, ?_, i2.cg (fun x => ?_), i3, fun u hu1 hu2 => ?_, fun u hu1 hu2 => ⟨fun hr => ?_, fun hr => ?_⟩⟩
  · have e2 : lp_X1_meet_102 (iv k) S (iv to) FU 0 (-1) (iv fr) S = lp_X1_meet_102 (iv k) S (iv to) (f1 + 1) w6 v7 (iv (to + 1)) s := e1
    rw [e2, lp_X1_meet_102, if_pos (y_lt (a := to) (b := to + 1) (by omega)), i1, smv_up (by omega) (by omega) (fun b hb1 hb2 => by
      unfold mtq
      cases hm : (rgq L G a k b && okq V set w G k b) with
      | false => rfl
      | true =>
        have := hout b (by omega) hb2 hm
        omega)]
  · constructor
    · rintro ⟨b2, q1, q2, q3, q4, q5⟩
      exact ⟨b2, q1, q2, trivial, q4, q5⟩
    · rintro ⟨b2, q1, q2, q3, q4, q5⟩
      have := hout b2 q1 q2 q4
      exact ⟨b2, q1, q2, by omega, q4, q5⟩
  · rw [i4 u hu1 hu2]
    by_cases c : (rgq L G a k u && okq V set w G k u) = true
    · have := hout u hu1 hu2 c
      rw [if_pos ⟨c, by omega⟩, if_pos c]
    · rw [if_neg (fun z => c z.1), if_neg c]
  · rw [i5 u hu1 hu2]
    by_cases c : (rgq L G a k (u - k * G) && okq V set w G k (u - k * G)) = true
    · have := hout _ hr.1 hr.2 c
      rw [if_pos ⟨hr, c, by omega⟩, if_pos c]
    · rw [if_neg (fun z => c z.2.1), if_neg c]
  · rw [i5 u hu1 hu2, if_neg (fun z => hr z.1)]
end
section
/-! one push, whole -/
theorem MinP.sum {m n : Int32} {P Q : Nat → Prop} (h : MinP m P) (h2 : MinP n Q) (hm : m ≠ -1) (hn : n ≠ -1) (hP : ∀ x, P x → x ≤ 300000) (hQ : ∀ x, Q x → x ≤ 300000) : MinP (m + n) (fun z => ∃ x y, P x ∧ Q y ∧ z = x + y) ∧ m + n ≠ -1 := by
  rcases h with ⟨z, -⟩ | ⟨x, h1, -, h3, h4⟩
  · exact absurd z hm
  · rcases h2 with ⟨z, -⟩ | ⟨y, g1, -, g3, g4⟩
    · exact absurd z hn
    · have b1 := hP x h3
      have b2 := hQ y g3
      have e : m + n = iv ((x + y : Nat) : Int) := by rw [h1, g1, iv_add]; rfl
      rw [e]
      refine ⟨Or.inr ⟨x + y, rfl, by omega, ⟨x, y, h3, g3, rfl⟩, ?_⟩, iv_nm1 (by omega)⟩
      rintro z ⟨x2, y2, p1, p2, rfl⟩
      have := h4 x2 p1
      have := g4 y2 p2
      omega
theorem q_max {x y : Int} (hx : -2147483648 ≤ x ∧ x < 2147483648 := by omega) (hy : -2147483648 ≤ y ∧ y < 2147483648 := by omega) : (if iv x < iv y then iv y else iv x) = iv (if x < y then y else x) := by
  by_cases c : x < y
  · rw [if_pos (y_lt c hx hy), if_pos c]
  · rw [if_neg (n_lt (by omega) hx hy), if_neg c]
/-- the meeting's state between pushes -/
def Md (V : Vw) (set : Nat) (w L G : Int) (S : QS) : Prop := S.1 25 4 = iv L ∧ S.1 25 5 = iv G ∧ (∀ u, -50 ≤ u → u ≤ 50 → Set1 V set w 0 26 u S) ∧ (∀ u, -50 ≤ u → u ≤ 50 → Set1 V set w 1 37 u S) ∧ Bnd S 30 ∧ Bnd S 33 ∧ Bnd S 41 ∧ Bnd S 44
theorem Md.fr {V : Vw} {set : Nat} {w L G : Int} {S S1 : QS} (h : Md V set w L G S) (hf : Fr [25, 32, 35, 43, 46] S S1) (h4 : S1.1 25 4 = S.1 25 4) (h5 : S1.1 25 5 = S.1 25 5) : Md V set w L G S1 := by
  obtain ⟨a1, a2, a3, a4, a5, a6, a7, a8⟩ := h
  have f : ∀ k, k ∉ [25, 32, 35, 43, 46] → S1.1 k = S.1 k := hf.1
  exact ⟨h4.trans a1, h5.trans a2, fun u h1 h2 => (a3 u h1 h2).fr (by rw [f 31 (by decide)]) (by rw [f 36 (by decide)]) (by rw [f 34 (by decide)]), fun u h1 h2 => (a4 u h1 h2).fr (by rw [f 42 (by decide)]) (by rw [f 47 (by decide)]) (by rw [f 45 (by decide)]), a5.fr (f 30 (by decide)) (f 31 (by decide)), a6.fr (f 33 (by decide)) (f 34 (by decide)), a7.fr (f 41 (by decide)) (f 42 (by decide)), a8.fr (f 44 (by decide)) (f 45 (by decide))⟩
/-- a push that meets -/
def Mt (V : Vw) (set : Nat) (w L G a k b : Int) : Prop := (-50 ≤ b ∧ b ≤ 50) ∧ (rgq L G a k b && okq V set w G k b) = true
theorem mt_pos {V : Vw} {set : Nat} {w L G a k : Int} : 0 < sm (mtq V set w L G a k) ↔ ∃ b, Mt V set w L G a k b := by
  rw [sm_pos]
  constructor
  · rintro ⟨b, h1, h2, h3⟩
    unfold mtq at h3
    cases hm : (rgq L G a k b && okq V set w G k b) with
    | false =>
      rw [hm, if_neg (by decide)] at h3
      omega
    | true => exact ⟨b, ⟨h1, h2⟩, hm⟩
  · rintro ⟨b, ⟨h1, h2⟩, h3⟩
    refine ⟨b, h1, h2, ?_⟩
    unfold mtq
    rw [if_pos h3]
    simp only [Bool.and_eq_true] at h3
    have h4 := h3.2
    unfold okq at h4
    simp only [Bool.and_eq_true, decide_eq_true_eq] at h4
    exact h4.1
/-- the prices of one push -/
def PM (V : Vw) (set : Nat) (w L G a k : Int) : Nat → Prop := fun x => ∃ b, Mt V set w L G a k b ∧ ∃ y z, PA V set w 1 b y ∧ PA V set w 0 a z ∧ x = y + pq V 5 (b + k * G) + z + pq V 2 (a - k * L)
theorem lq_50q {V : Vw} (hV : VOk V) {set : Nat} {w : Int} {v : Int} (h : aq V set w 1 v = true) : -50 ≤ v ∧ v ≤ 50 := by
  unfold aq at h
  simp only [Bool.and_eq_true] at h
  exact lt_50 hV (by decide) h.1
theorem s_meet {V : Vw} (hV : VOk V) {set : Nat} {w L G a k : Int} (hL : 1 ≤ L ∧ L ≤ 100) (hG : 1 ≤ G ∧ G ≤ 100) (hk : 1 ≤ k ∧ k ≤ 101) {S : QS} (hM : Md V set w L G S) (ha : -50 ≤ a ∧ a ≤ 50) (hp : -50 ≤ a - k * L ∧ a - k * L ≤ 50) (hao : S.1 31 (ix a) ≠ -1) (hpo : S.1 34 (ix (a - k * L)) ≠ -1)
    {n0 : Nat} {P0 : Nat → Prop} (hn : S.2 25 = lN n0) (hm : MinP (S.1 25 3) P0) :
    ∃ S1, f_X1_meet (iv a) (iv k) S = some S1 ∧ Fr [25, 32, 35, 43, 46] S S1 ∧ S1.1 25 4 = S.1 25 4 ∧ S1.1 25 5 = S.1 25 5 ∧ S1.2 25 = lN (n0 + sm (mtq V set w L G a k) * nq V set w 0 a) ∧ MinP (S1.1 25 3) (fun x => P0 x ∨ PM V set w L G a k x) ∧
      (∀ u, -50 ≤ u → u ≤ 50 → (S1.1 32 (ix u) = if 0 < sm (mtq V set w L G a k) ∧ u = a then 1 else S.1 32 (ix u)) ∧ (S1.1 35 (ix u) = if 0 < sm (mtq V set w L G a k) ∧ u = a - k * L then 1 else S.1 35 (ix u)) ∧ (S1.1 43 (ix u) = if (rgq L G a k u && okq V set w G k u) = true then 1 else S.1 43 (ix u)) ∧
        (-50 ≤ u - k * G ∧ u - k * G ≤ 50 → S1.1 46 (ix u) = if (rgq L G a k (u - k * G) && okq V set w G k (u - k * G)) = true then 1 else S.1 46 (ix u)) ∧ (¬ (-50 ≤ u - k * G ∧ u - k * G ≤ 50) → S1.1 46 (ix u) = S.1 46 (ix u))) := by
  obtain ⟨m4, m5, s0, s1, -, -, ⟨bo, to, b1, b2, b3, b4, b5, b6, b7⟩, ⟨bo2, to2, c1, c2, c3, c4, c5, c6, c7⟩⟩ := hM
  have bL : 1 ≤ k * L ∧ k * L ≤ 10100 := ⟨by have := Int.mul_le_mul hk.1 hL.1 (by omega) (by omega); omega, by have := Int.mul_le_mul hk.2 hL.2 (by omega) (by omega); omega⟩
  have bG : 1 ≤ k * G ∧ k * G ≤ 10100 := ⟨by have := Int.mul_le_mul hk.1 hG.1 (by omega) (by omega); omega, by have := Int.mul_le_mul hk.2 hG.2 (by omega) (by omega); omega⟩
  have eC : k * (L + G) = k * L + k * G := Int.mul_add _ _ _
  obtain ⟨C, hC⟩ : ∃ C, C = k * (L + G) := ⟨_, rfl⟩
  obtain ⟨g, hg⟩ : ∃ g, g = k * G := ⟨_, rfl⟩
  obtain ⟨x1, hx1⟩ : ∃ x1 : Int, x1 = if bo < bo2 - g then bo2 - g else bo := ⟨_, rfl⟩
  obtain ⟨fr, hfr⟩ : ∃ fr : Int, fr = if a - C < x1 then x1 else a - C := ⟨_, rfl⟩
  obtain ⟨x2, hx2⟩ : ∃ x2 : Int, x2 = if to2 - g < to then to2 - g else to := ⟨_, rfl⟩
  obtain ⟨te, hte⟩ : ∃ te : Int, te = if x2 < a - (C + 1).tdiv 2 then x2 else a - (C + 1).tdiv 2 := ⟨_, rfl⟩
  have etd : (C + 1).tdiv 2 = (C + 1) / 2 := Int.tdiv_eq_ediv_of_nonneg (by omega)
  have bfr : bo ≤ fr ∧ bo2 - g ≤ fr ∧ a - C ≤ fr ∧ (fr = bo ∨ fr = bo2 - g ∨ fr = a - C) := by
    rw [hfr, hx1]
    split <;> split <;> omega
  have bte : te ≤ to ∧ te ≤ to2 - g ∧ te ≤ a - (C + 1) / 2 ∧ (te = to ∨ te = to2 - g ∨ te = a - (C + 1) / 2) := by
    rw [hte, hx2, etd]
    split <;> split <;> omega
  have efr : (if iv a - iv k * (iv L + iv G) < (if iv bo < iv bo2 - iv k * iv G then iv bo2 - iv k * iv G else iv bo) then (if iv bo < iv bo2 - iv k * iv G then iv bo2 - iv k * iv G else iv bo) else iv a - iv k * (iv L + iv G)) = iv fr := by
    rw [iv_add, iv_mul, iv_mul, iv_sub, iv_sub, ← hC, ← hg, q_max (x := bo) (y := bo2 - g), ← hx1, q_max (x := a - C) (y := x1) (by omega) (by rw [hx1]; split <;> omega), ← hfr]
  have ete : (if (if iv to2 - iv k * iv G < iv to then iv to2 - iv k * iv G else iv to) < iv a - iv ((C + 1).tdiv 2) then (if iv to2 - iv k * iv G < iv to then iv to2 - iv k * iv G else iv to) else iv a - iv ((C + 1).tdiv 2)) = iv te := by
    have q1 : (if iv to2 - iv k * iv G < iv to then iv to2 - iv k * iv G else iv to) = iv x2 := by
      rw [iv_mul, iv_sub, ← hg, hx2]
      by_cases q : to2 - g < to
      · rw [if_pos (y_lt (a := to2 - g) (b := to) q), if_pos q]
      · rw [if_neg (n_lt (a := to2 - g) (b := to) (by omega)), if_neg q]
    have hb2 : -2147483648 ≤ x2 ∧ x2 < 2147483648 := by rw [hx2]; split <;> omega
    rw [q1, iv_sub, hte, etd]
    by_cases q : x2 < a - (C + 1) / 2
    · rw [if_pos (y_lt (a := x2) (b := a - (C + 1) / 2) q hb2), if_pos q]
    · rw [if_neg (n_lt (a := x2) (b := a - (C + 1) / 2) (by omega) hb2), if_neg q]
  have rg_iff : ∀ b, rgq L G a k b = true ↔ a - C ≤ b ∧ b ≤ a - (C + 1) / 2 := fun b => by
    unfold rgq
    rw [← hC]
    simp only [Bool.and_eq_true, decide_eq_true_eq]
    omega
  have hout : ∀ b, -50 ≤ b → b ≤ 50 → (rgq L G a k b && okq V set w G k b) = true → fr ≤ b ∧ b ≤ te := fun b h1 h2 h3 => by
    simp only [Bool.and_eq_true] at h3
    obtain ⟨h4, h5⟩ := h3
    have h6 := (rg_iff b).mp h4
    unfold okq at h5
    simp only [Bool.and_eq_true, decide_eq_true_eq] at h5
    obtain ⟨h7, h8⟩ := h5
    have h9 := lq_50q hV h8
    have q1 := b7 b h1 h2 ((s1 b h1 h2).1.ne.mpr (PA_ex.mpr h7))
    have q2 := c7 (b + k * G) h9.1 h9.2 (by
      have e := (s1 _ h9.1 h9.2).2.2
      rw [h8, if_pos rfl] at e
      have := pq_le hV (3 * 1 + 2) (b + k * G)
      rw [show S.1 (44 + 1) = S.1 (37 + 8) from rfl, e]
      exact iv_nm1 (by omega))
    rw [← hg] at q2
    omega
  have hloop : ∃ (pr : Int32) (S1 : QS), lp_X1_meet_102 (iv k) S (iv te) FU 0 (-1) (iv fr) S = some (lN (sm (mtq V set w L G a k)), pr, S1) ∧ MinP pr (PB V set w L G a k (fun _ => True)) ∧ Fr [43, 46] S S1 ∧
      (∀ u, -50 ≤ u → u ≤ 50 → S1.1 43 (ix u) = if (rgq L G a k u && okq V set w G k u) = true then 1 else S.1 43 (ix u)) ∧
      (∀ u, -50 ≤ u → u ≤ 50 → (-50 ≤ u - k * G ∧ u - k * G ≤ 50 → S1.1 46 (ix u) = if (rgq L G a k (u - k * G) && okq V set w G k (u - k * G)) = true then 1 else S.1 46 (ix u)) ∧ (¬ (-50 ≤ u - k * G ∧ u - k * G ≤ 50) → S1.1 46 (ix u) = S.1 46 (ix u))) := by
    by_cases hle : fr ≤ te
    · exact s_meetloop hV m5 s1 (fr := fr) (to := te) (by omega) (by omega) (by omega) (fun b h1 h2 => ⟨by omega, by omega, (rg_iff b).mpr (by omega)⟩) hout
    · have no : ∀ b, -50 ≤ b → b ≤ 50 → (rgq L G a k b && okq V set w G k b) = false := fun b h1 h2 => by
        cases hq : (rgq L G a k b && okq V set w G k b) with
        | false => rfl
        | true =>
          have := hout b h1 h2 hq
          omega
      refine ⟨-1, S, ?_, MinP.none (fun x ⟨b, q1, q2, _, q4, _⟩ => by rw [no b q1 q2] at q4; cases q4), Fr.rf, fun u h1 h2 => by rw [no u h1 h2]; rfl, fun u h1 h2 => ⟨fun hr => by rw [no _ hr.1 hr.2]; rfl, fun _ => rfl⟩⟩
      have e0 : sm (mtq V set w L G a k) = 0 := smv_z (fun b h1 h2 => by unfold mtq; rw [no b h1 (by omega)]; rfl)
      rw [e0, show FU = 1099 + 1 from rfl, lp_X1_meet_102, if_pos (y_lt (a := te) (b := fr) (by omega))]
      rfl
  obtain ⟨pr, S1, e1, hpr, f1, g43, g46⟩ := hloop
  have hmet : sm (mtq V set w L G a k) ≤ 10201 := sm_le (c := 101) (fun b _ _ => by unfold mtq; split; exact na_le; omega)
  have hcall : f_X1_meet (iv a) (iv k) S = if (lg_cmp (lN (sm (mtq V set w L G a k))) 0) ≤ 0 then some S1 else
      (f_X3_see 30 (iv a) S1).bind fun S24 => (f_X3_see 33 (iv (a - k * L)) S24).bind fun S26 => (f_X0_firstCount 26 (iv a) S26).bind fun v28 => (stL 25 ((S26.2 25) + (lN (sm (mtq V set w L G a k)) * v28.toInt64)) S26).bind fun S29 =>
        (f_X3_priceOf 30 (iv a) S29).bind fun v32 => (f_X3_priceOf 33 (iv (a - k * L)) S29).bind fun v34 => (f_X5_cheaper (S29.1 25 3) ((pr + v32) + v34)).bind fun v36 => (stF 25 3 v36 S29).bind fun S37 => some S37 := by
    unfold f_X1_meet
    rw [m4, m5, b1, b2, c1, c2, ob, efr, iv_add, iv_mul, ← hC, iv_one, c_2, dv_iv, ob, ete, ob, e1, ob]
    dsimp only
    rw [f1.1 25 (by decide), m4, iv_mul, iv_sub]
  by_cases hz : sm (mtq V set w L G a k) = 0
  · have no : ∀ x, ¬ PM V set w L G a k x := fun x ⟨b, hb, _⟩ => by
      have := mt_pos.mpr ⟨b, hb⟩
      omega
    refine ⟨S1, by rw [hcall, if_pos ((lN_le0 (by omega)).mpr hz)], f1.mono (by simp), by rw [f1.1 25 (by decide)], by rw [f1.1 25 (by decide)], by rw [f1.2 25 (by decide), hn, hz, Nat.zero_mul, Nat.add_zero], by rw [f1.1 25 (by decide)]; exact hm.cg (fun x => ⟨Or.inl, fun z => z.elim id (fun q => absurd q (no x))⟩), fun u h1 h2 => ⟨?_, ?_, g43 u h1 h2, g46 u h1 h2⟩⟩
    · rw [if_neg (fun z => by omega), f1.1 32 (by decide)]
    · rw [if_neg (fun z => by omega), f1.1 35 (by decide)]
  · have hpos : 0 < sm (mtq V set w L G a k) := by omega
    obtain ⟨s01, s02, -⟩ := s0 a ha.1 ha.2
    have s03 := (s0 (a - k * L) hp.1 hp.2).2.2
    have hcnt := s02 hao
    have hnle := na_le (V := V) (set := set) (w := w) (c := 0) (a := a)
    have hap : aq V set w 0 (a - k * L) = true := by
      cases hq : aq V set w 0 (a - k * L) with
      | true => rfl
      | false =>
        rw [hq, if_neg (by decide)] at s03
        exact absurd s03 hpo
    rw [hap, if_pos rfl] at s03
    obtain ⟨b0, hb0⟩ := mt_pos.mp hpos
    have hprn : pr ≠ -1 := by
      have hnq : 0 < nq V set w 1 b0 := by
        have h4 := hb0.2
        simp only [Bool.and_eq_true] at h4
        have h5 := h4.2
        unfold okq at h5
        simp only [Bool.and_eq_true, decide_eq_true_eq] at h5
        exact h5.1
      obtain ⟨y, hy⟩ := PA_ex.mpr hnq
      exact hpr.ne.mpr ⟨_, b0, hb0.1.1, hb0.1.2, trivial, hb0.2, y, hy, rfl⟩
    have hPB : ∀ x, PB V set w L G a k (fun _ => True) x → x ≤ 300000 := fun x ⟨b, _, _, _, _, y, hy, hx⟩ => by
      have := PA_le hV hy
      have := pq_le hV 5 (b + k * G)
      omega
    obtain ⟨t1, t2⟩ := hpr.sum s01 hprn hao hPB (fun x hx => by have := PA_le hV hx; omega)
    obtain ⟨t3, t4⟩ := t1.shift t2 (d := pq V 2 (a - k * L)) (by have := pq_le hV 2 (a - k * L); omega) (fun x ⟨y, z, hy, hz, hx⟩ => by have := hPB y hy; have := PA_le hV hz; omega)
    obtain ⟨S29, h29⟩ : ∃ S29, S29 = setL 25 (lN (n0 + sm (mtq V set w L G a k) * nq V set w 0 a)) (setF 35 (ix (a - k * L)) 1 (setF 32 (ix a) 1 S1)) := ⟨_, rfl⟩
    have f29 : ∀ j, j ≠ 35 → j ≠ 32 → S29.1 j = S1.1 j := fun j h1 h2 => by rw [h29, sl_1, st_nek h1, st_nek h2]
    have e31 : S29.1 (30 + 1) (ix a) = S.1 (26 + 5) (ix a) := by rw [f29 (30 + 1) (by decide) (by decide), f1.1 (30 + 1) (by decide)]
    have e34 : S29.1 (33 + 1) (ix (a - k * L)) = iv (pq V 2 (a - k * L) : Int) := by rw [f29 (33 + 1) (by decide) (by decide), f1.1 (33 + 1) (by decide)]; exact s03
    have e25 : S29.1 25 3 = S.1 25 3 := by rw [f29 25 (by decide) (by decide), f1.1 25 (by decide)]
    refine ⟨setF 25 3 (if S.1 25 3 = -1 then pr + S.1 (26 + 5) (ix a) + iv (pq V 2 (a - k * L) : Int) else if S.1 25 3 ≤ pr + S.1 (26 + 5) (ix a) + iv (pq V 2 (a - k * L) : Int) then S.1 25 3 else pr + S.1 (26 + 5) (ix a) + iv (pq V 2 (a - k * L) : Int)) S29, ?_, ?_, by rw [st_nej (by decide), f29 25 (by decide) (by decide), f1.1 25 (by decide)], by rw [st_nej (by decide), f29 25 (by decide) (by decide), f1.1 25 (by decide)], ?_, ?_, fun u h1 h2 => ⟨?_, ?_, ?_, ?_⟩⟩
    · rw [hcall, if_neg (fun z => hz ((lN_le0 (by omega)).mp z)), s_see ha, ob, s_see hp, ob, s_firstCount ha, ob]
      have ec : (setF (33 + 2) (ix (a - k * L)) 1 (setF (30 + 2) (ix a) 1 S1)).1 (26 + 10) (ix a) = iv (nq V set w 0 a : Int) := by rw [st_nek (by decide), st_nek (by decide), f1.1 (26 + 10) (by decide)]; exact hcnt
      rw [ec, iv_long (x := (nq V set w 0 a : Int)) (by omega), Int.toNat_natCast, st_2, st_2, f1.2 25 (by decide), hn, lN_mul, lN_add]
      show (f_X3_priceOf 30 (iv a) (setL 25 (lN (n0 + sm (mtq V set w L G a k) * nq V set w 0 a)) (setF 35 (ix (a - k * L)) 1 (setF 32 (ix a) 1 S1)))).bind _ = _
      rw [← h29, s_priceOf ha, ob, s_priceOf hp, ob, e31, e34, s_cheaper, ob, e25]
      rfl
    · refine ((((f1.mono (by simp)).tr (Fr.set (k := 32) (j := ix a) (x := 1) (by simp))).tr (Fr.set (k := 35) (j := ix (a - k * L)) (x := 1) (by simp))).tr (Fr.setL (k := 25) (x := lN (n0 + sm (mtq V set w L G a k) * nq V set w 0 a)) (by simp))).tr ?_
      rw [← h29]
      exact Fr.set (by simp)
    · show S29.2 25 = _
      rw [h29, sl_eq]
    · rw [st_eq]
      refine (hm.join t3 t4).cg (fun x => ?_)
      constructor
      · rintro (h | ⟨y, ⟨y1, y2, ⟨b, q1, q2, _, q4, y3, q5, q6⟩, q7, q8⟩, q9⟩)
        · exact Or.inl h
        · exact Or.inr ⟨b, ⟨⟨q1, q2⟩, q4⟩, y3, y2, q5, q7, by omega⟩
      · rintro (h | ⟨b, ⟨⟨q1, q2⟩, q4⟩, y, z, q5, q6, q7⟩)
        · exact Or.inl h
        · exact Or.inr ⟨_, ⟨_, z, ⟨b, q1, q2, trivial, q4, y, q5, rfl⟩, q6, rfl⟩, by omega⟩
    · rw [st_nek (by decide), h29, sl_1, st_nek (by decide)]
      by_cases c : u = a
      · subst c
        rw [st_eq, if_pos ⟨hpos, rfl⟩]
      · rw [st_nej (ix_ne h1 ha.1 c), if_neg (fun z => c z.2), f1.1 32 (by decide)]
    · rw [st_nek (by decide), h29, sl_1]
      by_cases c : u = a - k * L
      · rw [c, st_eq, if_pos ⟨hpos, rfl⟩]
      · rw [st_nej (ix_ne h1 hp.1 c), st_nek (by decide), if_neg (fun z => c z.2), f1.1 35 (by decide)]
    · rw [st_nek (by decide), f29 43 (by decide) (by decide)]
      exact g43 u h1 h2
    · rw [st_nek (by decide), f29 46 (by decide) (by decide)]
      exact g46 u h1 h2
end
section
/-! all pushes from one AT of car 0 -/
def Flag (x : Int32) (P : Prop) : Prop := (x = 1 ∧ P) ∨ (x = 0 ∧ ¬ P)
theorem Flag.cg {x : Int32} {P Q : Prop} (h : Flag x P) (e : P ↔ Q) : Flag x Q := h.elim (fun z => Or.inl ⟨z.1, e.mp z.2⟩) (fun z => Or.inr ⟨z.1, fun q => z.2 (e.mpr q)⟩)
theorem Flag.set {x y : Int32} {P Q : Prop} (h : Flag x P) {c : Prop} (dc : Decidable c) (hy : y = @ite _ c dc 1 x) (e : c ↔ Q) : Flag y (P ∨ Q) := by
  by_cases q : c
  · rw [if_pos q] at hy
    exact Or.inl ⟨hy, Or.inr (e.mp q)⟩
  · rw [if_neg q] at hy
    rw [hy]
    exact h.cg ⟨Or.inl, fun z => z.elim id (fun z => absurd (e.mpr z) q)⟩
/-- the price of a way's three: AT of both, AFTER of both -/
def PT (V : Vw) (set : Nat) (w L G a k b : Int) (x : Nat) : Prop := ∃ y z, PA V set w 1 b y ∧ PA V set w 0 a z ∧ x = y + pq V 5 (b + k * G) + z + pq V 2 (a - k * L)
/-- what has been met so far: the triples T, n ways -/
def Acc (V : Vw) (set : Nat) (w L G : Int) (T : Int → Int → Int → Prop) (n : Nat) (S : QS) : Prop := S.2 25 = lN n ∧ MinP (S.1 25 3) (fun x => ∃ a k b, T a k b ∧ PT V set w L G a k b x) ∧ ∀ u, -50 ≤ u → u ≤ 50 → Flag (S.1 32 (ix u)) (∃ k b, T u k b) ∧ Flag (S.1 35 (ix u)) (∃ a k b, T a k b ∧ u = a - k * L) ∧ Flag (S.1 43 (ix u)) (∃ a k, T a k u) ∧ Flag (S.1 46 (ix u)) (∃ a k b, T a k b ∧ u = b + k * G)
theorem Acc.cg {V : Vw} {set : Nat} {w L G : Int} {T T2 : Int → Int → Int → Prop} {n : Nat} {S : QS} (h : Acc V set w L G T n S) (e : ∀ a k b, T a k b ↔ T2 a k b) : Acc V set w L G T2 n S := by
  have : T = T2 := funext fun a => funext fun k => funext fun b => propext (e a k b)
  rw [← this]
  exact h
theorem acc_meet {V : Vw} (hV : VOk V) {set : Nat} {w L G a k : Int} (hL : 1 ≤ L ∧ L ≤ 100) (hG : 1 ≤ G ∧ G ≤ 100) (hk : 1 ≤ k ∧ k ≤ 101) {S : QS} (hM : Md V set w L G S) (ha : -50 ≤ a ∧ a ≤ 50) (hp : -50 ≤ a - k * L ∧ a - k * L ≤ 50) (hao : S.1 31 (ix a) ≠ -1) (hpo : S.1 34 (ix (a - k * L)) ≠ -1)
    {T : Int → Int → Int → Prop} {n : Nat} (hA : Acc V set w L G T n S) :
    ∃ S1, f_X1_meet (iv a) (iv k) S = some S1 ∧ Fr [25, 32, 35, 43, 46] S S1 ∧ Md V set w L G S1 ∧ Acc V set w L G (fun a2 k2 b2 => T a2 k2 b2 ∨ (a2 = a ∧ k2 = k ∧ Mt V set w L G a k b2)) (n + sm (mtq V set w L G a k) * nq V set w 0 a) S1 := by
  obtain ⟨h1, h2, h3⟩ := hA
  obtain ⟨S1, e1, f1, g4, g5, gn, gp, gs⟩ := s_meet hV hL hG hk hM ha hp hao hpo h1 h2
  refine ⟨S1, e1, f1, hM.fr f1 g4 g5, gn, gp.cg (fun x => ?_), fun u hu1 hu2 => ?_⟩
  · constructor
    · rintro (⟨a2, k2, b2, q1, q2⟩ | ⟨b, q1, q2⟩)
      · exact ⟨a2, k2, b2, Or.inl q1, q2⟩
      · exact ⟨a, k, b, Or.inr ⟨rfl, rfl, q1⟩, q2⟩
    · rintro ⟨a2, k2, b2, q1 | ⟨rfl, rfl, q1⟩, q2⟩
      · exact Or.inl ⟨a2, k2, b2, q1, q2⟩
      · exact Or.inr ⟨b2, q1, q2⟩
  · obtain ⟨p1, p2, p3, p4⟩ := h3 u hu1 hu2
    obtain ⟨r1, r2, r3, r4, r5⟩ := gs u hu1 hu2
    refine ⟨(p1.set _ r1 (Q := ∃ b, u = a ∧ Mt V set w L G a k b) ?_).cg ?_, (p2.set _ r2 (Q := ∃ b, u = a - k * L ∧ Mt V set w L G a k b) ?_).cg ?_, (p3.set _ r3 (Q := Mt V set w L G a k u) ?_).cg ?_, ?_⟩
    · rw [mt_pos]
      exact ⟨fun ⟨⟨b, hb⟩, q⟩ => ⟨b, q, hb⟩, fun ⟨b, q, hb⟩ => ⟨⟨b, hb⟩, q⟩⟩
    · constructor
      · rintro (⟨k2, b2, q⟩ | ⟨b, q, hb⟩)
        · exact ⟨k2, b2, Or.inl q⟩
        · exact ⟨k, b, Or.inr ⟨q, rfl, hb⟩⟩
      · rintro ⟨k2, b2, q | ⟨q, rfl, hb⟩⟩
        · exact Or.inl ⟨k2, b2, q⟩
        · exact Or.inr ⟨b2, q, hb⟩
    · rw [mt_pos]
      exact ⟨fun ⟨⟨b, hb⟩, q⟩ => ⟨b, q, hb⟩, fun ⟨b, q, hb⟩ => ⟨⟨b, hb⟩, q⟩⟩
    · constructor
      · rintro (⟨a2, k2, b2, q, q2⟩ | ⟨b, q, hb⟩)
        · exact ⟨a2, k2, b2, Or.inl q, q2⟩
        · exact ⟨a, k, b, Or.inr ⟨rfl, rfl, hb⟩, q⟩
      · rintro ⟨a2, k2, b2, q | ⟨rfl, rfl, hb⟩, q2⟩
        · exact Or.inl ⟨a2, k2, b2, q, q2⟩
        · exact Or.inr ⟨b2, q2, hb⟩
    · exact ⟨fun q => ⟨⟨hu1, hu2⟩, q⟩, fun q => q.2⟩
    · constructor
      · rintro (⟨a2, k2, q⟩ | hb)
        · exact ⟨a2, k2, Or.inl q⟩
        · exact ⟨a, k, Or.inr ⟨rfl, rfl, hb⟩⟩
      · rintro ⟨a2, k2, q | ⟨rfl, rfl, hb⟩⟩
        · exact Or.inl ⟨a2, k2, q⟩
        · exact Or.inr hb
    · have fin : Flag (S1.1 46 (ix u)) ((∃ a2 k2 b2, T a2 k2 b2 ∧ u = b2 + k2 * G) ∨ Mt V set w L G a k (u - k * G)) := by
        by_cases hr : -50 ≤ u - k * G ∧ u - k * G ≤ 50
        · exact p4.set _ (r4 hr) ⟨fun q => ⟨hr, q⟩, fun q => q.2⟩
        · rw [r5 hr]
          exact p4.cg ⟨Or.inl, fun z => z.elim id (fun q => absurd q.1 hr)⟩
      refine fin.cg ?_
      constructor
      · rintro (⟨a2, k2, b2, q, q2⟩ | hb)
        · exact ⟨a2, k2, b2, Or.inl q, q2⟩
        · exact ⟨a, k, u - k * G, Or.inr ⟨rfl, rfl, hb⟩, by omega⟩
      · rintro ⟨a2, k2, b2, q | ⟨rfl, rfl, hb⟩, q2⟩
        · exact Or.inl ⟨a2, k2, b2, q, q2⟩
        · refine Or.inr ?_
          rw [show u - k2 * G = b2 by omega]
          exact hb
/-- one AT's pushes -/
def Hq (V : Vw) (set : Nat) (w L G a k : Int) : Nat := if aq V set w 0 (a - k * L) then sm (mtq V set w L G a k) * nq V set w 0 a else 0
def Tq (V : Vw) (set : Nat) (w L G a k b : Int) : Prop := aq V set w 0 (a - k * L) = true ∧ Mt V set w L G a k b
theorem aq_50 {V : Vw} (hV : VOk V) {set : Nat} {w : Int} {v : Int} (h : aq V set w 0 v = true) : -50 ≤ v ∧ v ≤ 50 := by
  unfold aq at h
  simp only [Bool.and_eq_true] at h
  exact lt_50 hV (by decide) h.1
theorem s_pushFrom {V : Vw} (hV : VOk V) {set : Nat} {w L G a : Int} (hL : 1 ≤ L ∧ L ≤ 100) (hG : 1 ≤ G ∧ G ≤ 100) (ha : -50 ≤ a ∧ a ≤ 50) {T0 : Int → Int → Int → Prop} {n0 : Nat} {S : QS} (hM : Md V set w L G S) (hao : S.1 31 (ix a) ≠ -1) (hA : Acc V set w L G T0 n0 S) :
    ∃ S1, f_X1_pushFrom (iv a) S = some S1 ∧ Fr [25, 32, 35, 43, 46] S S1 ∧ Md V set w L G S1 ∧ Acc V set w L G (fun a2 k2 b2 => T0 a2 k2 b2 ∨ (a2 = a ∧ (1 ≤ k2 ∧ k2 ≤ 101) ∧ Tq V set w L G a k2 b2)) (n0 + fb_sm (fun i => Hq V set w L G a ((i : Int) + 1)) 101) S1 := by
  have key : ∀ (d i fuel : Nat) (S : QS), i + d = 101 → d < fuel → Md V set w L G S → S.1 31 (ix a) ≠ -1 → Acc V set w L G (fun a2 k2 b2 => T0 a2 k2 b2 ∨ (a2 = a ∧ (1 ≤ k2 ∧ k2 ≤ i) ∧ Tq V set w L G a k2 b2)) (n0 + fb_sm (fun i => Hq V set w L G a ((i : Int) + 1)) i) S →
      ∃ S1, lp_X1_pushFrom_2 (iv a) fuel (iv ((i : Int) + 1)) S = some S1 ∧ Fr [25, 32, 35, 43, 46] S S1 ∧ Md V set w L G S1 ∧ Acc V set w L G (fun a2 k2 b2 => T0 a2 k2 b2 ∨ (a2 = a ∧ (1 ≤ k2 ∧ k2 ≤ 101) ∧ Tq V set w L G a k2 b2)) (n0 + fb_sm (fun i => Hq V set w L G a ((i : Int) + 1)) 101) S1 := by
    intro d
    induction d with
    | zero =>
      intro i fuel S hi hf hM hao hA
      obtain ⟨f1, rfl⟩ : ∃ f1, fuel = f1 + 1 := ⟨fuel - 1, by omega⟩
      have e : i = 101 := by omega
      subst e
      exact ⟨S, by rw [lp_X1_pushFrom_2, if_pos (by decide)], Fr.rf, hM, hA⟩
    | succ d ih =>
      intro i fuel S hi hf hM hao hA
      obtain ⟨f1, rfl⟩ : ∃ f1, fuel = f1 + 1 := ⟨fuel - 1, by omega⟩
      obtain ⟨m4, m5, s0, s1, q1, ⟨bo, to, b1, b2, b3, b4, b5, b6, b7⟩, q3, q4⟩ := id hM
      obtain ⟨k, hk⟩ : ∃ k : Int, k = (i : Int) + 1 := ⟨_, rfl⟩
      have bL : 1 ≤ k * L ∧ k * L ≤ 10100 := ⟨by have := Int.mul_le_mul (show 1 ≤ k by omega) hL.1 (by omega) (by omega); omega, by have := Int.mul_le_mul (show k ≤ 101 by omega) hL.2 (by omega) (by omega); omega⟩
      have sumS : fb_sm (fun i => Hq V set w L G a ((i : Int) + 1)) (i + 1) = fb_sm (fun i => Hq V set w L G a ((i : Int) + 1)) i + Hq V set w L G a k := by rw [fb_sm_succ, hk]
      have openA : ∀ p, -50 ≤ p → p ≤ 50 → aq V set w 0 p = true → bo ≤ p := fun p h1 h2 h3 => by
        have e := (s0 p h1 h2).2.2
        rw [h3, if_pos rfl] at e
        have := pq_le hV (3 * 0 + 2) p
        exact (b7 p h1 h2 (by rw [show S.1 (33 + 1) = S.1 (26 + 8) from rfl, e]; exact iv_nm1 (by omega))).1
      by_cases hlow : a - k * L < bo
      · have no : ∀ k2 : Int, k ≤ k2 → aq V set w 0 (a - k2 * L) = false := fun k2 h2 => by
          cases hq : aq V set w 0 (a - k2 * L) with
          | false => rfl
          | true =>
            have h3 := aq_50 hV hq
            have h4 := openA _ h3.1 h3.2 hq
            have h5 : k * L ≤ k2 * L := Int.mul_le_mul_of_nonneg_right h2 (by omega)
            omega
        refine ⟨S, ?_, Fr.rf, hM, ?_⟩
        · rw [lp_X1_pushFrom_2, ← hk, if_neg (by rw [c_101]; exact n_lt (by omega)), m4, b1, iv_mul, iv_sub, if_pos (y_lt hlow)]
        · have e : fb_sm (fun i => Hq V set w L G a ((i : Int) + 1)) 101 = fb_sm (fun i => Hq V set w L G a ((i : Int) + 1)) i := by
            have z : fb_sm (fun j => Hq V set w L G a (((i + j : Nat) : Int) + 1)) (d + 1) = 0 := fb_sm_0 (fun j hj => by
              unfold Hq
              rw [no _ (by omega)]
              rfl)
            rw [show 101 = i + (d + 1) by omega, fb_sm_split, z, Nat.add_zero]
          rw [e]
          refine hA.cg (fun a2 k2 b2 => ?_)
          constructor
          · rintro (q | ⟨q, q2, q3⟩)
            · exact Or.inl q
            · exact Or.inr ⟨q, by omega, q3⟩
          · rintro (q | ⟨q, q2, q3⟩)
            · exact Or.inl q
            · refine Or.inr ⟨q, ⟨q2.1, ?_⟩, q3⟩
              rcases Int.lt_or_le (i : Int) k2 with z | z
              · have := q3.1
                rw [no k2 (by omega)] at this
                cases this
              · exact z
      · have hp : -50 ≤ a - k * L ∧ a - k * L ≤ 50 := by omega
        have head : lp_X1_pushFrom_2 (iv a) (f1 + 1) (iv k) S = if S.1 34 (ix (a - k * L)) = -1 then lp_X1_pushFrom_2 (iv a) f1 (iv (k + 1)) S else (f_X1_meet (iv a) (iv k) S).bind fun S6 => lp_X1_pushFrom_2 (iv a) f1 (iv (k + 1)) S6 := by
          rw [lp_X1_pushFrom_2, if_neg (by rw [c_101]; exact n_lt (by omega)), m4, b1, iv_mul, iv_sub, if_neg (n_lt (by omega)), s_isOpen hp, ob, iv_one]
          show (if (if S.1 34 (ix (a - k * L)) = -1 then (0 : Int32) else 1) = 0 then _ else _) = _
          by_cases c : S.1 34 (ix (a - k * L)) = -1
          · rw [if_pos c, if_pos rfl, if_pos c]
          · rw [if_neg c, if_neg (by decide), if_neg c]
        have j3 : S.1 34 (ix (a - k * L)) = if aq V set w 0 (a - k * L) then iv (pq V 2 (a - k * L) : Int) else -1 := (s0 _ hp.1 hp.2).2.2
        have hpq := pq_le hV 2 (a - k * L)
        have ek : k + 1 = ((i + 1 : Nat) : Int) + 1 := by omega
        cases hq : aq V set w 0 (a - k * L) with
        | false =>
          rw [hq, if_neg (by decide)] at j3
          obtain ⟨S1, e1, f2, g1, g2⟩ := ih (i + 1) f1 S (by omega) (by omega) hM hao (by
            have e : Hq V set w L G a k = 0 := by unfold Hq; rw [hq]; rfl
            rw [sumS, e, Nat.add_zero]
            refine hA.cg (fun a2 k2 b2 => ?_)
            constructor
            · rintro (q | ⟨q, q2, q3⟩)
              · exact Or.inl q
              · exact Or.inr ⟨q, by omega, q3⟩
            · rintro (q | ⟨q, q2, q3⟩)
              · exact Or.inl q
              · refine Or.inr ⟨q, ⟨q2.1, ?_⟩, q3⟩
                rcases Int.lt_or_le (i : Int) k2 with z | z
                · have := q3.1
                  rw [show k2 = k by omega, hq] at this
                  cases this
                · exact z)
          exact ⟨S1, by rw [← hk, head, if_pos j3, ek]; exact e1, f2, g1, g2⟩
        | true =>
          rw [hq, if_pos rfl] at j3
          have jo : S.1 34 (ix (a - k * L)) ≠ -1 := by rw [j3]; exact iv_nm1 (by omega)
          obtain ⟨S6, e6, f6, M6, A6⟩ := acc_meet hV hL hG (k := k) (by omega) hM ha hp hao jo hA
          obtain ⟨S1, e1, f2, g1, g2⟩ := ih (i + 1) f1 S6 (by omega) (by omega) M6 (by rw [f6.1 31 (by decide)]; exact hao) (by
            have e : Hq V set w L G a k = sm (mtq V set w L G a k) * nq V set w 0 a := by unfold Hq; rw [hq, if_pos rfl]
            rw [sumS, e, ← Nat.add_assoc]
            refine A6.cg (fun a2 k2 b2 => ?_)
            constructor
            · rintro ((q | ⟨q, q2, q3⟩) | ⟨q, q2, q3⟩)
              · exact Or.inl q
              · exact Or.inr ⟨q, by omega, q3⟩
              · subst q2
                exact Or.inr ⟨q, by omega, hq, q3⟩
            · rintro (q | ⟨q, q2, q3⟩)
              · exact Or.inl (Or.inl q)
              · by_cases z : k2 = k
                · subst z
                  exact Or.inr ⟨q, rfl, q3.2⟩
                · exact Or.inl (Or.inr ⟨q, by omega, q3⟩))
          exact ⟨S1, by rw [← hk, head, if_neg jo, e6, ob, ek]; exact e1, f6.tr f2, g1, g2⟩
  obtain ⟨S1, h1, h2, h3, h4⟩ := key 101 0 FU S (by omega) (by decide) hM hao (by
    refine hA.cg (fun a2 k2 b2 => ?_)
    constructor
    · exact Or.inl
    · rintro (q | ⟨q, q2, q3⟩)
      · exact q
      · omega)
  exact ⟨S1, h1, h2, h3, h4⟩
end
section
/-! all AT of car 0 -/
def TT (V : Vw) (set : Nat) (w L G a k b : Int) : Prop := (-50 ≤ a ∧ a ≤ 50) ∧ 0 < nq V set w 0 a ∧ (1 ≤ k ∧ k ≤ 101) ∧ Tq V set w L G a k b
def Nq (V : Vw) (set : Nat) (w L G a : Int) : Nat := fb_sm (fun i => Hq V set w L G a ((i : Int) + 1)) 101
theorem Nq_0 {V : Vw} {set : Nat} {w L G a : Int} (h : nq V set w 0 a = 0) : Nq V set w L G a = 0 := fb_sm_0 (fun i hi => by
  unfold Hq
  rw [h, Nat.mul_zero]
  split <;> rfl)
theorem s_mainloop {V : Vw} (hV : VOk V) {set : Nat} {w L G : Int} (hL : 1 ≤ L ∧ L ≤ 100) (hG : 1 ≤ G ∧ G ≤ 100) {S : QS} (hM : Md V set w L G S) (hA : Acc V set w L G (fun _ _ _ => False) 0 S) :
    ∃ S1, lp_X1_reckon_77 FU (S.1 30 2) S = some S1 ∧ Fr [25, 32, 35, 43, 46] S S1 ∧ Md V set w L G S1 ∧ Acc V set w L G (TT V set w L G) (sm (Nq V set w L G)) S1 := by
  obtain ⟨-, -, t0, -, ⟨bo, to, b1, b2, b3, b4, b5, b6, b7⟩, -, -, -⟩ := id hM
  have opn : ∀ (s : QS), Fr [25, 32, 35, 43, 46] S s → ∀ a, -50 ≤ a → a ≤ 50 → (s.1 31 (ix a) ≠ -1 ↔ 0 < nq V set w 0 a) := fun s hf a h1 h2 => by
    rw [hf.1 31 (by decide)]
    exact ((t0 a h1 h2).1.ne).trans PA_ex
  have inb : ∀ a, -50 ≤ a → a ≤ 50 → 0 < nq V set w 0 a → bo ≤ a ∧ a ≤ to := fun a h1 h2 h3 => b7 a h1 h2 ((opn S Fr.rf a h1 h2).mpr h3)
  by_cases hle : bo ≤ to
  · have main := up_loop (fun fuel a (s : QS) => lp_X1_reckon_77 fuel a s) (fun a s => Fr [25, 32, 35, 43, 46] S s ∧ Md V set w L G s ∧ Acc V set w L G (fun a2 k2 b2 => a2 < a ∧ TT V set w L G a2 k2 b2) (smv (Nq V set w L G) a) s) bo to
      (fun fuel a s h3 h4 hI => by
        obtain ⟨i1, i2, i3⟩ := hI
        have ha : -50 ≤ a ∧ a ≤ 50 := by omega
        have hS := smv_s (Nq V set w L G) (v := a) ha.1
        have e3 : s.1 30 3 = iv to := by rw [i1.1 30 (by decide)]; exact b2
        have head : lp_X1_reckon_77 (fuel + 1) (iv a) s = if s.1 31 (ix a) = -1 then lp_X1_reckon_77 fuel (iv (a + 1)) s else (f_X1_pushFrom (iv a) s).bind fun S23 => lp_X1_reckon_77 fuel (iv (a + 1)) S23 := by
          rw [lp_X1_reckon_77, e3, if_neg (n_lt (a := to) (b := a) h4), s_isOpen ha, ob, iv_one]
          show (if (if s.1 31 (ix a) = -1 then (0 : Int32) else 1) = 0 then _ else _) = _
          by_cases c : s.1 31 (ix a) = -1
          · rw [if_pos c, if_pos rfl, if_pos c]
          · rw [if_neg c, if_neg (by decide), if_neg c]
        by_cases c : s.1 31 (ix a) = -1
        · have hz : ¬ 0 < nq V set w 0 a := fun z => ((opn s i1 a ha.1 ha.2).mpr z) c
          refine ⟨s, ?_, i1, i2, ?_⟩
          · show lp_X1_reckon_77 (fuel + 1) (iv a) s = lp_X1_reckon_77 fuel (iv (a + 1)) s
            rw [head, if_pos c]
          · rw [hS, Nq_0 (by omega), Nat.add_zero]
            refine i3.cg (fun a2 k2 b2 => ?_)
            constructor
            · rintro ⟨q, q2⟩
              exact ⟨by omega, q2⟩
            · rintro ⟨q, q2⟩
              refine ⟨?_, q2⟩
              rcases Int.lt_or_le a2 a with z | z
              · exact z
              · have e : a2 = a := by omega
                rw [e] at q2
                exact absurd q2.2.1 hz
        · have hz : 0 < nq V set w 0 a := (opn s i1 a ha.1 ha.2).mp c
          obtain ⟨s1, e1, f1, g1, g2⟩ := s_pushFrom hV hL hG ha i2 c i3
          refine ⟨s1, ?_, i1.tr f1, g1, ?_⟩
          · show lp_X1_reckon_77 (fuel + 1) (iv a) s = lp_X1_reckon_77 fuel (iv (a + 1)) s1
            rw [head, if_neg c, e1, ob]
          · rw [hS]
            refine Acc.cg g2 (fun a2 k2 b2 => ?_)
            constructor
            · rintro (⟨q, q2⟩ | ⟨rfl, q2, q3⟩)
              · exact ⟨by omega, q2⟩
              · exact ⟨by omega, ha, hz, q2, q3⟩
            · rintro ⟨q, q2⟩
              by_cases z : a2 = a
              · subst z
                exact Or.inr ⟨rfl, q2.2.2.1, q2.2.2.2⟩
              · exact Or.inl ⟨by omega, q2⟩)
      (to + 1 - bo).toNat FU bo S (by omega) (by omega) (by show _ < 1100; omega) ⟨Fr.rf, hM, by
        rw [smv_z (fun a h1 h2 => Nq_0 (by
          rcases Nat.eq_zero_or_pos (nq V set w 0 a) with z | z
          · exact z
          · have := inb a h1 (by omega) z
            omega))]
        refine hA.cg (fun a2 k2 b2 => ?_)
        constructor
        · exact False.elim
        · rintro ⟨q, q2, q3, -⟩
          have := inb a2 q2.1 q2.2 q3
          omega⟩
    obtain ⟨s1, f1, e1, i1, i2, i3⟩ := main
    refine ⟨s1, ?_, i1, i2, ?_⟩
    · have e2 : lp_X1_reckon_77 FU (iv bo) S = lp_X1_reckon_77 (f1 + 1) (iv (to + 1)) s1 := e1
      have e3 : s1.1 30 3 = iv to := by rw [i1.1 30 (by decide)]; exact b2
      rw [b1, e2, lp_X1_reckon_77, e3, if_pos (y_lt (a := to) (b := to + 1) (by omega))]
    · rw [← smv_up (v := to + 1) (by omega) (by omega) (fun a h1 h2 => Nq_0 (by
        rcases Nat.eq_zero_or_pos (nq V set w 0 a) with z | z
        · exact z
        · have := inb a (by omega) h2 z
          omega))]
      refine i3.cg (fun a2 k2 b2 => ?_)
      constructor
      · exact fun q => q.2
      · intro q
        have := inb a2 q.1.1 q.1.2 q.2.1
        exact ⟨by omega, q⟩
  · have no : ∀ a, -50 ≤ a → a ≤ 50 → nq V set w 0 a = 0 := fun a h1 h2 => by
      rcases Nat.eq_zero_or_pos (nq V set w 0 a) with z | z
      · exact z
      · have := inb a h1 h2 z
        omega
    refine ⟨S, ?_, Fr.rf, hM, ?_⟩
    · rw [b1, show FU = 1099 + 1 from rfl, lp_X1_reckon_77, b2, if_pos (y_lt (a := to) (b := bo) (by omega))]
    · have e : sm (Nq V set w L G) = 0 := smv_z (fun a h1 h2 => Nq_0 (no a h1 (by omega)))
      rw [e]
      refine hA.cg (fun a2 k2 b2 => ?_)
      constructor
      · exact False.elim
      · rintro ⟨q2, q3, -⟩
        rw [no a2 q2.1 q2.2] at q3
        omega
end
section
/-! FIRST is seen where AT is -/
theorem s_seeIn {V : Vw} (hV : VOk V) {set : Nat} {w : Int} {c k : Nat} {S : QS} (hc : CF V set w c k S) {v : Int} (hv : -50 ≤ v ∧ v ≤ 50) (hs : S.1 (k + 6) (ix v) = 1) {Q : Int → Prop} (hQ : ∀ f, -50 ≤ f → f ≤ 50 → Flag (S.1 (k + 3) (ix f)) (Q f)) :
    ∃ S1, lp_X0_seeFirsts_24 k (iv v) FU (iv (if 0 ≤ v then v else -v)) S = some S1 ∧ Fr [k + 3] S S1 ∧ ∀ f, -50 ≤ f → f ≤ 50 → Flag (S1.1 (k + 3) (ix f)) (Q f ∨ fq V set w c f v = true) := by
  have b1 := sL_b hV w c false
  have b3 := sH_b hV w c false
  obtain ⟨v0, hv0⟩ : ∃ v0, v0 = if 0 ≤ v then v else -v := ⟨_, rfl⟩
  have hv1 : 0 ≤ v0 ∧ v0 ≤ 50 ∧ v ≤ v0 ∧ -v ≤ v0 ∧ (v0 = v ∨ v0 = -v) := by rw [hv0]; split <;> omega
  rw [← hv0]
  have main := up_loop (fun fuel p (s : QS) => lp_X0_seeFirsts_24 k (iv v) fuel p s) (fun p s => Fr [k + 3] S s ∧ ∀ f, -50 ≤ f → f ≤ 50 → Flag (s.1 (k + 3) (ix f)) (Q f ∨ ∃ q, v0 ≤ q ∧ q < p ∧ fq V set w c (ff v q) v = true ∧ f = ff v q)) v0 50
    (fun fuel p s h3 h4 hI => by
      obtain ⟨i1, i2⟩ := hI
      have hpr : -50 ≤ p ∧ p ≤ 50 := by omega
      obtain ⟨c5, c6, -, -, -, cF⟩ := hc.fr (i1.1 k (by simp)) (i1.1 (k + 2) (by simp))
      have e6 : s.1 (k + 4 + 2) (ix v) = 1 := by rw [i1.1 (k + 4 + 2) (by simp)]; exact hs
      have hT := s_takenA (k := k) (S := s) hv hpr c5 c6 (by omega) (by omega)
      have hFQ := fq_hi (V := V) (set := set) (w := w) (c := c) (v := v) (p := p) (by omega) (by omega)
      have hff := ff_b (v := v) hpr
      have hFv := cF (ff v p) hff.1 hff.2
      have hpq := pq_le hV (3 * c) (ff v p)
      have head : lp_X0_seeFirsts_24 k (iv v) (fuel + 1) (iv p) s = if fq V set w c (ff v p) v = true then lp_X0_seeFirsts_24 k (iv v) fuel (iv (p + 1)) (setF (k + 1 + 2) (ix (ff v p)) 1 s) else lp_X0_seeFirsts_24 k (iv v) fuel (iv (p + 1)) s := by
        rw [lp_X0_seeFirsts_24, s_isSeen hv, e6, if_neg (by decide : ¬ (1 : Int32) = 0), ob, if_neg (by decide : ¬ (1 : Int32) = 0), if_neg (hi50 h4), hT, ob, iv_one]
        cases ht : (decide (sL V w c false ≤ 51 * (p * p - v * v)) && decide (51 * (p * p - v * v) ≤ sH V w c false)) with
        | false =>
          rw [if_pos (by decide), if_neg]
          rw [hFQ, ht, Bool.and_false]
          decide
        | true =>
          rw [if_neg (by decide), s_firstFor (by omega), ob, show (if 0 ≤ v then p else -p) = ff v p from rfl, s_isOpen hff, ob, show s.1 (k + 1 + 1) (ix (ff v p)) = s.1 (k + 2) (ix (ff v p)) from rfl, hFv, hFQ, ht, Bool.and_true]
          cases hl : lq V set (3 * c) (ff v p) with
          | false => rw [if_neg (by decide : ¬ (false = true)), if_pos rfl, if_pos rfl, if_neg (by decide : ¬ (false = true))]
          | true => rw [if_pos (rfl : true = true), if_neg (iv_nm1 (by omega)), if_neg (by decide), ob, s_see hff, ob, if_pos (rfl : true = true)]
      by_cases g : fq V set w c (ff v p) v = true
      · refine ⟨setF (k + 1 + 2) (ix (ff v p)) 1 s, ?_, i1.tr (Fr.set (by simp)), fun f h1 h2 => ?_⟩
        · show lp_X0_seeFirsts_24 k (iv v) (fuel + 1) (iv p) s = _
          rw [head, if_pos g]
        · by_cases e : f = ff v p
          · subst e
            exact Or.inl ⟨st_eq _ _ _ _, Or.inr ⟨p, h3, by omega, g, rfl⟩⟩
          · have e9 : (setF (k + 1 + 2) (ix (ff v p)) 1 s).1 (k + 3) (ix f) = s.1 (k + 3) (ix f) := st_nej (ix_ne h1 hff.1 e)
            rw [e9]
            refine (i2 f h1 h2).cg ?_
            constructor
            · rintro (q | ⟨q, q1, q2, q3, q4⟩)
              · exact Or.inl q
              · exact Or.inr ⟨q, q1, by omega, q3, q4⟩
            · rintro (q | ⟨q, q1, q2, q3, q4⟩)
              · exact Or.inl q
              · by_cases z : q = p
                · subst z
                  exact absurd q4 e
                · exact Or.inr ⟨q, q1, by omega, q3, q4⟩
      · refine ⟨s, ?_, i1, fun f h1 h2 => (i2 f h1 h2).cg ?_⟩
        · show lp_X0_seeFirsts_24 k (iv v) (fuel + 1) (iv p) s = _
          rw [head, if_neg g]
        · constructor
          · rintro (q | ⟨q, q1, q2, q3, q4⟩)
            · exact Or.inl q
            · exact Or.inr ⟨q, q1, by omega, q3, q4⟩
          · rintro (q | ⟨q, q1, q2, q3, q4⟩)
            · exact Or.inl q
            · by_cases z : q = p
              · subst z
                exact absurd q3 g
              · exact Or.inr ⟨q, q1, by omega, q3, q4⟩)
    (51 - v0).toNat FU v0 S (by omega) (by omega) (by show _ < 1100; omega) ⟨Fr.rf, fun f h1 h2 => (hQ f h1 h2).cg ⟨Or.inl, fun z => z.elim id (fun ⟨q, q1, q2, _⟩ => by omega)⟩⟩
  obtain ⟨s1, f1, e1, i1, i2⟩ := main
  refine ⟨s1, ?_, i1, fun f h1 h2 => (i2 f h1 h2).cg ?_⟩
  · have e2 : lp_X0_seeFirsts_24 k (iv v) FU (iv v0) S = lp_X0_seeFirsts_24 k (iv v) (f1 + 1) (iv (50 + 1)) s1 := e1
    have e6 : s1.1 (k + 4 + 2) (ix v) = 1 := by rw [i1.1 (k + 4 + 2) (by simp)]; exact hs
    rw [e2, show (50 : Int) + 1 = 51 by rfl, lp_X0_seeFirsts_24, s_isSeen hv, e6, if_neg (by decide : ¬ (1 : Int32) = 0), ob, if_neg (by decide : ¬ (1 : Int32) = 0), if_pos gt50]
  · constructor
    · rintro (q | ⟨q, q1, q2, q3, q4⟩)
      · exact Or.inl q
      · rw [q4]
        exact Or.inr q3
    · rintro (q | q)
      · exact Or.inl q
      · have hffi : ff v (ff v f) = f := by unfold ff; split <;> omega
        have hb := ff_b (v := v) (p := f) ⟨h1, h2⟩
        refine Or.inr ⟨ff v f, ?_, by omega, by rw [hffi]; exact q, hffi.symm⟩
        rcases Int.lt_or_le (ff v f) v0 with z | z
        · have := fq_low hV (set := set) (w := w) (c := c) hv hb.1 (p := ff v f) (by omega)
          rw [hffi, q] at this
          cases this
        · exact z
theorem s_seeFirsts {V : Vw} (hV : VOk V) {set : Nat} {w : Int} {c k : Nat} {S : QS} (hc : CF V set w c k S) {bo to : Int} (hb : S.1 (k + 4) 2 = iv bo) (ht : S.1 (k + 4) 3 = iv to) (b3 : -50 ≤ bo) (b4 : bo ≤ 51) (b5 : -51 ≤ to) (b6 : to ≤ 50) {P : Int → Prop}
    (hP : ∀ u, -50 ≤ u → u ≤ 50 → Flag (S.1 (k + 6) (ix u)) (P u)) (hin : ∀ u, -50 ≤ u → u ≤ 50 → P u → bo ≤ u ∧ u ≤ to) (h0 : ∀ f, -50 ≤ f → f ≤ 50 → S.1 (k + 3) (ix f) = 0) :
    ∃ S1, f_X0_seeFirsts k S = some S1 ∧ Fr [k + 3] S S1 ∧ ∀ f, -50 ≤ f → f ≤ 50 → Flag (S1.1 (k + 3) (ix f)) (∃ u, (-50 ≤ u ∧ u ≤ 50) ∧ P u ∧ fq V set w c f u = true) := by
  unfold f_X0_seeFirsts
  by_cases hle : bo ≤ to
  · have main := up_loop (fun fuel a (s : QS) => lp_X0_seeFirsts_8 k fuel a s) (fun a s => Fr [k + 3] S s ∧ ∀ f, -50 ≤ f → f ≤ 50 → Flag (s.1 (k + 3) (ix f)) (∃ u, ((-50 ≤ u ∧ u ≤ 50) ∧ u < a) ∧ P u ∧ fq V set w c f u = true)) bo to
      (fun fuel a s h3 h4 hI => by
        obtain ⟨i1, i2⟩ := hI
        have ha : -50 ≤ a ∧ a ≤ 50 := by omega
        have hc1 := hc.fr (i1.1 k (by simp)) (i1.1 (k + 2) (by simp))
        have e3 : s.1 (k + 4) 3 = iv to := by rw [i1.1 (k + 4) (by simp)]; exact ht
        have e6 : s.1 (k + 6) (ix a) = S.1 (k + 6) (ix a) := by rw [i1.1 (k + 6) (by simp)]
        rcases hP a ha.1 ha.2 with ⟨q1, q2⟩ | ⟨q1, q2⟩
        · obtain ⟨s1, e1, f1, g1⟩ := s_seeIn hV hc1 ha (by rw [e6]; exact q1) i2
          refine ⟨s1, ?_, i1.tr f1, fun f h1 h2 => (g1 f h1 h2).cg ?_⟩
          · show lp_X0_seeFirsts_8 k (fuel + 1) (iv a) s = lp_X0_seeFirsts_8 k fuel (iv (a + 1)) s1
            rw [lp_X0_seeFirsts_8, e3, if_neg (n_lt (a := to) (b := a) h4), iv_abs ha, e1, ob, iv_one]
          · constructor
            · rintro (⟨u, ⟨p1, p2⟩, p3, p4⟩ | p)
              · exact ⟨u, ⟨p1, by omega⟩, p3, p4⟩
              · exact ⟨a, ⟨ha, by omega⟩, q2, p⟩
            · rintro ⟨u, ⟨p1, p2⟩, p3, p4⟩
              by_cases z : u = a
              · subst z
                exact Or.inr p4
              · exact Or.inl ⟨u, ⟨p1, by omega⟩, p3, p4⟩
        · refine ⟨s, ?_, i1, fun f h1 h2 => (i2 f h1 h2).cg ?_⟩
          · show lp_X0_seeFirsts_8 k (fuel + 1) (iv a) s = lp_X0_seeFirsts_8 k fuel (iv (a + 1)) s
            have e7 : s.1 (k + 4 + 2) (ix a) = 0 := by rw [show s.1 (k + 4 + 2) (ix a) = s.1 (k + 6) (ix a) from rfl, e6]; exact q1
            have e8 : lp_X0_seeFirsts_24 k (iv a) FU (iv (if 0 ≤ a then a else -a)) s = some s := by
              rw [show FU = 1099 + 1 from rfl, lp_X0_seeFirsts_24, s_isSeen ha, e7, if_pos rfl, ob, if_pos rfl]
            rw [lp_X0_seeFirsts_8, e3, if_neg (n_lt (a := to) (b := a) h4), iv_abs ha, e8, ob, iv_one]
          · constructor
            · rintro ⟨u, ⟨p1, p2⟩, p3, p4⟩
              exact ⟨u, ⟨p1, by omega⟩, p3, p4⟩
            · rintro ⟨u, ⟨p1, p2⟩, p3, p4⟩
              by_cases z : u = a
              · subst z
                exact absurd p3 q2
              · exact ⟨u, ⟨p1, by omega⟩, p3, p4⟩)
      (to + 1 - bo).toNat FU bo S (by omega) (by omega) (by show _ < 1100; omega) ⟨Fr.rf, fun f h1 h2 => Or.inr ⟨h0 f h1 h2, fun ⟨u, ⟨p1, p2⟩, p3, _⟩ => by have := hin u p1.1 p1.2 p3; omega⟩⟩
    obtain ⟨s1, f1, e1, i1, i2⟩ := main
    refine ⟨s1, ?_, i1, fun f h1 h2 => (i2 f h1 h2).cg ?_⟩
    · have e2 : lp_X0_seeFirsts_8 k FU (iv bo) S = lp_X0_seeFirsts_8 k (f1 + 1) (iv (to + 1)) s1 := e1
      have e3 : s1.1 (k + 4) 3 = iv to := by rw [i1.1 (k + 4) (by simp)]; exact ht
      rw [hb, e2, lp_X0_seeFirsts_8, e3, if_pos (y_lt (a := to) (b := to + 1) (by omega))]
    · constructor
      · rintro ⟨u, ⟨p1, p2⟩, p3, p4⟩
        exact ⟨u, p1, p3, p4⟩
      · rintro ⟨u, p1, p3, p4⟩
        have := hin u p1.1 p1.2 p3
        exact ⟨u, ⟨p1, by omega⟩, p3, p4⟩
  · refine ⟨S, ?_, Fr.rf, fun f h1 h2 => Or.inr ⟨h0 f h1 h2, fun ⟨u, p1, p3, _⟩ => by have := hin u p1.1 p1.2 p3; omega⟩⟩
    rw [hb, show FU = 1099 + 1 from rfl, lp_X0_seeFirsts_8, ht, if_pos (y_lt (a := to) (b := bo) (by omega))]
end
section
/-! the meeting reckoned -/
def qL (V : Vw) : Int := (((vM V 1).toNat / Nat.gcd (vM V 1).toNat (vM V 0).toNat : Nat) : Int)
def qG (V : Vw) : Int := (((vM V 0).toNat / Nat.gcd (vM V 0).toNat (vM V 1).toNat : Nat) : Int)
theorem share_b {m o : Nat} (hm : 1 ≤ m ∧ m ≤ 100) : 1 ≤ ((m / Nat.gcd m o : Nat) : Int) ∧ ((m / Nat.gcd m o : Nat) : Int) ≤ 100 := by
  have h1 : Nat.gcd m o ∣ m := Nat.gcd_dvd_left m o
  have h2 : 0 < Nat.gcd m o := Nat.gcd_pos_of_pos_left o (by omega)
  have h3 : Nat.gcd m o ≤ m := Nat.le_of_dvd (by omega) h1
  have h4 : 1 ≤ m / Nat.gcd m o := (Nat.one_le_div_iff h2).mpr h3
  have h5 : m / Nat.gcd m o ≤ m := Nat.div_le_self _ _
  omega
/-- the prices and what is seen before the meeting is reckoned -/
def Ready (V : Vw) (set : Nat) (w : Int) (S : QS) : Prop := (S.1 26 0 = iv (vM V 0) ∧ S.1 37 0 = iv (vM V 1)) ∧ CF V set w 0 26 S ∧ CF V set w 1 37 S ∧
  (∀ v, -50 ≤ v → v ≤ 50 → (S.1 31 (ix v) = if lq V set 1 v then iv (pq V 1 v : Int) else -1) ∧ (S.1 34 (ix v) = if lq V set 2 v then iv (pq V 2 v : Int) else -1) ∧ (S.1 42 (ix v) = if lq V set 4 v then iv (pq V 4 v : Int) else -1) ∧ (S.1 45 (ix v) = if lq V set 5 v then iv (pq V 5 v : Int) else -1)) ∧
  ∀ k, k ∈ [29, 32, 35, 40, 43, 46] → ∀ v, -50 ≤ v → v ≤ 50 → S.1 k (ix v) = 0
/-- what the desk shows once it has reckoned -/
def Res (V : Vw) (set : Nat) (w : Int) (S : QS) : Prop := Acc V set w (qL V) (qG V) (TT V set w (qL V) (qG V)) (sm (Nq V set w (qL V) (qG V))) S ∧
  (∀ f, -50 ≤ f → f ≤ 50 → Flag (S.1 29 (ix f)) (∃ u, (-50 ≤ u ∧ u ≤ 50) ∧ (∃ k b, TT V set w (qL V) (qG V) u k b) ∧ fq V set w 0 f u = true)) ∧
  ∀ f, -50 ≤ f → f ≤ 50 → Flag (S.1 40 (ix f)) (∃ u, (-50 ≤ u ∧ u ≤ 50) ∧ (∃ a k, TT V set w (qL V) (qG V) a k u) ∧ fq V set w 1 f u = true)
theorem s_reckon1 {V : Vw} (hV : VOk V) {set : Nat} {w : Int} {S : QS} (hR : Ready V set w S) :
    ∃ S1, f_X1_reckon S = some S1 ∧ Fr [25, 29, 30, 31, 32, 33, 34, 35, 36, 40, 41, 42, 43, 44, 45, 46, 47] S S1 ∧ (∀ r, r < 6 → S1.1 (kp r) 0 = S.1 (kp r) 0 ∧ S1.1 (kp r) 1 = S.1 (kp r) 1) ∧ Res V set w S1 := by
  obtain ⟨⟨m0, m1⟩, hc0, hc1, hp, hz⟩ := hR
  have M0 := hV.1 0 (by decide)
  have M1 := hV.1 1 (by decide)
  obtain ⟨s0, hs0⟩ : ∃ s0, s0 = setF 25 5 (iv (qG V)) (setF 25 4 (iv (qL V)) (setF 25 3 (-1) (setL 25 0 S))) := ⟨_, rfl⟩
  have f0 : Fr [25] S s0 := by
    rw [hs0]
    exact (((Fr.setL (by simp)).tr (Fr.set (by simp))).tr (Fr.set (by simp))).tr (Fr.set (by simp))
  have k0 : ∀ j, j ≠ 25 → s0.1 j = S.1 j := fun j hj => f0.1 j (nm1 hj)
  have hL : 1 ≤ qL V ∧ qL V ≤ 100 := share_b (by omega)
  have hG : 1 ≤ qG V ∧ qG V ≤ 100 := share_b (by omega)
  obtain ⟨s1, e1, f1, g1, a1, bn1, bn2⟩ := s_settle hV (c := 0) (k := 26) (S := s0) (hc0.fr (k0 26 (by decide)) (k0 28 (by decide))) (fun v h1 h2 => by rw [k0 31 (by decide)]; exact (hp v h1 h2).1) (fun v h1 h2 => by rw [k0 34 (by decide)]; exact (hp v h1 h2).2.1)
  have k1 : ∀ j, j ∉ [30, 31, 33, 34, 36] → s1.1 j = s0.1 j := fun j hj => f1.1 j hj
  obtain ⟨s2, e2, f2, g2, a2, bn3, bn4⟩ := s_settle hV (c := 1) (k := 37) (S := s1) (hc1.fr (by rw [k1 37 (by decide), k0 37 (by decide)]) (by rw [k1 39 (by decide), k0 39 (by decide)])) (fun v h1 h2 => by rw [k1 42 (by decide), k0 42 (by decide)]; exact (hp v h1 h2).2.2.1) (fun v h1 h2 => by rw [k1 45 (by decide), k0 45 (by decide)]; exact (hp v h1 h2).2.2.2)
  have k2 : ∀ j, j ∉ [41, 42, 44, 45, 47] → s2.1 j = s1.1 j := fun j hj => f2.1 j hj
  have l2 : s2.2 25 = lN 0 := by rw [f2.2 25 (by decide), f1.2 25 (by decide), hs0]; rfl
  have c3 : s2.1 25 3 = -1 := by rw [k2 25 (by decide), k1 25 (by decide), hs0, st_nej (by decide), st_nej (by decide), st_eq]
  have c4 : s2.1 25 4 = iv (qL V) := by rw [k2 25 (by decide), k1 25 (by decide), hs0, st_nej (by decide), st_eq]
  have c5 : s2.1 25 5 = iv (qG V) := by rw [k2 25 (by decide), k1 25 (by decide), hs0, st_eq]
  have hM : Md V set w (qL V) (qG V) s2 := ⟨c4, c5, fun u h1 h2 => (a1 u h1 h2).fr (by rw [k2 (26 + 5) (by decide)]) (by rw [k2 (26 + 10) (by decide)]) (by rw [k2 (26 + 8) (by decide)]), a2, bn1.fr (k2 30 (by decide)) (k2 31 (by decide)), bn2.fr (k2 33 (by decide)) (k2 34 (by decide)), bn3, bn4⟩
  have z2 : ∀ k, k ∈ [29, 32, 35, 40, 43, 46] → ∀ v, -50 ≤ v → v ≤ 50 → s2.1 k (ix v) = 0 := fun k hk v h1 h2 => by
    have e : s2.1 k = S.1 k := by
      simp only [List.mem_cons, List.not_mem_nil, or_false] at hk
      rcases hk with rfl | rfl | rfl | rfl | rfl | rfl <;> rw [k2 _ (by decide), k1 _ (by decide), k0 _ (by decide)]
    rw [e]
    exact hz k hk v h1 h2
  have hA : Acc V set w (qL V) (qG V) (fun _ _ _ => False) 0 s2 := ⟨l2, by rw [c3]; exact MinP.none (fun x ⟨_, _, _, q, _⟩ => q), fun u h1 h2 => ⟨Or.inr ⟨z2 32 (by decide) u h1 h2, fun ⟨_, _, q⟩ => q⟩, Or.inr ⟨z2 35 (by decide) u h1 h2, fun ⟨_, _, _, q, _⟩ => q⟩, Or.inr ⟨z2 43 (by decide) u h1 h2, fun ⟨_, _, q⟩ => q⟩, Or.inr ⟨z2 46 (by decide) u h1 h2, fun ⟨_, _, _, q, _⟩ => q⟩⟩⟩
  obtain ⟨s3, e3, f3, hM3, hA3⟩ := s_mainloop hV hL hG hM hA
  have k3 : ∀ j, j ∉ [25, 32, 35, 43, 46] → s3.1 j = s2.1 j := fun j hj => f3.1 j hj
  obtain ⟨m4, m5, t0, t1, ⟨bo, to, b1, b2, b3, b4, b5, b6, b7⟩, -, ⟨bo2, to2, d1, d2, d3, d4, d5, d6, d7⟩, -⟩ := id hM3
  obtain ⟨s4, e4, f4, g4⟩ := s_seeFirsts hV (c := 0) (k := 26) (S := s3) (hc0.fr (by rw [k3 26 (by decide), k2 26 (by decide), k1 26 (by decide), k0 26 (by decide)]) (by rw [k3 28 (by decide), k2 28 (by decide), k1 28 (by decide), k0 28 (by decide)])) b1 b2 b3 b4 b5 b6
    (P := fun u => ∃ k b, TT V set w (qL V) (qG V) u k b) (fun u h1 h2 => (hA3.2.2 u h1 h2).1) (fun u h1 h2 ⟨k, b, q⟩ => b7 u h1 h2 ((t0 u h1 h2).1.ne.mpr (PA_ex.mpr q.2.1))) (fun f h1 h2 => by rw [show s3.1 (26 + 3) = s3.1 29 from rfl, k3 29 (by decide)]; exact z2 29 (by decide) f h1 h2)
  have k4 : ∀ j, j ≠ 29 → s4.1 j = s3.1 j := fun j hj => f4.1 j (nm1 hj)
  obtain ⟨s5, e5, f5, g5⟩ := s_seeFirsts hV (c := 1) (k := 37) (S := s4) (hc1.fr (by rw [k4 37 (by decide), k3 37 (by decide), k2 37 (by decide), k1 37 (by decide), k0 37 (by decide)]) (by rw [k4 39 (by decide), k3 39 (by decide), k2 39 (by decide), k1 39 (by decide), k0 39 (by decide)])) (by rw [k4 (37 + 4) (by decide)]; exact d1) (by rw [k4 (37 + 4) (by decide)]; exact d2) d3 d4 d5 d6
    (P := fun u => ∃ a k, TT V set w (qL V) (qG V) a k u) (fun u h1 h2 => by rw [k4 (37 + 6) (by decide)]; exact (hA3.2.2 u h1 h2).2.2.1) (fun u h1 h2 ⟨a, k, q⟩ => d7 u h1 h2 ((t1 u h1 h2).1.ne.mpr (PA_ex.mpr (by
      have h4 := q.2.2.2.2.2
      simp only [Bool.and_eq_true] at h4
      have h5 := h4.2
      unfold okq at h5
      simp only [Bool.and_eq_true, decide_eq_true_eq] at h5
      exact h5.1)))) (fun f h1 h2 => by rw [show s4.1 (37 + 3) = s4.1 40 from rfl, k4 40 (by decide), k3 40 (by decide)]; exact z2 40 (by decide) f h1 h2)
  have k5 : ∀ j, j ≠ 40 → s5.1 j = s4.1 j := fun j hj => f5.1 j (nm1 hj)
  have fl : ∀ j, j ≠ 29 → j ≠ 40 → s5.1 j = s3.1 j := fun j h1 h2 => by rw [k5 j h2, k4 j h1]
  refine ⟨s5, ?_, ?_, fun r hr => ?_, ⟨?_, ?_, fun f h1 h2 => ?_⟩, fun f h1 h2 => ?_, fun f h1 h2 => ?_⟩
  · unfold f_X1_reckon
    show (f_X1_lowestShare (S.1 37 0) (S.1 26 0)).bind _ = _
    have q1 : f_X1_lowestShare (iv (vM V 1)) (iv (vM V 0)) = some (iv (qL V)) := by
      have h := s_share (m := (vM V 1).toNat) (o := (vM V 0).toNat) (by omega) (by omega)
      rw [Int.toNat_of_nonneg (by omega), Int.toNat_of_nonneg (by omega)] at h
      exact h
    have q2 : f_X1_lowestShare (iv (vM V 0)) (iv (vM V 1)) = some (iv (qG V)) := by
      have h := s_share (m := (vM V 0).toNat) (o := (vM V 1).toNat) (by omega) (by omega)
      rw [Int.toNat_of_nonneg (by omega), Int.toNat_of_nonneg (by omega)] at h
      exact h
    rw [m0, m1, q1, ob]
    show (f_X1_lowestShare ((setF 25 4 (iv (qL V)) (setF 25 3 (-1) (setL 25 0 S))).1 26 0) ((setF 25 4 (iv (qL V)) (setF 25 3 (-1) (setL 25 0 S))).1 37 0)).bind _ = _
    rw [st_nek (by decide), st_nek (by decide), st_nek (by decide), st_nek (by decide), sl_1, m0, m1, q2, ob]
    show (f_X0_settle 26 (setF 25 5 (iv (qG V)) (setF 25 4 (iv (qL V)) (setF 25 3 (-1) (setL 25 0 S))))).bind _ = _
    rw [← hs0, e1, ob, e2, ob, e3, ob, e4, ob, e5, ob]
  · exact (((((f0.mono (by simp)).tr (f1.mono (by simp))).tr (f2.mono (by simp))).tr (f3.mono (by simp))).tr (f4.mono (by simp))).tr (f5.mono (by simp))
  · rcases (show r = 0 ∨ r = 1 ∨ r = 2 ∨ r = 3 ∨ r = 4 ∨ r = 5 by omega) with rfl | rfl | rfl | rfl | rfl | rfl
    · rw [show kp 0 = 27 from rfl, fl 27 (by decide) (by decide), k3 27 (by decide), k2 27 (by decide), k1 27 (by decide), k0 27 (by decide)]
      exact ⟨rfl, rfl⟩
    · rw [show kp 1 = 30 from rfl, fl 30 (by decide) (by decide), k3 30 (by decide), k2 30 (by decide), ← k0 30 (by decide)]
      exact ⟨g1.1, g1.2.1⟩
    · rw [show kp 2 = 33 from rfl, fl 33 (by decide) (by decide), k3 33 (by decide), k2 33 (by decide), ← k0 33 (by decide)]
      exact ⟨g1.2.2.1, g1.2.2.2⟩
    · rw [show kp 3 = 38 from rfl, fl 38 (by decide) (by decide), k3 38 (by decide), k2 38 (by decide), k1 38 (by decide), k0 38 (by decide)]
      exact ⟨rfl, rfl⟩
    · rw [show kp 4 = 41 from rfl, fl 41 (by decide) (by decide), k3 41 (by decide), ← k0 41 (by decide), ← k1 41 (by decide)]
      exact ⟨g2.1, g2.2.1⟩
    · rw [show kp 5 = 44 from rfl, fl 44 (by decide) (by decide), k3 44 (by decide), ← k0 44 (by decide), ← k1 44 (by decide)]
      exact ⟨g2.2.2.1, g2.2.2.2⟩
  · rw [f5.2 25 (by decide), f4.2 25 (by decide)]
    exact hA3.1
  · rw [fl 25 (by decide) (by decide)]
    exact hA3.2.1
  · rw [fl 32 (by decide) (by decide), fl 35 (by decide) (by decide), fl 43 (by decide) (by decide), fl 46 (by decide) (by decide)]
    exact hA3.2.2 f h1 h2
  · rw [k5 29 (by decide)]
    exact g4 f h1 h2
  · exact g5 f h1 h2
end
section
/-! the desk reckons -/
def rowOf (c j : Nat) : Nat := 3 * c + j / 3
theorem pz_0 {V : Vw} {set r : Nat} {S : QS} (h : ∀ u, -50 ≤ u → u ≤ 50 → S.1 (kp r + 1) (ix u) = if vLo V r ≤ u ∧ u ≤ vHi V r then 0 else -1) : Pz V set 0 r S := by
  intro u h1 h2
  rw [h u h1 h2]
  have e : ltN V set r u 0 = (decide (vLo V r ≤ u) && decide (u ≤ vHi V r)) := by
    unfold ltN
    rw [show allB (fun t => !(tB V r u t && set.testBit t)) 0 = true from rfl, Bool.and_true]
  rw [e]
  by_cases c : vLo V r ≤ u ∧ u ≤ vHi V r
  · rw [if_pos c, decide_eq_true c.1, decide_eq_true c.2, if_pos (by decide)]
    rfl
  · rw [if_neg c, if_neg]
    intro z
    simp only [Bool.and_eq_true, decide_eq_true_eq] at z
    exact c z
theorem cl_hyp {V : Vw} (hV : VOk V) {S : QS} (hD : DR V S) {c : Nat} (hc : c < 2) : (∀ j, -1000 ≤ (if j < 9 then vLo V (rowOf c j) else 0) ∧ (if j < 9 then vLo V (rowOf c j) else 0) ≤ 1000 ∧ -1000 ≤ (if j < 9 then vHi V (rowOf c j) else 0) ∧ (if j < 9 then vHi V (rowOf c j) else 0) ≤ 1000) ∧
    ∀ j, j = 1 ∨ j = 4 ∨ j = 7 → S.1 (26 + 11 * c + j) 0 = iv (if j < 9 then vLo V (rowOf c j) else 0) ∧ S.1 (26 + 11 * c + j) 1 = iv (if j < 9 then vHi V (rowOf c j) else 0) := by
  refine ⟨fun j => ?_, fun j hj => ?_⟩
  · by_cases h : j < 9
    · have := hV.2.1 (rowOf c j) (by unfold rowOf; omega)
      rw [if_pos h, if_pos h]
      omega
    · rw [if_neg h, if_neg h]
      omega
  · have h := hD.2.1 (rowOf c j) (by unfold rowOf; omega)
    have e : kp (rowOf c j) = 26 + 11 * c + j := by
      rcases (show c = 0 ∨ c = 1 by omega) with rfl | rfl <;> rcases hj with rfl | rfl | rfl <;> rfl
    rw [e] at h
    rw [if_pos (by omega), if_pos (by omega)]
    exact h
theorem s_ct {V : Vw} (hV : VOk V) {set : Nat} (hset : set < 1024) {w : Int} (hw : -1 ≤ w ∧ w ≤ 100) {S : QS} (hD : DR V S) :
    ∃ S1, ct_X5_reckon_24 (nI set) (iv w) S = some S1 ∧ Dk S S1 ∧ (∀ k, 48 ≤ k → S1.1 k = S.1 k ∧ S1.2 k = S.2 k) ∧ Res V set w S1 ∧ S1.1 0 5 = 1 ∧ S1.1 0 6 = nI set ∧ S1.1 0 7 = iv w := by
  obtain ⟨hb0, hs0⟩ := cl_hyp hV hD (c := 0) (by decide)
  obtain ⟨s1, e1, f1, g1, a5, a6, a7, a8, a9, p1⟩ := s_carclear (k := 26) (S := S) hb0 hs0
  have k1 : ∀ j, j ∉ [26, 28, 29, 31, 32, 34, 35] → s1.1 j = S.1 j := fun j hj => f1.1 j hj
  have d1 : Dk S s1 := Dk.of2 f1 (by decide) g1 (by rw [k1 37 (by decide)])
  obtain ⟨hb1, hs1⟩ := cl_hyp hV (hD.dk hV d1) (c := 1) (by decide)
  obtain ⟨s2, e2, f2, g2, b5, b6, b7, b8, b9, p2⟩ := s_carclear (k := 37) (S := s1) hb1 hs1
  have k2 : ∀ j, j ∉ [37, 39, 40, 42, 43, 45, 46] → s2.1 j = s1.1 j := fun j hj => f2.1 j hj
  have d2 : Dk s1 s2 := Dk.of2 f2 (by decide) (by rw [k2 26 (by decide)]) g2
  have hD2 := (hD.dk hV d1).dk hV d2
  have hPz : ∀ r, r < 6 → Pz V set 0 r s2 := fun r hr => pz_0 (fun u h1 h2 => by
    rcases (show r = 0 ∨ r = 1 ∨ r = 2 ∨ r = 3 ∨ r = 4 ∨ r = 5 by omega) with rfl | rfl | rfl | rfl | rfl | rfl
    · rw [show kp 0 + 1 = 28 from rfl, k2 28 (by decide)]; exact (p1 1 (by decide) u h1 h2).1
    · rw [show kp 1 + 1 = 31 from rfl, k2 31 (by decide)]; exact (p1 4 (by decide) u h1 h2).1
    · rw [show kp 2 + 1 = 34 from rfl, k2 34 (by decide)]; exact (p1 7 (by decide) u h1 h2).1
    · exact (p2 1 (by decide) u h1 h2).1
    · exact (p2 4 (by decide) u h1 h2).1
    · exact (p2 7 (by decide) u h1 h2).1)
  have hz2 : ∀ k, k ∈ [29, 32, 35, 40, 43, 46] → ∀ v, -50 ≤ v → v ≤ 50 → s2.1 k (ix v) = 0 := fun k hk v h1 h2 => by
    simp only [List.mem_cons, List.not_mem_nil, or_false] at hk
    rcases hk with rfl | rfl | rfl | rfl | rfl | rfl
    · rw [k2 29 (by decide)]; exact (p1 1 (by decide) v h1 h2).2
    · rw [k2 32 (by decide)]; exact (p1 4 (by decide) v h1 h2).2
    · rw [k2 35 (by decide)]; exact (p1 7 (by decide) v h1 h2).2
    · exact (p2 1 (by decide) v h1 h2).2
    · exact (p2 4 (by decide) v h1 h2).2
    · exact (p2 7 (by decide) v h1 h2).2
  obtain ⟨s3, e3, f3, hPz3⟩ := s_tales hV hset hD2 hPz
  have k3 : ∀ j, j ∉ [28, 31, 34, 39, 42, 45] → s3.1 j = s2.1 j := fun j hj => f3.1 j hj
  have d3 : Dk s2 s3 := Dk.of f3 (by decide)
  have hD3 := hD2.dk hV d3
  have ss0 : SS V w 0 26 0 s3 := by
    have e : s3.1 26 = s1.1 26 := by rw [k3 26 (by decide), k2 26 (by decide)]
    exact ⟨by rw [e]; exact a5, by rw [e]; exact a6, by rw [e]; exact a7, by rw [e]; exact a8, by rw [e]; exact a9⟩
  have ss1 : SS V w 1 37 0 s3 := by
    have e : s3.1 37 = s2.1 37 := by rw [k3 37 (by decide)]
    exact ⟨by rw [e]; exact b5, by rw [e]; exact b6, by rw [e]; exact b7, by rw [e]; exact b8, by rw [e]; exact b9⟩
  obtain ⟨s4, e4, f4, g4, h40, h41⟩ := s_skids hV hw hD3 ss0 ss1
  have k4 : ∀ j, j ∉ [26, 37] → s4.1 j = s3.1 j := fun j hj => f4.1 j hj
  have d4 : Dk s3 s4 := Dk.of2 f4 (by decide) g4.1 g4.2
  have hD4 := hD3.dk hV d4
  have price : ∀ r, r < 6 → ∀ u, -50 ≤ u → u ≤ 50 → s4.1 (kp r + 1) (ix u) = if lq V set r u then iv (pq V r u : Int) else -1 := fun r hr u h1 h2 => by
    rw [k4 (kp r + 1) (by have := kp_cases hr; simp <;> omega)]
    exact hPz3 r hr u h1 h2
  have hR : Ready V set w s4 := ⟨hD4.1, ⟨h40.1, h40.2.1, h40.2.2.1, h40.2.2.2.1, h40.2.2.2.2, fun f h1 h2 => price 0 (by decide) f h1 h2⟩, ⟨h41.1, h41.2.1, h41.2.2.1, h41.2.2.2.1, h41.2.2.2.2, fun f h1 h2 => price 3 (by decide) f h1 h2⟩,
    fun v h1 h2 => ⟨price 1 (by decide) v h1 h2, price 2 (by decide) v h1 h2, price 4 (by decide) v h1 h2, price 5 (by decide) v h1 h2⟩, fun k hk v h1 h2 => by
      have e : s4.1 k = s2.1 k := by
        simp only [List.mem_cons, List.not_mem_nil, or_false] at hk
        rcases hk with rfl | rfl | rfl | rfl | rfl | rfl <;> rw [k4 _ (by decide), k3 _ (by decide)]
      rw [e]
      exact hz2 k hk v h1 h2⟩
  obtain ⟨s5, e5, f5, g5, r5⟩ := s_reckon1 hV hR
  have k5 : ∀ j, j ∉ [25, 29, 30, 31, 32, 33, 34, 35, 36, 40, 41, 42, 43, 44, 45, 46, 47] → s5.1 j = s4.1 j := fun j hj => f5.1 j hj
  have d5 : Dk s4 s5 := ⟨by rw [k5 0 (by decide)], by rw [k5 0 (by decide)], fun k h1 h2 => f5.1 k (by simp <;> omega), ⟨by rw [k5 26 (by decide)], by rw [k5 37 (by decide)]⟩, g5⟩
  obtain ⟨s6, hs6⟩ : ∃ s6, s6 = setF 0 7 (iv w) (setF 0 6 (nI set) (setF 0 5 1 s5)) := ⟨_, rfl⟩
  have k6 : ∀ j, j ≠ 0 → s6.1 j = s5.1 j := fun j hj => by rw [hs6, st_nek hj, st_nek hj, st_nek hj]
  have l6 : s6.2 = s5.2 := by rw [hs6]; rfl
  have d6 : Dk s5 s6 := by
    refine ⟨by rw [hs6, st_nej (by decide), st_nej (by decide), st_nej (by decide)], by rw [hs6, st_nej (by decide), st_nej (by decide), st_nej (by decide)], fun k h1 h2 => k6 k (by omega), ⟨by rw [k6 26 (by decide)], by rw [k6 37 (by decide)]⟩, fun r hr => ?_⟩
    have := kp_cases hr
    rw [k6 (kp r) (by omega)]
    exact ⟨rfl, rfl⟩
  refine ⟨s6, ?_, ((((d1.tr d2).tr d3).tr d4).tr d5).tr d6, fun k hk => ⟨?_, ?_⟩, ⟨⟨?_, ?_, fun u h1 h2 => ?_⟩, fun f h1 h2 => ?_, fun f h1 h2 => ?_⟩, ?_, ?_, ?_⟩
  · unfold ct_X5_reckon_24
    rw [e1, ob, e2, ob, e3, ob, e4, ob, e5, ob, stZ_ok (Or.inr rfl), ob, hs6]
    rfl
  · rw [k6 k (by omega), f5.1 k (by simp <;> omega), f4.1 k (by simp <;> omega), f3.1 k (by simp <;> omega), f2.1 k (by simp <;> omega), f1.1 k (by simp <;> omega)]
  · rw [l6, f5.2 k (by simp <;> omega), f4.2 k (by simp <;> omega), f3.2 k (by simp <;> omega), f2.2 k (by simp <;> omega), f1.2 k (by simp <;> omega)]
  · rw [l6]
    exact r5.1.1
  · rw [k6 25 (by decide)]
    exact r5.1.2.1
  · rw [k6 32 (by decide), k6 35 (by decide), k6 43 (by decide), k6 46 (by decide)]
    exact r5.1.2.2 u h1 h2
  · rw [k6 29 (by decide)]
    exact r5.2.1 f h1 h2
  · rw [k6 40 (by decide)]
    exact r5.2.2 f h1 h2
  · rw [hs6, st_nej (by decide), st_nej (by decide), st_eq]
  · rw [hs6, st_nej (by decide), st_eq]
  · rw [hs6, st_eq]
end
section
/-! the desk reckons, or knows it still -/
def Cache (V : Vw) (S : QS) : Prop := S.1 0 5 = 0 ∨ (S.1 0 5 = 1 ∧ ∃ (set : Nat) (w : Int), set < 1024 ∧ (-1 ≤ w ∧ w ≤ 100) ∧ S.1 0 6 = nI set ∧ S.1 0 7 = iv w ∧ Res V set w S)
theorem s_reckon5 {V : Vw} (hV : VOk V) {set : Nat} (hset : set < 1024) {w : Int} (hw : -1 ≤ w ∧ w ≤ 100) {S : QS} (hD : DR V S) (hC : Cache V S) :
    ∃ S1, f_X5_reckon (nI set) (iv w) S = some S1 ∧ Dk S S1 ∧ (∀ k, 48 ≤ k → S1.1 k = S.1 k ∧ S1.2 k = S.2 k) ∧ Res V set w S1 ∧ Cache V S1 := by
  have anew : f_X5_reckon (nI set) (iv w) S = ct_X5_reckon_24 (nI set) (iv w) S → ∃ S1, f_X5_reckon (nI set) (iv w) S = some S1 ∧ Dk S S1 ∧ (∀ k, 48 ≤ k → S1.1 k = S.1 k ∧ S1.2 k = S.2 k) ∧ Res V set w S1 ∧ Cache V S1 := fun he => by
    obtain ⟨S1, e1, d1, k1, r1, c5, c6, c7⟩ := s_ct hV hset hw hD
    exact ⟨S1, he.trans e1, d1, k1, r1, Or.inr ⟨c5, set, w, hset, hw, c6, c7, r1⟩⟩
  rcases hC with h0 | ⟨h1, set2, w2, q1, q2, q3, q4, q5⟩
  · refine anew ?_
    unfold f_X5_reckon
    rw [if_pos h0]
  · by_cases e : set = set2
    · by_cases e2 : w = w2
      · subst e
        subst e2
        refine ⟨S, ?_, Dk.rf, fun _ _ => ⟨rfl, rfl⟩, q5, Or.inr ⟨h1, set, w, q1, q2, q3, q4, q5⟩⟩
        unfold f_X5_reckon
        rw [h1, if_neg (by decide), if_pos q3.symm, if_pos q4.symm]
      · refine anew ?_
        unfold f_X5_reckon
        rw [h1, if_neg (by decide), q4, if_neg (n_eq e2)]
        split <;> rfl
    · refine anew ?_
      unfold f_X5_reckon
      rw [h1, if_neg (by decide), q3, if_neg (fun z => e ((nI_eq (by omega) (by omega)).mp z))]
theorem DR.kept {V : Vw} (hV : VOk V) {S S1 : QS} (h : DR V S) (hk : ∀ k, k < 48 → S1.1 k = S.1 k) : DR V S1 := h.dk hV ⟨by rw [hk 0 (by omega)], by rw [hk 0 (by omega)], fun k h1 h2 => hk k (by omega), ⟨by rw [hk 26 (by omega)], by rw [hk 37 (by omega)]⟩, fun r hr => by
  have := kp_cases hr
  rw [hk (kp r) (by omega)]
  exact ⟨rfl, rfl⟩⟩
theorem Res.kept {V : Vw} {set : Nat} {w : Int} {S S1 : QS} (h : Res V set w S) (hk : ∀ k, k < 48 → S1.1 k = S.1 k) (hl : S1.2 25 = S.2 25) : Res V set w S1 := by
  unfold Res Acc at h ⊢
  rw [hk 25 (by omega), hk 29 (by omega), hk 32 (by omega), hk 35 (by omega), hk 40 (by omega), hk 43 (by omega), hk 46 (by omega), hl]
  exact h
theorem Cache.kept {V : Vw} {S S1 : QS} (h : Cache V S) (hk : ∀ k, k < 48 → S1.1 k = S.1 k) (hl : S1.2 25 = S.2 25) : Cache V S1 := by
  unfold Cache at h ⊢
  rw [hk 0 (by omega)]
  exact h.imp id (fun ⟨q1, set, w, q2, q3, q4, q5, q6⟩ => ⟨q1, set, w, q2, q3, q4, q5, q6.kept hk hl⟩)
end
