section
-- ===== PART A: goes FIRST, ahead of the names: the tables' words, and 'selects' of the private methods out of them =====
/-- a private method of a class that the tables say can be made, by its rows of tables_1 -/
def lw_okq (q : MethodName × Nat) : Prop := (q.1.cls ≠ "java/lang/invoke/MethodHandle" ∧ q.1.cls ≠ "java/lang/invoke/VarHandle") ∧ Cond.instantiable q.1.cls q.2 ∈ tables_1 ∧ Cond.privateMethod q.1 ∈ tables_1 ∧ Cond.instanceMethod q.1 ∈ tables_1
theorem lw_p0 : lw_okq (⟨"CrashDesk", "reckon", "(II)V"⟩, 8) := ⟨⟨by decide +kernel, by decide +kernel⟩, List.mem_of_getElem? (i := 18) (by decide +kernel), List.mem_of_getElem? (i := 223) (by decide +kernel), List.mem_of_getElem? (i := 224) (by decide +kernel)⟩
theorem lw_p1 : lw_okq (⟨"CrashDesk$Car", "isTakenBehind", "(I)Z"⟩, 10) := ⟨⟨by decide +kernel, by decide +kernel⟩, List.mem_of_getElem? (i := 36) (by decide +kernel), List.mem_of_getElem? (i := 274) (by decide +kernel), List.mem_of_getElem? (i := 275) (by decide +kernel)⟩
theorem lw_p2 : lw_okq (⟨"CrashDesk$Car", "joinFirsts", "(I)V"⟩, 10) := ⟨⟨by decide +kernel, by decide +kernel⟩, List.mem_of_getElem? (i := 36) (by decide +kernel), List.mem_of_getElem? (i := 280) (by decide +kernel), List.mem_of_getElem? (i := 281) (by decide +kernel)⟩
theorem lw_p3 : lw_okq (⟨"CrashDesk$Car", "isTakenAhead", "(II)Z"⟩, 10) := ⟨⟨by decide +kernel, by decide +kernel⟩, List.mem_of_getElem? (i := 36) (by decide +kernel), List.mem_of_getElem? (i := 287) (by decide +kernel), List.mem_of_getElem? (i := 288) (by decide +kernel)⟩
theorem lw_p4 : lw_okq (⟨"CrashDesk$Meeting", "pushFrom", "(I)V"⟩, 6) := ⟨⟨by decide +kernel, by decide +kernel⟩, List.mem_of_getElem? (i := 30) (by decide +kernel), List.mem_of_getElem? (i := 306) (by decide +kernel), List.mem_of_getElem? (i := 307) (by decide +kernel)⟩
theorem lw_p5 : lw_okq (⟨"CrashDesk$Meeting", "meet", "(II)V"⟩, 6) := ⟨⟨by decide +kernel, by decide +kernel⟩, List.mem_of_getElem? (i := 30) (by decide +kernel), List.mem_of_getElem? (i := 310) (by decide +kernel), List.mem_of_getElem? (i := 311) (by decide +kernel)⟩
theorem lw_p6 : lw_okq (⟨"CrashDesk", "allTales", "()I"⟩, 8) := ⟨⟨by decide +kernel, by decide +kernel⟩, List.mem_of_getElem? (i := 18) (by decide +kernel), List.mem_of_getElem? (i := 341) (by decide +kernel), List.mem_of_getElem? (i := 342) (by decide +kernel)⟩
theorem lw_p7 : lw_okq (⟨"CrashDesk", "countingSkids", "()I"⟩, 8) := ⟨⟨by decide +kernel, by decide +kernel⟩, List.mem_of_getElem? (i := 18) (by decide +kernel), List.mem_of_getElem? (i := 361) (by decide +kernel), List.mem_of_getElem? (i := 362) (by decide +kernel)⟩
theorem lw_p8 : lw_okq (⟨"CrashDesk", "carOf", "(I)LCrashDesk$Car;"⟩, 8) := ⟨⟨by decide +kernel, by decide +kernel⟩, List.mem_of_getElem? (i := 18) (by decide +kernel), List.mem_of_getElem? (i := 374) (by decide +kernel), List.mem_of_getElem? (i := 375) (by decide +kernel)⟩
theorem lw_p9 : lw_okq (⟨"java/lang/Throwable", "fillInStackTrace", "(I)Ljava/lang/Throwable;"⟩, 6) := ⟨⟨by decide +kernel, by decide +kernel⟩, List.mem_of_getElem? (i := 420) (by decide +kernel), List.mem_of_getElem? (i := 418) (by decide +kernel), List.mem_of_getElem? (i := 419) (by decide +kernel)⟩
theorem lw_p10 : lw_okq (⟨"CrashDesk", "skidOf", "(I)LCrashDesk$Skid;"⟩, 8) := ⟨⟨by decide +kernel, by decide +kernel⟩, List.mem_of_getElem? (i := 18) (by decide +kernel), List.mem_of_getElem? (i := 504) (by decide +kernel), List.mem_of_getElem? (i := 505) (by decide +kernel)⟩
theorem lw_p11 : lw_okq (⟨"CrashDesk", "speedOf", "(II)LCrashDesk$Speed;"⟩, 8) := ⟨⟨by decide +kernel, by decide +kernel⟩, List.mem_of_getElem? (i := 18) (by decide +kernel), List.mem_of_getElem? (i := 516) (by decide +kernel), List.mem_of_getElem? (i := 517) (by decide +kernel)⟩
theorem lw_p12 : lw_okq (⟨"CrashDesk", "testWay", "()V"⟩, 8) := ⟨⟨by decide +kernel, by decide +kernel⟩, List.mem_of_getElem? (i := 18) (by decide +kernel), List.mem_of_getElem? (i := 540) (by decide +kernel), List.mem_of_getElem? (i := 541) (by decide +kernel)⟩
theorem lw_p13 : lw_okq (⟨"CrashDeskModel", "throwsIf", "(ZI)Z"⟩, 23) := ⟨⟨by decide +kernel, by decide +kernel⟩, List.mem_of_getElem? (i := 592) (by decide +kernel), List.mem_of_getElem? (i := 683) (by decide +kernel), List.mem_of_getElem? (i := 684) (by decide +kernel)⟩
theorem lw_p14 : lw_okq (⟨"CrashDeskModel", "goes", "(II)Z"⟩, 23) := ⟨⟨by decide +kernel, by decide +kernel⟩, List.mem_of_getElem? (i := 592) (by decide +kernel), List.mem_of_getElem? (i := 717) (by decide +kernel), List.mem_of_getElem? (i := 718) (by decide +kernel)⟩
theorem lw_p15 : lw_okq (⟨"CrashDeskModel", "lets", "(I)V"⟩, 23) := ⟨⟨by decide +kernel, by decide +kernel⟩, List.mem_of_getElem? (i := 592) (by decide +kernel), List.mem_of_getElem? (i := 721) (by decide +kernel), List.mem_of_getElem? (i := 722) (by decide +kernel)⟩
def lw_privs_1 : List (MethodName × Nat) := [(⟨"CrashDesk", "reckon", "(II)V"⟩, 8), (⟨"CrashDesk$Car", "isTakenBehind", "(I)Z"⟩, 10), (⟨"CrashDesk$Car", "joinFirsts", "(I)V"⟩, 10), (⟨"CrashDesk$Car", "isTakenAhead", "(II)Z"⟩, 10), (⟨"CrashDesk$Meeting", "pushFrom", "(I)V"⟩, 6), (⟨"CrashDesk$Meeting", "meet", "(II)V"⟩, 6), (⟨"CrashDesk", "allTales", "()I"⟩, 8), (⟨"CrashDesk", "countingSkids", "()I"⟩, 8), (⟨"CrashDesk", "carOf", "(I)LCrashDesk$Car;"⟩, 8), (⟨"java/lang/Throwable", "fillInStackTrace", "(I)Ljava/lang/Throwable;"⟩, 6), (⟨"CrashDesk", "skidOf", "(I)LCrashDesk$Skid;"⟩, 8), (⟨"CrashDesk", "speedOf", "(II)LCrashDesk$Speed;"⟩, 8), (⟨"CrashDesk", "testWay", "()V"⟩, 8), (⟨"CrashDeskModel", "throwsIf", "(ZI)Z"⟩, 23), (⟨"CrashDeskModel", "goes", "(II)Z"⟩, 23), (⟨"CrashDeskModel", "lets", "(I)V"⟩, 23)]
theorem lw_r1 : ∀ q ∈ lw_privs_1, lw_okq q := List.forall_mem_cons.mpr ⟨lw_p0, List.forall_mem_cons.mpr ⟨lw_p1, List.forall_mem_cons.mpr ⟨lw_p2, List.forall_mem_cons.mpr ⟨lw_p3, List.forall_mem_cons.mpr ⟨lw_p4, List.forall_mem_cons.mpr ⟨lw_p5, List.forall_mem_cons.mpr ⟨lw_p6, List.forall_mem_cons.mpr ⟨lw_p7, List.forall_mem_cons.mpr ⟨lw_p8, List.forall_mem_cons.mpr ⟨lw_p9, List.forall_mem_cons.mpr ⟨lw_p10, List.forall_mem_cons.mpr ⟨lw_p11, List.forall_mem_cons.mpr ⟨lw_p12, List.forall_mem_cons.mpr ⟨lw_p13, List.forall_mem_cons.mpr ⟨lw_p14, List.forall_mem_cons.mpr ⟨lw_p15, fun _ h => absurd h List.not_mem_nil⟩⟩⟩⟩⟩⟩⟩⟩⟩⟩⟩⟩⟩⟩⟩⟩
theorem lw_p16 : lw_okq (⟨"CrashDeskModel", "falses", "(II)I"⟩, 23) := ⟨⟨by decide +kernel, by decide +kernel⟩, List.mem_of_getElem? (i := 592) (by decide +kernel), List.mem_of_getElem? (i := 728) (by decide +kernel), List.mem_of_getElem? (i := 729) (by decide +kernel)⟩
theorem lw_p17 : lw_okq (⟨"CrashDeskModel", "counts", "(I)V"⟩, 23) := ⟨⟨by decide +kernel, by decide +kernel⟩, List.mem_of_getElem? (i := 592) (by decide +kernel), List.mem_of_getElem? (i := 732) (by decide +kernel), List.mem_of_getElem? (i := 733) (by decide +kernel)⟩
theorem lw_p18 : lw_okq (⟨"CrashDeskModel", "isFirst", "(IIII)Z"⟩, 23) := ⟨⟨by decide +kernel, by decide +kernel⟩, List.mem_of_getElem? (i := 592) (by decide +kernel), List.mem_of_getElem? (i := 736) (by decide +kernel), List.mem_of_getElem? (i := 737) (by decide +kernel)⟩
theorem lw_p19 : lw_okq (⟨"CrashDeskModel", "takes", "(IZII)Z"⟩, 23) := ⟨⟨by decide +kernel, by decide +kernel⟩, List.mem_of_getElem? (i := 592) (by decide +kernel), List.mem_of_getElem? (i := 740) (by decide +kernel), List.mem_of_getElem? (i := 741) (by decide +kernel)⟩
theorem lw_p20 : lw_okq (⟨"CrashDeskModel", "masks", "(III)V"⟩, 23) := ⟨⟨by decide +kernel, by decide +kernel⟩, List.mem_of_getElem? (i := 592) (by decide +kernel), List.mem_of_getElem? (i := 744) (by decide +kernel), List.mem_of_getElem? (i := 745) (by decide +kernel)⟩
theorem lw_p21 : lw_okq (⟨"CrashDeskModel", "all", "()I"⟩, 23) := ⟨⟨by decide +kernel, by decide +kernel⟩, List.mem_of_getElem? (i := 592) (by decide +kernel), List.mem_of_getElem? (i := 752) (by decide +kernel), List.mem_of_getElem? (i := 753) (by decide +kernel)⟩
theorem lw_p22 : lw_okq (⟨"CrashDeskModel", "fewest", "()I"⟩, 23) := ⟨⟨by decide +kernel, by decide +kernel⟩, List.mem_of_getElem? (i := 592) (by decide +kernel), List.mem_of_getElem? (i := 764) (by decide +kernel), List.mem_of_getElem? (i := 765) (by decide +kernel)⟩
theorem lw_p23 : lw_okq (⟨"CrashDeskModel", "makes", "()V"⟩, 23) := ⟨⟨by decide +kernel, by decide +kernel⟩, List.mem_of_getElem? (i := 592) (by decide +kernel), List.mem_of_getElem? (i := 768) (by decide +kernel), List.mem_of_getElem? (i := 769) (by decide +kernel)⟩
def lw_privs_2 : List (MethodName × Nat) := [(⟨"CrashDeskModel", "falses", "(II)I"⟩, 23), (⟨"CrashDeskModel", "counts", "(I)V"⟩, 23), (⟨"CrashDeskModel", "isFirst", "(IIII)Z"⟩, 23), (⟨"CrashDeskModel", "takes", "(IZII)Z"⟩, 23), (⟨"CrashDeskModel", "masks", "(III)V"⟩, 23), (⟨"CrashDeskModel", "all", "()I"⟩, 23), (⟨"CrashDeskModel", "fewest", "()I"⟩, 23), (⟨"CrashDeskModel", "makes", "()V"⟩, 23)]
theorem lw_r2 : ∀ q ∈ lw_privs_2, lw_okq q := List.forall_mem_cons.mpr ⟨lw_p16, List.forall_mem_cons.mpr ⟨lw_p17, List.forall_mem_cons.mpr ⟨lw_p18, List.forall_mem_cons.mpr ⟨lw_p19, List.forall_mem_cons.mpr ⟨lw_p20, List.forall_mem_cons.mpr ⟨lw_p21, List.forall_mem_cons.mpr ⟨lw_p22, List.forall_mem_cons.mpr ⟨lw_p23, fun _ h => absurd h List.not_mem_nil⟩⟩⟩⟩⟩⟩⟩⟩
def lw_privs : List (MethodName × Nat) := lw_privs_1 ++ (lw_privs_2)
def lw_tbl : List Cond := k2_sels lw_privs ++ tables_1
theorem lw_privs_ok : ∀ q ∈ lw_privs, lw_okq q := by
  show ∀ q ∈ lw_privs_1 ++ (lw_privs_2), lw_okq q
  exact List.forall_mem_append.mpr ⟨lw_r1, lw_r2⟩
end
section
/-! THE PURE PICTURE: what each method does to the places -/
abbrev QS : Type := (Nat → Nat → Int32) × (Nat → Int64)
def FU : Nat := 1100
/-! the pure steps -/
def rdA (k n : Nat) (i : Int32) (S : QS) : Option Int32 := if ¬ (i < 0 ∨ n ≤ i.toNatClampNeg) then some (S.1 k i.toNatClampNeg) else none
def setF (k j : Nat) (x : Int32) (S : QS) : QS := (va_up S.1 k (upd (S.1 k) j x), S.2)
def setL (k : Nat) (x : Int64) (S : QS) : QS := (S.1, va_up S.2 k x)
def wrA (k n : Nat) (i x : Int32) (S : QS) : Option QS := if ¬ (i < 0 ∨ n ≤ i.toNatClampNeg) then some (setF k i.toNatClampNeg x S) else none
def zb (x : Int32) : Option Int32 := if x = 0 ∨ x = 1 then some x else none
def wrZ (k n : Nat) (i x : Int32) (S : QS) : Option QS := if ¬ (i < 0 ∨ n ≤ i.toNatClampNeg) ∧ (x = 0 ∨ x = 1) then some (setF k i.toNatClampNeg x S) else none
def stF (k j : Nat) (x : Int32) (S : QS) : Option QS := some (setF k j x S)
def stZ (k j : Nat) (x : Int32) (S : QS) : Option QS := if x = 0 ∨ x = 1 then some (setF k j x S) else none
def stL (k : Nat) (x : Int64) (S : QS) : Option QS := some (setL k x S)
def rdQ (b n : Nat) (i : Int32) : Option Nat := if ¬ (i < 0 ∨ n ≤ i.toNatClampNeg) then some (b + i.toNatClampNeg) else none
def dvI (x y : Int32) : Option Int32 := if ¬ y = 0 then some (x / y) else none
def rmI (x y : Int32) : Option Int32 := if ¬ y = 0 then some (x - x / y * y) else none
/-- a call that may throw: what it throws goes on -/
def bx {α β : Type} (o : Option ((String × QS) ⊕ α)) (f : α → Option ((String × QS) ⊕ β)) : Option ((String × QS) ⊕ β) := match o with
  | none => none
  | some (.inl e) => some (.inl e)
  | some (.inr a) => f a
/-- a call that may throw, and what its handlers do -/
def bh {α β : Type} (o : Option ((String × QS) ⊕ α)) (h : String → QS → Option β) (f : α → Option β) : Option β := match o with
  | none => none
  | some (.inl e) => h e.1 e.2
  | some (.inr a) => f a
theorem bd_e {α β : Type} {o : Option α} {f : α → Option β} {y : β} (h : o.bind f = some y) : ∃ x, o = some x ∧ f x = some y := by
  cases o with
  | none => simp at h
  | some x => exact ⟨x, rfl, h⟩
theorem bx_e {α β : Type} {o : Option ((String × QS) ⊕ α)} {f : α → Option ((String × QS) ⊕ β)} {y : (String × QS) ⊕ β} (h : bx o f = some y) : ∃ x, o = some x := by
  cases o with
  | none => simp [bx] at h
  | some x => exact ⟨x, rfl⟩
theorem bx_l {α β : Type} {o : Option ((String × QS) ⊕ α)} {f : α → Option ((String × QS) ⊕ β)} {y : (String × QS) ⊕ β} {x : (String × QS) ⊕ α} {e : String × QS} (h : bx o f = some y) (hx : o = some x) (he : x = .inl e) : .inl e = y := by
  subst hx; subst he
  exact Option.some.inj h
theorem bx_r {α β : Type} {o : Option ((String × QS) ⊕ α)} {f : α → Option ((String × QS) ⊕ β)} {y : (String × QS) ⊕ β} {x : (String × QS) ⊕ α} {a : α} (h : bx o f = some y) (hx : o = some x) (he : x = .inr a) : f a = some y := by
  subst hx; subst he
  exact h
theorem bh_e {α β : Type} {o : Option ((String × QS) ⊕ α)} {g : String → QS → Option β} {f : α → Option β} {y : β} (h : bh o g f = some y) : ∃ x, o = some x := by
  cases o with
  | none => simp [bh] at h
  | some x => exact ⟨x, rfl⟩
theorem bh_l {α β : Type} {o : Option ((String × QS) ⊕ α)} {g : String → QS → Option β} {f : α → Option β} {y : β} {x : (String × QS) ⊕ α} {e : String × QS} (h : bh o g f = some y) (hx : o = some x) (he : x = .inl e) : g e.1 e.2 = some y := by
  subst hx; subst he
  exact h
theorem bh_r {α β : Type} {o : Option ((String × QS) ⊕ α)} {g : String → QS → Option β} {f : α → Option β} {y : β} {x : (String × QS) ⊕ α} {a : α} (h : bh o g f = some y) (hx : o = some x) (he : x = .inr a) : f a = some y := by
  subst hx; subst he
  exact h
theorem if_t {α : Sort _} {c : Prop} [Decidable c] {a b x : α} (h : c) (e : (if c then a else b) = x) : a = x := by rw [if_pos h] at e; exact e
theorem if_f {α : Sort _} {c : Prop} [Decidable c] {a b x : α} (h : ¬ c) (e : (if c then a else b) = x) : b = x := by rw [if_neg h] at e; exact e
theorem q_in {x : Int32} {k n : Nat} {i : Int32} {S : QS} (h : rdA k n i S = some x) : vp_in i n ∧ x = S.1 k i.toNatClampNeg := by
  unfold rdA at h
  by_cases c : ¬ (i < 0 ∨ n ≤ i.toNatClampNeg)
  · rw [if_pos c] at h
    exact ⟨c, (Option.some.inj h).symm⟩
  · rw [if_neg c] at h
    cases h
theorem q_inQ {b n x : Nat} {i : Int32} (h : rdQ b n i = some x) : vp_in i n ∧ i.toNatClampNeg < n ∧ x = b + i.toNatClampNeg := by
  unfold rdQ at h
  by_cases c : ¬ (i < 0 ∨ n ≤ i.toNatClampNeg)
  · rw [if_pos c] at h
    exact ⟨c, Nat.not_le.mp (fun z => c (Or.inr z)), (Option.some.inj h).symm⟩
  · rw [if_neg c] at h
    cases h
theorem q_wr {k n : Nat} {i x : Int32} {S S1 : QS} (h : wrA k n i x S = some S1) : vp_in i n ∧ S1 = setF k i.toNatClampNeg x S := by
  unfold wrA at h
  by_cases c : ¬ (i < 0 ∨ n ≤ i.toNatClampNeg)
  · rw [if_pos c] at h
    exact ⟨c, (Option.some.inj h).symm⟩
  · rw [if_neg c] at h
    cases h
theorem q_wrZ {k n : Nat} {i x : Int32} {S S1 : QS} (h : wrZ k n i x S = some S1) : vp_in i n ∧ vp_nar .boolean x = x ∧ S1 = setF k i.toNatClampNeg x S := by
  unfold wrZ at h
  by_cases c : ¬ (i < 0 ∨ n ≤ i.toNatClampNeg) ∧ (x = 0 ∨ x = 1)
  · rw [if_pos c] at h
    exact ⟨c.1, by rcases c.2 with e | e <;> subst e <;> decide, (Option.some.inj h).symm⟩
  · rw [if_neg c] at h
    cases h
theorem q_zb {x y : Int32} (h : zb x = some y) : (x = 0 ∨ x = 1) ∧ y = x := by
  unfold zb at h
  by_cases c : x = 0 ∨ x = 1
  · rw [if_pos c] at h
    exact ⟨c, (Option.some.inj h).symm⟩
  · rw [if_neg c] at h
    cases h
theorem q_stZ {k j : Nat} {x : Int32} {S S1 : QS} (h : stZ k j x S = some S1) : (x = 0 ∨ x = 1) ∧ S1 = setF k j x S := by
  unfold stZ at h
  by_cases c : x = 0 ∨ x = 1
  · rw [if_pos c] at h
    exact ⟨c, (Option.some.inj h).symm⟩
  · rw [if_neg c] at h
    cases h
theorem q_dv {x y z : Int32} (h : dvI x y = some z) : ¬ y = 0 ∧ z = x / y := by
  unfold dvI at h
  by_cases c : ¬ y = 0
  · rw [if_pos c] at h
    exact ⟨c, (Option.some.inj h).symm⟩
  · rw [if_neg c] at h
    cases h
theorem q_rm {x y z : Int32} (h : rmI x y = some z) : ¬ y = 0 ∧ z = x - x / y * y := by
  unfold rmI at h
  by_cases c : ¬ y = 0
  · rw [if_pos c] at h
    exact ⟨c, (Option.some.inj h).symm⟩
  · rw [if_neg c] at h
    cases h
theorem q_nz {x : Int32} (h : x = 0 ∨ x = 1) : narrow .boolean (.int x) = .int x := by
  rcases h with e | e <;> subst e <;> rfl
theorem q_fz {x : Int32} (h : x = 0 ∨ x = 1) : fits .boolean (.int x) = true := by
  rcases h with e | e <;> subst e <;> rfl
def f_X3_setPrice (k : Nat) (a1 : Int32) (a2 : Int32) (S : QS) : Option QS :=
if a1 < (-50) then (some S)
else (if 50 < a1 then (some S)
else ((wrA (k + 1) 101 (a1 - (-50)) a2 S).bind fun S1 =>
some S1))
def lp_X3_clear_3 (k : Nat) : Nat → Int32 → QS → Option QS
  | 0, _, _ => none
  | fuel + 1, v1, S2 => (if 50 < v1 then (some S2)
else (((if v1 < (S2.1 k 0) then (some (-1))
else (if v1 ≤ (S2.1 k 1) then (some 0)
else (some (-1)))) : Option (Int32)).bind fun q3 =>
(f_X3_setPrice k v1 q3 S2).bind fun S5 =>
(wrZ (k + 2) 101 (v1 - (-50)) 0 S5).bind fun S6 =>
lp_X3_clear_3 k fuel (v1 + 1) S6))
def f_X3_clear (k : Nat) (S : QS) : Option QS :=
lp_X3_clear_3 k FU (-50) S
def f_X3_priceOf (k : Nat) (a1 : Int32) (S : QS) : Option Int32 :=
if a1 < (-50) then (some (-1))
else (if a1 ≤ 50 then ((rdA (k + 1) 101 (a1 - (-50)) S).bind fun v1 =>
some v1)
else (some (-1)))
def f_X3_isOpen (k : Nat) (a1 : Int32) (S : QS) : Option Int32 :=
(f_X3_priceOf k a1 S).bind fun v2 =>
if v2 = (-1) then (some 0)
else (some 1)
def lp_X3_hear_3 (k : Nat) (t1 : Nat) (a2 : Int32) : Nat → Int32 → QS → Option QS
  | 0, _, _ => none
  | fuel + 1, v1, S2 => (if 50 < v1 then (some S2)
else (((if v1 < (S2.1 t1 2) then (some 0)
else (if (S2.1 t1 3) < v1 then (some 0)
else (some 1))) : Option (Int32)).bind fun q3 =>
if q3 = 0 then ((f_X3_isOpen k v1 S2).bind fun v5 =>
if v5 = 0 then (lp_X3_hear_3 k t1 a2 fuel (v1 + 1) S2)
else (((if a2 = (-1) then (some (-1))
else ((f_X3_priceOf k v1 S2).bind fun v8 =>
some (v8 + a2))) : Option (Int32)).bind fun q6 =>
(f_X3_setPrice k v1 q6 S2).bind fun S10 =>
lp_X3_hear_3 k t1 a2 fuel (v1 + 1) S10))
else (lp_X3_hear_3 k t1 a2 fuel (v1 + 1) S2)))
def f_X3_hear (k : Nat) (t1 : Nat) (a2 : Int32) (S : QS) : Option QS :=
lp_X3_hear_3 k t1 a2 FU (-50) S
def lp_X3_bound_15 (k : Nat) : Nat → Int32 → QS → Option QS
  | 0, _, _ => none
  | fuel + 1, v5, S6 => (if 50 < v5 then (some S6)
else ((f_X3_isOpen k v5 S6).bind fun v8 =>
if v8 = 0 then (lp_X3_bound_15 k fuel (v5 + 1) S6)
else ((stF k 2 (if v5 < (S6.1 k 2) then v5 else (S6.1 k 2)) S6).bind fun S9 =>
(stF k 3 v5 S9).bind fun S11 =>
lp_X3_bound_15 k fuel (v5 + 1) S11)))
def f_X3_bound (k : Nat) (S : QS) : Option QS :=
(stF k 2 51 S).bind fun S1 =>
(stF k 3 (-51) S1).bind fun S3 =>
lp_X3_bound_15 k FU (-50) S3
def f_X3_see (k : Nat) (a1 : Int32) (S : QS) : Option QS :=
if a1 < (-50) then (some S)
else (if 50 < a1 then (some S)
else ((wrZ (k + 2) 101 (a1 - (-50)) 1 S).bind fun S1 =>
some S1))
def f_X3_isSeen (k : Nat) (a1 : Int32) (S : QS) : Option Int32 :=
if a1 < (-50) then (some 0)
else (if 50 < a1 then (some 0)
else ((rdA (k + 2) 101 (a1 - (-50)) S).bind fun v1 =>
if v1 = 0 then (some 0)
else (some 1)))
def lp_X3_leastSeen_3 (k : Nat) (S : QS) : Nat → Int32 → Option Int32
  | 0, _ => none
  | fuel + 1, v1 => (if 50 ≤ v1 then (some 50)
else ((f_X3_isSeen k v1 S).bind fun v3 =>
if v3 = 0 then (lp_X3_leastSeen_3 k S fuel (v1 + 1))
else (some v1)))
def f_X3_leastSeen (k : Nat) (S : QS) : Option Int32 :=
lp_X3_leastSeen_3 k S FU (-50)
def lp_X3_greatestSeen_3 (k : Nat) (S : QS) : Nat → Int32 → Option Int32
  | 0, _ => none
  | fuel + 1, v1 => (if v1 ≤ (-50) then (some (-50))
else ((f_X3_isSeen k v1 S).bind fun v3 =>
if v3 = 0 then (lp_X3_greatestSeen_3 k S fuel (v1 + (-1)))
else (some v1)))
def f_X3_greatestSeen (k : Nat) (S : QS) : Option Int32 :=
lp_X3_greatestSeen_3 k S FU 50
def f_X5_cheaper (a1 : Int32) (a2 : Int32) : Option Int32 :=
if a1 = (-1) then (some a2)
else (if a1 ≤ a2 then (some a1)
else (some a2))
def f_X0_pick (k : Nat) (a1 : Int32) (S : QS) : Option Nat :=
if a1 = 0 then (some (k + 1))
else (if a1 = 1 then (some (k + 4))
else (some (k + 7)))
def f_X0_clear (k : Nat) (S : QS) : Option QS :=
(f_X3_clear (k + 1) S).bind fun S2 =>
(f_X3_clear (k + 4) S2).bind fun S4 =>
(f_X3_clear (k + 7) S4).bind fun S6 =>
(stF k 5 0 S6).bind fun S7 =>
(stF k 6 0 S7).bind fun S9 =>
(stF k 7 0 S9).bind fun S11 =>
(stF k 8 0 S11).bind fun S13 =>
(stZ k 9 0 S13).bind fun S15 =>
some S15
def f_X0_add (k : Nat) (t1 : Nat) (S : QS) : Option QS :=
if (S.1 t1 1) = 0 then ((stF k 5 ((S.1 k 5) + (S.1 t1 2)) S).bind fun S1 =>
(stF k 6 ((S1.1 k 6) + (S1.1 t1 3)) S1).bind fun S3 =>
some S3)
else ((stF k 7 ((S.1 k 7) + (S.1 t1 2)) S).bind fun S5 =>
(stF k 8 ((S5.1 k 8) + (S5.1 t1 3)) S5).bind fun S7 =>
(stZ k 9 1 S7).bind fun S9 =>
some S9)
def f_X0_isTakenBehind (k : Nat) (a1 : Int32) (S : QS) : Option Int32 :=
if ((51 * a1) * a1) < (S.1 k 7) then (some 0)
else (if (S.1 k 8) < ((51 * a1) * a1) then (some 0)
else (some 1))
def f_X0_isTakenAhead (k : Nat) (a1 : Int32) (a2 : Int32) (S : QS) : Option Int32 :=
if (((51 * a1) * a1) - ((51 * a2) * a2)) < (S.1 k 5) then (some 0)
else (if (S.1 k 6) < (((51 * a1) * a1) - ((51 * a2) * a2)) then (some 0)
else (some 1))
def f_X0_firstFor (a1 : Int32) (a2 : Int32) : Option Int32 :=
if 0 ≤ a2 then (some a1)
else (some (-a1))
def lp_X0_joinFirsts_10 (k : Nat) (a1 : Int32) (S : QS) : Nat → Int32 → Int32 → Int32 → Option (Int32 × Int32)
  | 0, _, _, _ => none
  | fuel + 1, v1, v2, v3 => (if 50 < v3 then (some (v1, v2))
else ((f_X0_isTakenAhead k v3 a1 S).bind fun v6 =>
((if v6 = 0 then (some (-1))
else ((f_X0_firstFor v3 a1).bind fun v9 =>
(f_X3_priceOf (k + 1) v9 S).bind fun v11 =>
some v11)) : Option (Int32)).bind fun q7 =>
if q7 = (-1) then (lp_X0_joinFirsts_10 k a1 S fuel v1 v2 (v3 + 1))
else ((f_X5_cheaper v2 q7).bind fun v13 =>
lp_X0_joinFirsts_10 k a1 S fuel (v1 + 1) v13 (v3 + 1))))
def f_X0_joinFirsts (k : Nat) (a1 : Int32) (S : QS) : Option QS :=
(lp_X0_joinFirsts_10 k a1 S FU 0 (-1) (if 0 ≤ a1 then a1 else 0 - a1)).bind fun q4 =>
((if a1 < (-50) then (some S)
else (if 50 < a1 then (some S)
else ((wrA (k + 10) 101 (a1 - (-50)) q4.1 S).bind fun S15 =>
some S15))) : Option (QS)).bind fun q14 =>
((if q4.2 = (-1) then (some (-1))
else ((f_X3_priceOf (k + 4) a1 q14).bind fun v19 =>
some (v19 + q4.2))) : Option (Int32)).bind fun q17 =>
(f_X3_setPrice (k + 4) a1 q17 q14).bind fun S21 =>
some S21
def lp_X0_settle_3 (k : Nat) : Nat → Int32 → QS → Option (QS)
  | 0, _, _ => none
  | fuel + 1, v1, S2 => (if 50 < v1 then (some S2)
else (((if (S2.1 k 9) = 0 then (some S2)
else ((f_X0_isTakenBehind k v1 S2).bind fun v6 =>
if v6 = 0 then ((f_X3_setPrice (k + 7) v1 (-1) S2).bind fun S8 =>
some S8)
else (some S2))) : Option (QS)).bind fun q4 =>
(f_X3_isOpen (k + 4) v1 q4).bind fun v10 =>
if v10 = 0 then (lp_X0_settle_3 k fuel (v1 + 1) q4)
else ((f_X0_joinFirsts k v1 q4).bind fun S12 =>
lp_X0_settle_3 k fuel (v1 + 1) S12)))
def f_X0_settle (k : Nat) (S : QS) : Option QS :=
(lp_X0_settle_3 k FU (-50) S).bind fun q3 =>
(f_X3_bound (k + 4) q3).bind fun S14 =>
(f_X3_bound (k + 7) S14).bind fun S16 =>
some S16
def f_X0_firstCount (k : Nat) (a1 : Int32) (S : QS) : Option Int32 :=
if a1 < (-50) then (some 0)
else (if a1 ≤ 50 then ((rdA (k + 10) 101 (a1 - (-50)) S).bind fun v1 =>
some v1)
else (some 0))
def lp_X0_seeFirsts_24 (k : Nat) (v1 : Int32) : Nat → Int32 → QS → Option (QS)
  | 0, _, _ => none
  | fuel + 1, v3, S4 => ((f_X3_isSeen (k + 4) v1 S4).bind fun v7 =>
if v7 = 0 then (some S4)
else (if 50 < v3 then (some S4)
else ((f_X0_isTakenAhead k v3 v1 S4).bind fun v9 =>
if v9 = 0 then (lp_X0_seeFirsts_24 k v1 fuel (v3 + 1) S4)
else ((f_X0_firstFor v3 v1).bind fun v11 =>
(f_X3_isOpen (k + 1) v11 S4).bind fun v13 =>
if v13 = 0 then (lp_X0_seeFirsts_24 k v1 fuel (v3 + 1) S4)
else ((f_X0_firstFor v3 v1).bind fun v15 =>
(f_X3_see (k + 1) v15 S4).bind fun S17 =>
lp_X0_seeFirsts_24 k v1 fuel (v3 + 1) S17)))))
def lp_X0_seeFirsts_8 (k : Nat) : Nat → Int32 → QS → Option QS
  | 0, _, _ => none
  | fuel + 1, v1, S2 => (if (S2.1 (k + 4) 3) < v1 then (some S2)
else ((lp_X0_seeFirsts_24 k v1 FU (if 0 ≤ v1 then v1 else 0 - v1) S2).bind fun q5 =>
lp_X0_seeFirsts_8 k fuel (v1 + 1) q5))
def f_X0_seeFirsts (k : Nat) (S : QS) : Option QS :=
lp_X0_seeFirsts_8 k FU (S.1 (k + 4) 2) S
def f_X1_pick (a1 : Int32) (S : QS) : Option Nat :=
if a1 = 0 then (some 26)
else (some 37)
def lp_X1_lowestShare_3 (a1 : Int32) (a2 : Int32) : Nat → Int32 → Option Int32
  | 0, _ => none
  | fuel + 1, v1 => (if v1 ≤ 1 then (some a1)
else ((rmI a1 v1).bind fun v2 =>
if v2 = 0 then ((rmI a2 v1).bind fun v3 =>
if v3 = 0 then ((dvI a1 v1).bind fun v4 =>
some v4)
else (lp_X1_lowestShare_3 a1 a2 fuel (v1 + (-1))))
else (lp_X1_lowestShare_3 a1 a2 fuel (v1 + (-1)))))
def f_X1_lowestShare (a1 : Int32) (a2 : Int32) : Option Int32 :=
lp_X1_lowestShare_3 a1 a2 FU 100
def lp_X1_meet_122 (a2 : Int32) (S : QS) (v6 : Int32) : Nat → Int64 → Int32 → Int32 → QS → Option (Int64 × Int32 × QS)
  | 0, _, _, _, _ => none
  | fuel + 1, w8, v9, v10, S11 => (if v6 < v10 then (some (w8, v9, S11))
else ((rdA 42 101 (v10 - (-50)) S11).bind fun v13 =>
(rdA 45 101 ((v10 + (a2 * (S.1 25 5))) - (-50)) S11).bind fun v15 =>
if v13 = (-1) then (lp_X1_meet_122 a2 S v6 fuel w8 v9 (v10 + 1) S11)
else (if v15 = (-1) then (lp_X1_meet_122 a2 S v6 fuel w8 v9 (v10 + 1) S11)
else ((rdA 47 101 (v10 - (-50)) S11).bind fun v17 =>
(f_X5_cheaper v9 (v13 + v15)).bind fun v20 =>
(wrZ 43 101 (v10 - (-50)) 1 S11).bind fun S21 =>
(wrZ 46 101 ((v10 + (a2 * (S.1 25 5))) - (-50)) 1 S21).bind fun S23 =>
lp_X1_meet_122 a2 S v6 fuel (w8 + v17.toInt64) v20 (v10 + 1) S23))))
def f_X1_meet (a1 : Int32) (a2 : Int32) (S : QS) : Option QS :=
(some (if (a1 - (a2 * ((S.1 25 4) + (S.1 25 5)))) < (if (S.1 41 2) < ((S.1 44 2) - (a2 * (S.1 25 5))) then ((S.1 44 2) - (a2 * (S.1 25 5))) else (S.1 41 2)) then (if (S.1 41 2) < ((S.1 44 2) - (a2 * (S.1 25 5))) then ((S.1 44 2) - (a2 * (S.1 25 5))) else (S.1 41 2)) else (a1 - (a2 * ((S.1 25 4) + (S.1 25 5)))))).bind fun v1 =>
(dvI ((a2 * ((S.1 25 4) + (S.1 25 5))) + 1) 2).bind fun v3 =>
(some (if (if ((S.1 44 3) - (a2 * (S.1 25 5))) < (S.1 41 3) then ((S.1 44 3) - (a2 * (S.1 25 5))) else (S.1 41 3)) < (a1 - v3) then (if ((S.1 44 3) - (a2 * (S.1 25 5))) < (S.1 41 3) then ((S.1 44 3) - (a2 * (S.1 25 5))) else (S.1 41 3)) else (a1 - v3))).bind fun v4 =>
(some (if (50 - (a2 * (S.1 25 5))) < v4 then (50 - (a2 * (S.1 25 5))) else v4)).bind fun v6 =>
(lp_X1_meet_122 a2 S v6 FU 0 (-1) (if v1 < (-50) then (-50) else v1) S).bind fun q12 =>
if (lg_cmp q12.1 0) ≤ 0 then (some q12.2.2)
else ((f_X3_see 30 a1 q12.2.2).bind fun S26 =>
(f_X3_see 33 (a1 - (a2 * (q12.2.2.1 25 4))) S26).bind fun S28 =>
(f_X0_firstCount 26 a1 S28).bind fun v30 =>
(stL 25 ((S28.2 25) + (q12.1 * v30.toInt64)) S28).bind fun S31 =>
(f_X3_priceOf 30 a1 S31).bind fun v34 =>
(f_X3_priceOf 33 (a1 - (a2 * (q12.2.2.1 25 4))) S31).bind fun v36 =>
(f_X5_cheaper (S31.1 25 3) ((q12.2.1 + v34) + v36)).bind fun v38 =>
(stF 25 3 v38 S31).bind fun S39 =>
some S39)
def lp_X1_pushFrom_2 (a1 : Int32) : Nat → Int32 → QS → Option QS
  | 0, _, _ => none
  | fuel + 1, v1, S2 => (if 101 < v1 then (some S2)
else (if (a1 - (v1 * (S2.1 25 4))) < (S2.1 33 2) then (some S2)
else ((f_X3_isOpen 33 (a1 - (v1 * (S2.1 25 4))) S2).bind fun v4 =>
if v4 = 0 then (lp_X1_pushFrom_2 a1 fuel (v1 + 1) S2)
else ((f_X1_meet a1 v1 S2).bind fun S6 =>
lp_X1_pushFrom_2 a1 fuel (v1 + 1) S6))))
def f_X1_pushFrom (a1 : Int32) (S : QS) : Option QS :=
lp_X1_pushFrom_2 a1 FU 1 S
def lp_X1_reckon_77  : Nat → Int32 → QS → Option (QS)
  | 0, _, _ => none
  | fuel + 1, v17, S18 => (if (S18.1 30 3) < v17 then (some S18)
else ((f_X3_isOpen 30 v17 S18).bind fun v21 =>
if v21 = 0 then (lp_X1_reckon_77 fuel (v17 + 1) S18)
else ((f_X1_pushFrom v17 S18).bind fun S23 =>
lp_X1_reckon_77 fuel (v17 + 1) S23)))
def f_X1_reckon (S : QS) : Option QS :=
(stL 25 0 S).bind fun S1 =>
(stF 25 3 (-1) S1).bind fun S3 =>
(f_X1_lowestShare (S3.1 37 0) (S3.1 26 0)).bind fun v6 =>
(stF 25 4 v6 S3).bind fun S7 =>
(f_X1_lowestShare (S7.1 26 0) (S7.1 37 0)).bind fun v10 =>
(stF 25 5 v10 S7).bind fun S11 =>
(f_X0_settle 26 S11).bind fun S14 =>
(f_X0_settle 37 S14).bind fun S16 =>
(lp_X1_reckon_77 FU (S16.1 30 2) S16).bind fun q19 =>
(f_X0_seeFirsts 26 q19).bind fun S25 =>
(f_X0_seeFirsts 37 S25).bind fun S27 =>
some S27
def f_J6_bitCount_0f7a4 (a1 : Int32) : Option Int32 :=
(some (a1 - ((((a1 : Int32).toUInt32 >>> ((1 : Int32).toUInt32 &&& Int32.toUInt32 31)).toInt32) &&& 1431655765))).bind fun v1 =>
(some ((v1 &&& 858993459) + ((((v1 : Int32).toUInt32 >>> ((2 : Int32).toUInt32 &&& Int32.toUInt32 31)).toInt32) &&& 858993459))).bind fun v3 =>
(some ((v3 + (((v3 : Int32).toUInt32 >>> ((4 : Int32).toUInt32 &&& Int32.toUInt32 31)).toInt32)) &&& 252645135)).bind fun v5 =>
(some (v5 + (((v5 : Int32).toUInt32 >>> ((8 : Int32).toUInt32 &&& Int32.toUInt32 31)).toInt32))).bind fun v7 =>
(some (v7 + (((v7 : Int32).toUInt32 >>> ((16 : Int32).toUInt32 &&& Int32.toUInt32 31)).toInt32))).bind fun v9 =>
some (v9 &&& 63)
def f_X6_in (a1 : Int32) (a2 : Int32) (a3 : Int32) : Option Int32 :=
if a1 < a2 then (some 0)
else (if a3 < a1 then (some 0)
else (some 1))
def f_X6_noCar (a1 : Int32) : Option Int32 :=
(f_X6_in a1 0 1).bind fun v2 =>
if v2 = 0 then (some 1)
else (some 0)
def f_X6_noSpeed (a1 : Int32) (a2 : Int32) : Option Int32 :=
(f_X6_noCar a1).bind fun v2 =>
if v2 = 0 then ((f_X6_in a2 0 2).bind fun v4 =>
if v4 = 0 then (some 1)
else (some 0))
else (some 1)
def f_X6_noSpan (a1 : Int32) (a2 : Int32) : Option Int32 :=
if a1 < (-50) then (some 1)
else (if a2 < a1 then (some 1)
else (if a2 ≤ 50 then (some 0)
else (some 1)))
def f_X6_throwsIf (a1 : Int32) (a2 : Int32) (S : QS) : Option (Int32 × QS) :=
if a1 = 0 then ((zb a1).bind fun v1 =>
some (v1, S))
else ((stF 48 0 a2 S).bind fun S3 =>
(zb a1).bind fun v5 =>
some (v5, S3))
def f_X6_thrown (S : QS) : Option Int32 :=
some (S.1 48 0)
def f_X6_cell (a1 : Int32) (a2 : Int32) : Option Int32 :=
some (((101 * a1) + a2) + 50)
def lp_X6_falses_5 (a1 : Int32) (a2 : Int32) (S : QS) : Nat → Int32 → Int32 → Option Int32
  | 0, _, _ => none
  | fuel + 1, v1, v2 => (if (S.1 48 13) ≤ v2 then (some v1)
else ((rdA 57 10 v2 S).bind fun v3 =>
((if v3 = a1 then ((rdA 58 10 v2 S).bind fun v6 =>
(rdA 59 10 v2 S).bind fun v8 =>
(f_X6_in a2 v6 v8).bind fun v11 =>
if v11 = 0 then (some (1 <<< (v2 &&& 31)))
else (some 0))
else (some 0)) : Option (Int32)).bind fun q5 =>
lp_X6_falses_5 a1 a2 S fuel (v1 ||| q5) (v2 + 1)))
def f_X6_falses (a1 : Int32) (a2 : Int32) (S : QS) : Option Int32 :=
lp_X6_falses_5 a1 a2 S FU 0 0
def lp_X6_lets_11 (a1 : Int32) (v1 : Int32) : Nat → Int32 → QS → Option (QS)
  | 0, _, _ => none
  | fuel + 1, v3, S4 => (if 50 < v3 then (some S4)
else ((f_X6_cell v1 v3).bind fun v7 =>
(rdA 55 6 v1 S4).bind fun v8 =>
(rdA 56 6 v1 S4).bind fun v10 =>
(f_X6_in v3 v8 v10).bind fun v13 =>
((if v13 = 0 then (some 0)
else ((f_X6_falses v1 v3 S4).bind fun v16 =>
if (v16 &&& a1) = 0 then (some 1)
else (some 0))) : Option (Int32)).bind fun q14 =>
(wrZ 60 606 v7 q14 S4).bind fun S17 =>
(f_X6_cell v1 v3).bind fun v20 =>
(wrZ 61 606 v20 0 S17).bind fun S21 =>
lp_X6_lets_11 a1 v1 fuel (v3 + 1) S21))
def lp_X6_lets_2 (a1 : Int32) : Nat → Int32 → QS → Option QS
  | 0, _, _ => none
  | fuel + 1, v1, S2 => (if 6 ≤ v1 then (some S2)
else ((lp_X6_lets_11 a1 v1 FU (-50) S2).bind fun q5 =>
lp_X6_lets_2 a1 fuel (v1 + 1) q5))
def f_X6_lets (a1 : Int32) (S : QS) : Option QS :=
lp_X6_lets_2 a1 FU 0 S
def lp_X6_takes_12 (a1 : Int32) (a2 : Int32) (a4 : Int32) (S : QS) : Nat → Int32 → Int32 → Int32 → Int32 → Option (Int32 × Int32 × Int32)
  | 0, _, _, _, _ => none
  | fuel + 1, v1, v2, v3, v4 => (if (S.1 48 7) ≤ v4 then (some (v1, v2, v3))
else ((rdA 50 12 v4 S).bind fun v6 =>
if v6 = a1 then ((rdA 51 12 v4 S).bind fun v8 =>
if v8 = a2 then ((rdA 54 12 v4 S).bind fun v10 =>
if v10 = 0 then (if v4 = a4 then (lp_X6_takes_12 a1 a2 a4 S fuel v1 v2 v3 (v4 + 1))
else ((rdA 52 12 v4 S).bind fun v12 =>
(rdA 53 12 v4 S).bind fun v14 =>
lp_X6_takes_12 a1 a2 a4 S fuel (v1 + v12) (v2 + v14) (v3 + 1) (v4 + 1)))
else (lp_X6_takes_12 a1 a2 a4 S fuel v1 v2 v3 (v4 + 1)))
else (lp_X6_takes_12 a1 a2 a4 S fuel v1 v2 v3 (v4 + 1)))
else (lp_X6_takes_12 a1 a2 a4 S fuel v1 v2 v3 (v4 + 1))))
def ct_X6_takes_105 (a3 : Int32) (q5 : Int32 × Int32 × Int32) : Option Int32 :=
(f_X6_in a3 q5.1 q5.2.1).bind fun v17 =>
if v17 = 0 then (some 0)
else (some 1)
def f_X6_takes (a1 : Int32) (a2 : Int32) (a3 : Int32) (a4 : Int32) (S : QS) : Option Int32 :=
(lp_X6_takes_12 a1 a2 a4 S FU 0 0 0 0).bind fun q5 =>
if a2 = 0 then (ct_X6_takes_105 a3 q5)
else (if q5.2.2 = 0 then (some 1)
else (ct_X6_takes_105 a3 q5))
def f_X6_isFirst (a1 : Int32) (a2 : Int32) (a3 : Int32) (a4 : Int32) (S : QS) : Option Int32 :=
((if a3 ≤ 0 then (if 0 ≤ a3 then (if a2 < 0 then (some 0)
else (some 1))
else (if 0 ≤ a2 then (some 0)
else (some 1)))
else (if a2 ≤ 0 then (some 0)
else (some 1))) : Option (Int32)).bind fun q1 =>
if q1 = 0 then (some 0)
else ((f_X6_cell (3 * a1) a2).bind fun v3 =>
(rdA 60 606 v3 S).bind fun v4 =>
if v4 = 0 then (some 0)
else ((f_X6_takes a1 0 (51 * ((a2 * a2) - (a3 * a3))) a4 S).bind fun v7 =>
if v7 = 0 then (some 0)
else (some 1)))
def lp_X6_counts_23 (a1 : Int32) (v1 : Int32) (v3 : Int32) (S4 : QS) : Nat → Int32 → Int32 → Option (Int32)
  | 0, _, _ => none
  | fuel + 1, v6, v7 => (if 50 < v7 then (some v6)
else ((f_X6_cell ((3 * v1) + 1) v3).bind fun v10 =>
(rdA 60 606 v10 S4).bind fun v11 =>
if v11 = 0 then (some v6)
else ((f_X6_isFirst v1 v7 v3 a1 S4).bind fun v14 =>
((if v14 = 0 then (some 0)
else (some 1)) : Option (Int32)).bind fun q15 =>
lp_X6_counts_23 a1 v1 v3 S4 fuel (v6 + q15) (v7 + 1))))
def lp_X6_counts_10 (a1 : Int32) (v1 : Int32) : Nat → Int32 → QS → Option (QS)
  | 0, _, _ => none
  | fuel + 1, v3, S4 => (if 50 < v3 then (some S4)
else ((lp_X6_counts_23 a1 v1 v3 S4 FU 0 (-50)).bind fun q8 =>
(wrA 62 202 (((101 * v1) + v3) + 50) q8 S4).bind fun S16 =>
(f_X6_cell ((3 * v1) + 2) v3).bind fun v19 =>
(rdA 60 606 v19 S16).bind fun v20 =>
((if v20 = 0 then (some 0)
else ((f_X6_takes v1 1 ((51 * v3) * v3) a1 S16).bind fun v24 =>
if v24 = 0 then (some 0)
else (some 1))) : Option (Int32)).bind fun q22 =>
(wrZ 60 606 v19 q22 S16).bind fun S25 =>
lp_X6_counts_10 a1 v1 fuel (v3 + 1) S25))
def lp_X6_counts_2 (a1 : Int32) : Nat → Int32 → QS → Option QS
  | 0, _, _ => none
  | fuel + 1, v1, S2 => (if 2 ≤ v1 then (some S2)
else ((lp_X6_counts_10 a1 v1 FU (-50) S2).bind fun q5 =>
lp_X6_counts_2 a1 fuel (v1 + 1) q5))
def f_X6_counts (a1 : Int32) (S : QS) : Option QS :=
lp_X6_counts_2 a1 FU 0 S
def lp_X6_masks_33 (a1 : Int32) (a2 : Int32) (a3 : Int32) (v1 : Int32) : Nat → Int32 → QS → Option (QS)
  | 0, _, _ => none
  | fuel + 1, v5, S6 => ((rdA 66 202 ((101 + a2) + 50) S6).bind fun v8 =>
if v8 ≤ v5 then (some S6)
else ((rdA 65 20402 ((101 * (a1 + 50)) + v1) S6).bind fun v10 =>
(rdA 65 20402 ((101 * ((101 + a2) + 50)) + v5) S6).bind fun v12 =>
(wrZ 63 1024 ((v10 ||| v12) ||| a3) 1 S6).bind fun S14 =>
lp_X6_masks_33 a1 a2 a3 v1 fuel (v5 + 1) S14))
def lp_X6_masks_18 (a1 : Int32) (a2 : Int32) (a3 : Int32) : Nat → Int32 → QS → Option QS
  | 0, _, _ => none
  | fuel + 1, v1, S2 => ((rdA 66 202 (a1 + 50) S2).bind fun v3 =>
if v3 ≤ v1 then (some S2)
else ((lp_X6_masks_33 a1 a2 a3 v1 FU 0 S2).bind fun q7 =>
lp_X6_masks_18 a1 a2 a3 fuel (v1 + 1) q7))
def f_X6_masks (a1 : Int32) (a2 : Int32) (a3 : Int32) (S : QS) : Option QS :=
lp_X6_masks_18 a1 a2 a3 FU 0 S
def f_X6_mass (a1 : Int32) (a2 : Int32) (S : QS) : Option QS :=
(stF 48 0 0 S).bind fun S1 =>
(f_X6_noCar a1).bind fun v4 =>
(f_X6_throwsIf v4 1 S1).bind fun q6 =>
if q6.1 = 0 then ((f_X6_in a2 1 100).bind fun v8 =>
((if v8 = 0 then (some 1)
else (some 0)) : Option (Int32)).bind fun q9 =>
(f_X6_throwsIf q9 2 q6.2).bind fun q11 =>
if q11.1 = 0 then ((wrA 49 2 a1 a2 q11.2).bind fun S12 =>
some S12)
else (some q11.2))
else (some q6.2)
def f_X6_drop (a1 : Int32) (a2 : Int32) (S : QS) : Option (Int32 × QS) :=
(stF 48 0 0 S).bind fun S1 =>
(f_X6_in a1 0 ((S1.1 48 7) - 1)).bind fun v4 =>
((if v4 = 0 then (some 1)
else (some 0)) : Option (Int32)).bind fun q5 =>
(f_X6_throwsIf q5 1 S1).bind fun q7 =>
if q7.1 = 0 then ((rdA 54 12 a1 q7.2).bind fun v8 =>
(wrZ 54 12 a1 a2 q7.2).bind fun S10 =>
if v8 = a2 then (some (0, S10))
else (some (1, S10)))
else (some (0, q7.2))
def f_X6_sure (a1 : Int32) (a2 : Int32) (a3 : Int32) (a4 : Int32) (S : QS) : Option QS :=
(stF 48 0 0 S).bind fun S1 =>
(f_X6_noSpeed a1 a2).bind fun v4 =>
(f_X6_throwsIf v4 1 S1).bind fun q6 =>
if q6.1 = 0 then ((f_X6_noSpan a3 a4).bind fun v8 =>
(f_X6_throwsIf v8 2 q6.2).bind fun q10 =>
if q10.1 = 0 then ((wrA 55 6 ((3 * a1) + a2) a3 q10.2).bind fun S11 =>
(wrA 56 6 ((3 * a1) + a2) a4 S11).bind fun S13 =>
some S13)
else (some q10.2))
else (some q6.2)
def f_X6_hush (S : QS) : Option (Int32 × QS) :=
(stF 48 0 0 S).bind fun S1 =>
(stF 48 13 0 S1).bind fun S3 =>
some ((S1.1 48 13), S3)
def f_X6_all (S : QS) : Option Int32 :=
some ((1 <<< ((S.1 48 13) &&& 31)) - 1)
def f_X6_look (a1 : Int32) (a2 : Int32) (S : QS) : Option (Int32 × QS) :=
(stF 48 0 0 S).bind fun S1 =>
(f_X6_in a1 0 ((S1.1 48 7) - 1)).bind fun v4 =>
((if v4 = 0 then (some 1)
else (some 0)) : Option (Int32)).bind fun q5 =>
(f_X6_throwsIf q5 1 S1).bind fun q7 =>
if q7.1 = 0 then (if a2 = 0 then ((rdA 50 12 a1 q7.2).bind fun v8 =>
some (v8, q7.2))
else (if a2 = 1 then ((rdA 51 12 a1 q7.2).bind fun v10 =>
if v10 = 0 then (some (0, q7.2))
else (some (1, q7.2)))
else (if a2 = 2 then ((rdA 52 12 a1 q7.2).bind fun v12 =>
some (v12, q7.2))
else (if a2 = 3 then ((rdA 53 12 a1 q7.2).bind fun v14 =>
some (v14, q7.2))
else (if a2 = 4 then ((rdA 54 12 a1 q7.2).bind fun v16 =>
if v16 = 0 then (some (1, q7.2))
else (some (0, q7.2)))
else ((stF 48 0 2 q7.2).bind fun S18 =>
some (0, S18)))))))
else (some (0, q7.2))
def lp_X6_count_51 (S1 : QS) : Nat → Int32 → Int32 → Option (Int32 × QS)
  | 0, _, _ => none
  | fuel + 1, v3, v4 => (if (S1.1 48 7) ≤ v4 then (some (v3, S1))
else ((rdA 54 12 v4 S1).bind fun v5 =>
((if v5 = 0 then (some 1)
else (some 0)) : Option (Int32)).bind fun q7 =>
lp_X6_count_51 S1 fuel (v3 + q7) (v4 + 1)))
def f_X6_count (a1 : Int32) (S : QS) : Option (Int32 × QS) :=
(stF 48 0 0 S).bind fun S1 =>
if a1 = 0 then (some ((S1.1 48 7), S1))
else (if a1 = 1 then (lp_X6_count_51 S1 FU 0 0)
else (if a1 = 2 then (some ((S1.1 48 13), S1))
else (if a1 = 3 then ((rdA 49 2 (a1 - 3) S1).bind fun v8 =>
some (v8, S1))
else (if a1 = 4 then ((rdA 49 2 (a1 - 3) S1).bind fun v10 =>
some (v10, S1))
else (some ((-1), S1))))))
def f_X6_skid (a1 : Int32) (a2 : Int32) (a3 : Int32) (a4 : Int32) (a5 : Int32) (a6 : Int32) (S : QS) : Option (Int32 × QS) :=
(stF 48 0 0 S).bind fun S1 =>
(f_X6_noCar a1).bind fun v4 =>
(f_X6_throwsIf v4 1 S1).bind fun q6 =>
if q6.1 = 0 then (((if a3 < 0 then (some 1)
else (if a4 < a3 then (some 1)
else (if 2000 < a4 then (some 1)
else (if a5 < 0 then (some 1)
else (if a6 < a5 then (some 1)
else (if a6 ≤ 150 then (some 0)
else (some 1))))))) : Option (Int32)).bind fun q7 =>
(f_X6_throwsIf q7 2 q6.2).bind fun q9 =>
if q9.1 = 0 then (((if (q9.2.1 48 7) = 12 then (some 1)
else (some 0)) : Option (Int32)).bind fun q10 =>
(f_X6_throwsIf q10 3 q9.2).bind fun q12 =>
if q12.1 = 0 then ((wrA 50 12 (q12.2.1 48 7) a1 q12.2).bind fun S13 =>
(wrZ 51 12 (S13.1 48 7) a2 S13).bind fun S15 =>
(wrA 52 12 (S15.1 48 7) (a3 * a5) S15).bind fun S17 =>
(wrA 53 12 (S17.1 48 7) (a4 * a6) S17).bind fun S19 =>
(stF 48 7 ((S19.1 48 7) + 1) S19).bind fun S21 =>
some (((S21.1 48 7) - 1), S21))
else (some (0, q12.2)))
else (some (0, q9.2)))
else (some (0, q6.2))
def f_X6_tale (a1 : Int32) (a2 : Int32) (a3 : Int32) (a4 : Int32) (S : QS) : Option (Int32 × QS) :=
(stF 48 0 0 S).bind fun S1 =>
(f_X6_noSpeed a1 a2).bind fun v4 =>
(f_X6_throwsIf v4 1 S1).bind fun q6 =>
if q6.1 = 0 then ((f_X6_noSpan a3 a4).bind fun v8 =>
(f_X6_throwsIf v8 2 q6.2).bind fun q10 =>
if q10.1 = 0 then (((if (q10.2.1 48 13) = 10 then (some 1)
else (some 0)) : Option (Int32)).bind fun q11 =>
(f_X6_throwsIf q11 3 q10.2).bind fun q13 =>
if q13.1 = 0 then ((wrA 57 10 (q13.2.1 48 13) ((3 * a1) + a2) q13.2).bind fun S14 =>
(wrA 58 10 (S14.1 48 13) a3 S14).bind fun S16 =>
(wrA 59 10 (S16.1 48 13) a4 S16).bind fun S18 =>
(stF 48 13 ((S18.1 48 13) + 1) S18).bind fun S20 =>
some (((S20.1 48 13) - 1), S20))
else (some (0, q13.2)))
else (some (0, q10.2)))
else (some (0, q6.2))
def lp_X6_goes_75 (v7 : Int32) (v10 : Int32) (v13 : Int32) (v15 : Int32) : Nat → Int32 → QS → Option (QS)
  | 0, _, _ => none
  | fuel + 1, v17, S18 => (if 50 < v17 then (some S18)
else ((rdA 49 2 0 S18).bind fun v20 =>
(rdA 49 2 1 S18).bind fun v22 =>
(rdA 49 2 1 S18).bind fun v24 =>
(dvI ((v20 * (v7 - v17)) + (v22 * v10)) v24).bind fun v26 =>
(rdA 49 2 1 S18).bind fun v27 =>
if (v26 * v27) = ((v20 * (v7 - v17)) + (v22 * v10)) then (if v26 < v17 then (lp_X6_goes_75 v7 v10 v13 v15 fuel (v17 + 1) S18)
else (if 50 < v26 then (lp_X6_goes_75 v7 v10 v13 v15 fuel (v17 + 1) S18)
else ((f_X6_cell 2 v17).bind fun v30 =>
(rdA 60 606 v30 S18).bind fun v31 =>
if v31 = 0 then (lp_X6_goes_75 v7 v10 v13 v15 fuel (v17 + 1) S18)
else ((f_X6_cell 5 v26).bind fun v34 =>
(rdA 60 606 v34 S18).bind fun v35 =>
if v35 = 0 then (lp_X6_goes_75 v7 v10 v13 v15 fuel (v17 + 1) S18)
else ((rdA 49 2 0 S18).bind fun v37 =>
(rdA 49 2 1 S18).bind fun v39 =>
(rdA 49 2 0 S18).bind fun v41 =>
(rdA 49 2 1 S18).bind fun v43 =>
if (((v41 * v17) * v17) + ((v43 * v26) * v26)) ≤ (((v37 * v7) * v7) + ((v39 * v10) * v10)) then ((stL 48 ((S18.2 48) + (v13.toInt64 * v15.toInt64)) S18).bind fun S45 =>
(f_X6_cell 1 v7).bind fun v48 =>
(wrZ 61 606 v48 1 S45).bind fun S49 =>
(f_X6_cell 4 v10).bind fun v52 =>
(wrZ 61 606 v52 1 S49).bind fun S53 =>
(f_X6_cell 2 v17).bind fun v56 =>
(wrZ 61 606 v56 1 S53).bind fun S57 =>
(f_X6_cell 5 v26).bind fun v60 =>
(wrZ 61 606 v60 1 S57).bind fun S61 =>
if (S61.1 48 18) = 0 then (lp_X6_goes_75 v7 v10 v13 v15 fuel (v17 + 1) S61)
else ((f_X6_falses 2 v17 S61).bind fun v64 =>
(f_X6_falses 5 v26 S61).bind fun v66 =>
(f_X6_masks v7 v10 (v64 ||| v66) S61).bind fun S68 =>
lp_X6_goes_75 v7 v10 v13 v15 fuel (v17 + 1) S68))
else (lp_X6_goes_75 v7 v10 v13 v15 fuel (v17 + 1) S18))))))
else (lp_X6_goes_75 v7 v10 v13 v15 fuel (v17 + 1) S18)))
def lp_X6_goes_28 (v7 : Int32) : Nat → Int32 → QS → Option (QS)
  | 0, _, _ => none
  | fuel + 1, v10, S11 => (if v7 ≤ v10 then (some S11)
else ((rdA 62 202 (v7 + 50) S11).bind fun v13 =>
(rdA 62 202 ((101 + v10) + 50) S11).bind fun v15 =>
if (lg_cmp (v13.toInt64 * v15.toInt64) 0) = 0 then (lp_X6_goes_28 v7 fuel (v10 + 1) S11)
else ((lp_X6_goes_75 v7 v10 v13 v15 FU (-50) S11).bind fun q19 =>
lp_X6_goes_28 v7 fuel (v10 + 1) q19)))
def lp_X6_goes_18  : Nat → Int32 → QS → Option (QS)
  | 0, _, _ => none
  | fuel + 1, v7, S8 => (if 50 < v7 then (some S8)
else ((lp_X6_goes_28 v7 FU (-50) S8).bind fun q12 =>
lp_X6_goes_18 fuel (v7 + 1) q12))
def lp_X6_goes_377 (a2 : Int32) (v70 : Int32) (v73 : Int32) : Nat → Int32 → QS → Option (QS)
  | 0, _, _ => none
  | fuel + 1, v80, S81 => (if 50 < v80 then (some S81)
else ((f_X6_isFirst v70 v80 v73 a2 S81).bind fun v84 =>
if v84 = 0 then (lp_X6_goes_377 a2 v70 v73 fuel (v80 + 1) S81)
else ((f_X6_cell (3 * v70) v80).bind fun v86 =>
(wrZ 61 606 v86 1 S81).bind fun S87 =>
lp_X6_goes_377 a2 v70 v73 fuel (v80 + 1) S87)))
def lp_X6_goes_345 (a2 : Int32) (v70 : Int32) : Nat → Int32 → QS → Option (QS)
  | 0, _, _ => none
  | fuel + 1, v73, S74 => (if 50 < v73 then (some S74)
else ((f_X6_cell ((3 * v70) + 1) v73).bind fun v77 =>
(rdA 61 606 v77 S74).bind fun v78 =>
if v78 = 0 then (lp_X6_goes_345 a2 v70 fuel (v73 + 1) S74)
else ((lp_X6_goes_377 a2 v70 v73 FU (-50) S74).bind fun q82 =>
lp_X6_goes_345 a2 v70 fuel (v73 + 1) q82)))
def lp_X6_goes_336 (a2 : Int32) : Nat → Int32 → QS → Option (QS)
  | 0, _, _ => none
  | fuel + 1, v70, S71 => (if 2 ≤ v70 then (some S71)
else ((lp_X6_goes_345 a2 v70 FU (-50) S71).bind fun q75 =>
lp_X6_goes_336 a2 fuel (v70 + 1) q75))
def f_X6_goes (a1 : Int32) (a2 : Int32) (S : QS) : Option (Int32 × QS) :=
(f_X6_lets a1 S).bind fun S2 =>
(f_X6_counts a2 S2).bind fun S4 =>
(stL 48 0 S4).bind fun S5 =>
(lp_X6_goes_18 FU (-50) S5).bind fun q9 =>
(lp_X6_goes_336 a2 FU 0 q9).bind fun q72 =>
if (lg_cmp (q72.2 48) 0) ≤ 0 then (some (0, q72))
else (some (1, q72))
def lp_X6_makes_41 (v3 : Int32) (v5 : Int32) : Nat → Int32 → QS → Option (QS)
  | 0, _, _ => none
  | fuel + 1, v10, S11 => (if (1 <<< ((S11.1 48 13) &&& 31)) ≤ v10 then (some S11)
else ((wrZ 64 206848 (((((101 * v3) + v5) + 50) <<< (10 &&& 31)) + v10) 0 S11).bind fun S13 =>
lp_X6_makes_41 v3 v5 fuel (v10 + 1) S13))
def lp_X6_makes_75 (v3 : Int32) (v5 : Int32) : Nat → Int32 → QS → Option (QS)
  | 0, _, _ => none
  | fuel + 1, v15, S16 => (if 50 < v15 then (some S16)
else ((f_X6_cell ((3 * v3) + 1) v5).bind fun v19 =>
(rdA 60 606 v19 S16).bind fun v20 =>
if v20 = 0 then (lp_X6_makes_75 v3 v5 fuel (v15 + 1) S16)
else ((f_X6_isFirst v3 v15 v5 (-1) S16).bind fun v23 =>
if v23 = 0 then (lp_X6_makes_75 v3 v5 fuel (v15 + 1) S16)
else ((f_X6_falses (3 * v3) v15 S16).bind fun v25 =>
(f_X6_falses ((3 * v3) + 1) v5 S16).bind fun v27 =>
(rdA 64 206848 (((((101 * v3) + v5) + 50) <<< (10 &&& 31)) + (v25 ||| v27)) S16).bind fun v28 =>
if v28 = 0 then ((wrZ 64 206848 (((((101 * v3) + v5) + 50) <<< (10 &&& 31)) + (v25 ||| v27)) 1 S16).bind fun S30 =>
(rdA 66 202 (((101 * v3) + v5) + 50) S30).bind fun v32 =>
(wrA 65 20402 ((101 * (((101 * v3) + v5) + 50)) + v32) (v25 ||| v27) S30).bind fun S34 =>
(rdA 66 202 (((101 * v3) + v5) + 50) S34).bind fun v36 =>
(wrA 66 202 (((101 * v3) + v5) + 50) (v36 + 1) S34).bind fun S38 =>
lp_X6_makes_75 v3 v5 fuel (v15 + 1) S38)
else (lp_X6_makes_75 v3 v5 fuel (v15 + 1) S16)))))
def lp_X6_makes_15 (v3 : Int32) : Nat → Int32 → QS → Option (QS)
  | 0, _, _ => none
  | fuel + 1, v5, S6 => (if 50 < v5 then (some S6)
else ((wrA 66 202 (((101 * v3) + v5) + 50) 0 S6).bind fun S8 =>
(lp_X6_makes_41 v3 v5 FU 0 S8).bind fun q12 =>
(lp_X6_makes_75 v3 v5 FU (-50) q12).bind fun q17 =>
lp_X6_makes_15 v3 fuel (v5 + 1) q17))
def lp_X6_makes_7  : Nat → Int32 → QS → Option QS
  | 0, _, _ => none
  | fuel + 1, v3, S4 => (if 2 ≤ v3 then (some S4)
else ((lp_X6_makes_15 v3 FU (-50) S4).bind fun q7 =>
lp_X6_makes_7 fuel (v3 + 1) q7))
def f_X6_makes (S : QS) : Option QS :=
(f_X6_lets 0 S).bind fun S2 =>
lp_X6_makes_7 FU 0 S2
def lp_X6_fewest_2  : Nat → Int32 → QS → Option (QS)
  | 0, _, _ => none
  | fuel + 1, v1, S2 => (if 1024 ≤ v1 then (some S2)
else ((wrZ 63 1024 v1 0 S2).bind fun S4 =>
lp_X6_fewest_2 fuel (v1 + 1) S4))
def lp_X6_fewest_47 (q11 : Int32 × QS) (S12 : QS) : Nat → Int32 → Int32 → Option (Int32 × QS)
  | 0, _, _ => none
  | fuel + 1, v14, v15 => (if (1 <<< ((S12.1 48 13) &&& 31)) ≤ v15 then (some (v14, S12))
else (if q11.1 = 0 then (some (v14, S12))
else ((rdA 63 1024 v15 S12).bind fun v16 =>
if v16 = 0 then (lp_X6_fewest_47 q11 S12 fuel v14 (v15 + 1))
else (if v14 < 0 then (lp_X6_fewest_47 q11 S12 fuel v15 (v15 + 1))
else ((f_J6_bitCount_0f7a4 v15).bind fun v19 =>
(f_J6_bitCount_0f7a4 v14).bind fun v21 =>
if v21 ≤ v19 then (lp_X6_fewest_47 q11 S12 fuel v14 (v15 + 1))
else (lp_X6_fewest_47 q11 S12 fuel v15 (v15 + 1)))))))
def f_X6_fewest (S : QS) : Option (Int32 × QS) :=
(lp_X6_fewest_2 FU 0 S).bind fun q3 =>
(f_X6_makes q3).bind fun S7 =>
(stZ 48 18 1 S7).bind fun S8 =>
(f_X6_goes 0 (-1) S8).bind fun q11 =>
(stZ 48 18 0 q11.2).bind fun S12 =>
lp_X6_fewest_47 q11 S12 FU (-1) 0
def f_X6_ways (S : QS) : Option (Int64 × QS) :=
(stF 48 0 0 S).bind fun S1 =>
(f_X6_goes 0 (-1) S1).bind fun q4 =>
some ((q4.2.2 48), q4.2)
def lp_X6_span_67 (a1 : Int32) (a2 : Int32) (a3 : Int32) (q14 : Int32 × QS) : Nat → Int32 → Option (Int32 × QS)
  | 0, _ => none
  | fuel + 1, v16 => ((f_X6_cell ((3 * a1) + a2) v16).bind fun v18 =>
(rdA 61 606 v18 q14.2).bind fun v19 =>
if v19 = 0 then (((if a3 = 0 then (some 1)
else (some (-1))) : Option (Int32)).bind fun q21 =>
lp_X6_span_67 a1 a2 a3 q14 fuel (v16 + q21))
else (some (v16, q14.2)))
def f_X6_span (a1 : Int32) (a2 : Int32) (a3 : Int32) (a4 : Int32) (S : QS) : Option (Int32 × QS) :=
(stF 48 0 0 S).bind fun S1 =>
(f_X6_noSpeed a1 a2).bind fun v4 =>
(f_X6_throwsIf v4 1 S1).bind fun q6 =>
if q6.1 = 0 then (((if a4 = 0 then (some 0)
else ((f_X6_all q6.2).bind fun v9 =>
some v9)) : Option (Int32)).bind fun q7 =>
(f_X6_goes q7 (-1) q6.2).bind fun q11 =>
((if q11.1 = 0 then (some 1)
else (some 0)) : Option (Int32)).bind fun q12 =>
(f_X6_throwsIf q12 2 q11.2).bind fun q14 =>
if q14.1 = 0 then (((if a3 = 0 then (some (-50))
else (some 50)) : Option (Int32)).bind fun q15 =>
lp_X6_span_67 a1 a2 a3 q14 FU q15)
else (some (0, q14.2)))
else (some (0, q6.2))
def f_X6_fit (a1 : Int32) (S : QS) : Option (Int32 × QS) :=
(stF 48 0 0 S).bind fun S1 =>
(f_X6_all S1).bind fun v4 =>
(f_X6_goes (a1 &&& v4) (-1) S1).bind fun q6 =>
(zb q6.1).bind fun v7 =>
some (v7, q6.2)
def f_X6_wrong (S : QS) : Option (Int32 × QS) :=
(stF 48 0 0 S).bind fun S1 =>
(f_X6_fewest S1).bind fun q4 =>
if 0 ≤ q4.1 then ((f_J6_bitCount_0f7a4 q4.1).bind fun v6 =>
some (v6, q4.2))
else (some ((-1), q4.2))
def f_X6_which (S : QS) : Option (Int32 × QS) :=
(stF 48 0 0 S).bind fun S1 =>
(f_X6_fewest S1).bind fun q4 =>
some (q4.1, q4.2)
def lp_X6_odds_20  : Nat → Int32 → Int32 → QS → Option (Int32 × QS)
  | 0, _, _, _ => none
  | fuel + 1, v5, v6, S7 => (if (S7.1 48 7) ≤ v6 then (some (v5, S7))
else ((rdA 54 12 v6 S7).bind fun v8 =>
((if v8 = 0 then ((f_X6_goes 0 v6 S7).bind fun q12 =>
if q12.1 = 0 then (some (0, q12.2))
else (some ((1 <<< (v6 &&& 31)), q12.2)))
else (some (0, S7))) : Option (Int32 × QS)).bind fun q10 =>
lp_X6_odds_20 fuel (v5 ||| q10.1) (v6 + 1) q10.2))
def f_X6_odds (S : QS) : Option (Int32 × QS) :=
(stF 48 0 0 S).bind fun S1 =>
(f_X6_goes 0 (-1) S1).bind fun q4 =>
if q4.1 = 0 then (lp_X6_odds_20 FU 0 0 q4.2)
else (some (0, q4.2))
def lp_X6_avoided_86 (a1 : Int32) (a2 : Int32) (a3 : Int32) (q18 : Int32 × QS) : Nat → Int32 → Int32 → Int32 → Option (Int32 × Int32)
  | 0, _, _, _ => none
  | fuel + 1, v19, v20, v21 => (if 50 < v21 then (some (v19, v20))
else ((f_X6_cell (3 * a1) v21).bind fun v24 =>
(rdA 61 606 v24 q18.2).bind fun v25 =>
if v25 = 0 then (lp_X6_avoided_86 a1 a2 a3 q18 fuel v19 v20 (v21 + 1))
else (((if (a2 * a3) < ((51 * v21) * v21) then (some 0)
else (some 1)) : Option (Int32)).bind fun q27 =>
((if v19 = 0 then (if q27 = 0 then (some 0)
else (some 1))
else (some 1)) : Option (Int32)).bind fun q28 =>
((if v20 = 0 then (some 0)
else (if q27 = 0 then (some 0)
else (some 1))) : Option (Int32)).bind fun q29 =>
lp_X6_avoided_86 a1 a2 a3 q18 fuel q28 q29 (v21 + 1))))
def f_X6_avoided (a1 : Int32) (a2 : Int32) (a3 : Int32) (S : QS) : Option (Int32 × QS) :=
(stF 48 0 0 S).bind fun S1 =>
(f_X6_noCar a1).bind fun v4 =>
(f_X6_throwsIf v4 1 S1).bind fun q6 =>
if q6.1 = 0 then ((f_X6_in a2 0 2000).bind fun v8 =>
((if v8 = 0 then (some 1)
else ((f_X6_in a3 0 150).bind fun v11 =>
if v11 = 0 then (some 1)
else (some 0))) : Option (Int32)).bind fun q9 =>
(f_X6_throwsIf q9 2 q6.2).bind fun q13 =>
if q13.1 = 0 then ((f_X6_goes 0 (-1) q13.2).bind fun q15 =>
((if q15.1 = 0 then (some 1)
else (some 0)) : Option (Int32)).bind fun q16 =>
(f_X6_throwsIf q16 3 q15.2).bind fun q18 =>
if q18.1 = 0 then ((lp_X6_avoided_86 a1 a2 a3 q18 FU 0 1 (-50)).bind fun q22 =>
if q22.2 = 0 then (if q22.1 = 0 then (some (0, q18.2))
else (some (1, q18.2)))
else (some (2, q18.2)))
else (some (0, q18.2)))
else (some (0, q13.2)))
else (some (0, q6.2))
def f_X6_can (a1 : Int32) (a2 : Int32) (a3 : Int32) (S : QS) : Option (Int32 × QS) :=
(stF 48 0 0 S).bind fun S1 =>
(f_X6_noSpeed a1 a2).bind fun v4 =>
(f_X6_throwsIf v4 1 S1).bind fun q6 =>
if q6.1 = 0 then ((f_X6_in a3 (-50) 50).bind fun v8 =>
if v8 = 0 then (some (0, q6.2))
else ((f_X6_goes 0 (-1) q6.2).bind fun q10 =>
if q10.1 = 0 then (some (0, q10.2))
else ((f_X6_cell ((3 * a1) + a2) a3).bind fun v12 =>
(rdA 61 606 v12 q10.2).bind fun v13 =>
if v13 = 0 then (some (0, q10.2))
else (some (1, q10.2)))))
else (some (0, q6.2))
def f_X5_testCar (a1 : Int32) (S : QS) : Option ((String × QS) ⊕ Unit) :=
if a1 < 0 then (some (.inl ("java/lang/IndexOutOfBoundsException", S)))
else (if a1 < 2 then (some (.inr ()))
else (some (.inl ("java/lang/IndexOutOfBoundsException", S))))
def f_X5_testSpeed (a1 : Int32) (a2 : Int32) (S : QS) : Option ((String × QS) ⊕ Unit) :=
bx (f_X5_testCar a1 S) fun _ =>
if a2 < 0 then (some (.inl ("java/lang/IndexOutOfBoundsException", S)))
else (if a2 ≤ 2 then (some (.inr ()))
else (some (.inl ("java/lang/IndexOutOfBoundsException", S))))
def f_X5_testNumber (a1 : Int32) (a2 : Int32) (a3 : Int32) (S : QS) : Option ((String × QS) ⊕ Unit) :=
if a1 < a2 then (some (.inl ("java/lang/IllegalArgumentException", S)))
else (if a1 ≤ a3 then (some (.inr ()))
else (some (.inl ("java/lang/IllegalArgumentException", S))))
def f_X5_testSpan (a1 : Int32) (a2 : Int32) (a3 : Int32) (a4 : Int32) (S : QS) : Option ((String × QS) ⊕ Unit) :=
if a1 < a3 then (some (.inl ("java/lang/IllegalArgumentException", S)))
else (if a2 < a1 then (some (.inl ("java/lang/IllegalArgumentException", S)))
else (if a2 ≤ a4 then (some (.inr ()))
else (some (.inl ("java/lang/IllegalArgumentException", S)))))
def f_X5_testWay (S : QS) : Option ((String × QS) ⊕ Unit) :=
if (lg_cmp (S.2 25) 0) = 0 then (some (.inl ("java/util/NoSuchElementException", S)))
else (some (.inr ()))
def f_X5_skidOf (a1 : Int32) (S : QS) : Option ((String × QS) ⊕ Nat) :=
if a1 < 0 then (some (.inl ("java/lang/IndexOutOfBoundsException", S)))
else (if a1 < (S.1 0 2) then ((rdQ 2 12 a1).bind fun c1 =>
some (.inr c1))
else (some (.inl ("java/lang/IndexOutOfBoundsException", S))))
def f_X5_carOf (a1 : Int32) (S : QS) : Option ((String × QS) ⊕ Nat) :=
bx (f_X5_testCar a1 S) fun _ =>
(f_X1_pick a1 S).bind fun c4 =>
some (.inr c4)
def f_X5_speedOf (a1 : Int32) (a2 : Int32) (S : QS) : Option ((String × QS) ⊕ Nat) :=
bx (f_X5_testSpeed a1 a2 S) fun _ =>
bx (f_X5_carOf a1 S) fun c4 =>
(f_X0_pick c4 a2 S).bind fun c7 =>
some (.inr c7)
def f_X5_allTales (S : QS) : Option Int32 :=
some ((1 <<< ((S.1 0 3) &&& 31)) - 1)
def lp_X5_countingSkids_4 (S : QS) : Nat → Int32 → Int32 → Option Int32
  | 0, _, _ => none
  | fuel + 1, v1, v2 => (if (S.1 0 2) ≤ v2 then (some v1)
else ((rdQ 2 12 v2).bind fun c3 =>
((if (S.1 c3 4) = 0 then (some 0)
else (some 1)) : Option (Int32)).bind fun q5 =>
lp_X5_countingSkids_4 S fuel (v1 + q5) (v2 + 1)))
def f_X5_countingSkids (S : QS) : Option Int32 :=
lp_X5_countingSkids_4 S FU 0 0
def f_X5_mass (a1 : Int32) (a2 : Int32) (S : QS) : Option ((String × QS) ⊕ QS) :=
bx (f_X5_carOf a1 S) fun c2 =>
bx (f_X5_testNumber a2 1 100 S) fun _ =>
(stF c2 0 a2 S).bind fun S6 =>
(stZ 0 5 0 S6).bind fun S8 =>
some (.inr S8)
def f_X5_skid (a1 : Int32) (a2 : Int32) (a3 : Int32) (a4 : Int32) (a5 : Int32) (a6 : Int32) (S : QS) : Option ((String × QS) ⊕ (Int32 × QS)) :=
bx (f_X5_testCar a1 S) fun _ =>
bx (f_X5_testSpan a3 a4 0 2000 S) fun _ =>
bx (f_X5_testSpan a5 a6 0 150 S) fun _ =>
if (S.1 0 2) < 12 then ((rdQ 2 12 (S.1 0 2)).bind fun c7 =>
(stF c7 0 a1 S).bind fun S9 =>
(stZ c7 1 a2 S9).bind fun S11 =>
(stF c7 2 (a3 * a5) S11).bind fun S13 =>
(stF c7 3 (a4 * a6) S13).bind fun S15 =>
(stZ c7 4 1 S15).bind fun S17 =>
(stF 0 2 ((S17.1 0 2) + 1) S17).bind fun S19 =>
(stZ 0 5 0 S19).bind fun S21 =>
some (.inr (((S21.1 0 2) - 1), S21)))
else (some (.inl ("java/lang/UnsupportedOperationException", S)))
def f_X5_drop (a1 : Int32) (a2 : Int32) (S : QS) : Option ((String × QS) ⊕ (Int32 × QS)) :=
bx (f_X5_skidOf a1 S) fun c2 =>
if (S.1 c2 4) = a2 then (((if a2 = 0 then (some 1)
else (some 0)) : Option (Int32)).bind fun q4 =>
(stZ c2 4 q4 S).bind fun S5 =>
(stZ 0 5 0 S5).bind fun S7 =>
some (.inr (1, S7)))
else (some (.inr (0, S)))
def f_X5_sure (a1 : Int32) (a2 : Int32) (a3 : Int32) (a4 : Int32) (S : QS) : Option ((String × QS) ⊕ QS) :=
bx (f_X5_speedOf a1 a2 S) fun c2 =>
bx (f_X5_testSpan a3 a4 (-50) 50 S) fun _ =>
(stF c2 0 a3 S).bind fun S6 =>
(stF c2 1 a4 S6).bind fun S8 =>
(stZ 0 5 0 S8).bind fun S10 =>
some (.inr S10)
def f_X5_tale (a1 : Int32) (a2 : Int32) (a3 : Int32) (a4 : Int32) (S : QS) : Option ((String × QS) ⊕ (Int32 × QS)) :=
bx (f_X5_testSpeed a1 a2 S) fun _ =>
bx (f_X5_testSpan a3 a4 (-50) 50 S) fun _ =>
if (S.1 0 3) < 10 then ((rdQ 15 10 (S.1 0 3)).bind fun c5 =>
(stF c5 0 a1 S).bind fun S7 =>
(stF c5 1 a2 S7).bind fun S9 =>
(stF c5 2 a3 S9).bind fun S11 =>
(stF c5 3 a4 S11).bind fun S13 =>
(stF 0 3 ((S13.1 0 3) + 1) S13).bind fun S15 =>
(stZ 0 5 0 S15).bind fun S17 =>
some (.inr (((S17.1 0 3) - 1), S17)))
else (some (.inl ("java/lang/UnsupportedOperationException", S)))
def f_X5_hush (S : QS) : Option (Int32 × QS) :=
(stF 0 3 0 S).bind fun S1 =>
(stZ 0 5 0 S1).bind fun S3 =>
some ((S.1 0 3), S3)
def f_X5_look (a1 : Int32) (a2 : Int32) (S : QS) : Option ((String × QS) ⊕ Int32) :=
bx (f_X5_skidOf a1 S) fun c2 =>
if a2 = 0 then (some (.inr (S.1 c2 0)))
else (if a2 = 1 then (if (S.1 c2 1) = 0 then (some (.inr 0))
else (some (.inr 1)))
else (if a2 = 2 then (some (.inr (S.1 c2 2)))
else (if a2 = 3 then (some (.inr (S.1 c2 3)))
else (if a2 = 4 then (if (S.1 c2 4) = 0 then (some (.inr 0))
else (some (.inr 1)))
else (some (.inl ("java/util/NoSuchElementException", S)))))))
def f_X5_count (a1 : Int32) (S : QS) : Option Int32 :=
if a1 = 0 then (some (S.1 0 2))
else (if a1 = 1 then ((f_X5_countingSkids S).bind fun v2 =>
some v2)
else (if a1 = 2 then (some (S.1 0 3))
else (if a1 = 3 then (some (S.1 26 0))
else (if a1 = 4 then (some (S.1 37 0))
else (some (-1))))))
def lp_X5_reckon_46 (a1 : Int32) : Nat → Int32 → QS → Option (QS)
  | 0, _, _ => none
  | fuel + 1, v5, S6 => (if (S6.1 0 3) ≤ v5 then (some S6)
else ((rdQ 15 10 v5).bind fun c8 =>
(f_X1_pick (S6.1 c8 0) S6).bind fun c11 =>
(f_X0_pick c11 (S6.1 c8 1) S6).bind fun c13 =>
((if (a1 &&& (1 <<< (v5 &&& 31))) = 0 then (some ((1024 : Int32) + (1 <<< (v5 &&& 31))))
else (some (-1))) : Option (Int32)).bind fun q14 =>
(f_X3_hear c13 c8 q14 S6).bind fun S16 =>
lp_X5_reckon_46 a1 fuel (v5 + 1) S16))
def lp_X5_reckon_121 (a2 : Int32) : Nat → Int32 → QS → Option (QS)
  | 0, _, _ => none
  | fuel + 1, v17, S18 => (if (S18.1 0 2) ≤ v17 then (some S18)
else ((rdQ 2 12 v17).bind fun c20 =>
if (S18.1 c20 4) = 0 then (lp_X5_reckon_121 a2 fuel (v17 + 1) S18)
else (if v17 = a2 then (lp_X5_reckon_121 a2 fuel (v17 + 1) S18)
else ((rdQ 2 12 v17).bind fun c22 =>
(f_X1_pick (S18.1 c22 0) S18).bind fun c25 =>
(rdQ 2 12 v17).bind fun c26 =>
(f_X0_add c25 c26 S18).bind fun S29 =>
lp_X5_reckon_121 a2 fuel (v17 + 1) S29))))
def ct_X5_reckon_24 (a1 : Int32) (a2 : Int32) (S : QS) : Option QS :=
(f_X0_clear 26 S).bind fun S2 =>
(f_X0_clear 37 S2).bind fun S4 =>
(lp_X5_reckon_46 a1 FU 0 S4).bind fun q7 =>
(lp_X5_reckon_121 a2 FU 0 q7).bind fun q19 =>
(f_X1_reckon q19).bind fun S31 =>
(stZ 0 5 1 S31).bind fun S32 =>
(stF 0 6 a1 S32).bind fun S34 =>
(stF 0 7 a2 S34).bind fun S36 =>
some S36
def f_X5_reckon (a1 : Int32) (a2 : Int32) (S : QS) : Option QS :=
if (S.1 0 5) = 0 then (ct_X5_reckon_24 a1 a2 S)
else (if a1 = (S.1 0 6) then (if a2 = (S.1 0 7) then (some S)
else (ct_X5_reckon_24 a1 a2 S))
else (ct_X5_reckon_24 a1 a2 S))
def f_X5_ways (S : QS) : Option (Int64 × QS) :=
(f_X5_reckon 0 (-1) S).bind fun S2 =>
some ((S2.2 25), S2)
def f_X5_span (a1 : Int32) (a2 : Int32) (a3 : Int32) (a4 : Int32) (S : QS) : Option ((String × QS) ⊕ (Int32 × QS)) :=
bx (f_X5_speedOf a1 a2 S) fun c2 =>
((if a4 = 0 then (some 0)
else ((f_X5_allTales S).bind fun v6 =>
some v6)) : Option (Int32)).bind fun q4 =>
(f_X5_reckon q4 (-1) S).bind fun S8 =>
bx (f_X5_testWay S8) fun _ =>
if a3 = 0 then ((f_X3_leastSeen c2 S8).bind fun v12 =>
some (.inr (v12, S8)))
else ((f_X3_greatestSeen c2 S8).bind fun v14 =>
some (.inr (v14, S8)))
def f_X5_fit (a1 : Int32) (S : QS) : Option (Int32 × QS) :=
(f_X5_allTales S).bind fun v2 =>
(f_X5_reckon (a1 &&& v2) (-1) S).bind fun S4 =>
if (lg_cmp (S4.2 25) 0) ≤ 0 then (some (0, S4))
else (some (1, S4))
def f_X5_wrong (S : QS) : Option (Int32 × QS) :=
(f_X5_reckon 0 (-1) S).bind fun S2 =>
if (S2.1 25 3) = (-1) then (some ((-1), S2))
else ((dvI (S2.1 25 3) 1024).bind fun v3 =>
some (v3, S2))
def f_X5_which (S : QS) : Option (Int32 × QS) :=
(f_X5_reckon 0 (-1) S).bind fun S2 =>
if (S2.1 25 3) = (-1) then (some ((-1), S2))
else ((rmI (S2.1 25 3) 1024).bind fun v3 =>
some (v3, S2))
def lp_X5_odds_24  : Nat → Int32 → Int32 → QS → Option (Int32 × QS)
  | 0, _, _, _ => none
  | fuel + 1, v3, v4, S5 => (if (S5.1 0 2) ≤ v4 then (some (v3, S5))
else ((rdQ 2 12 v4).bind fun c6 =>
if (S5.1 c6 4) = 0 then (lp_X5_odds_24 fuel v3 (v4 + 1) S5)
else ((f_X5_reckon 0 v4 S5).bind fun S9 =>
((if (lg_cmp (S9.2 25) 0) ≤ 0 then (some 0)
else (some (1 <<< (v4 &&& 31)))) : Option (Int32)).bind fun q10 =>
lp_X5_odds_24 fuel (v3 ||| q10) (v4 + 1) S9)))
def f_X5_odds (S : QS) : Option (Int32 × QS) :=
(f_X5_reckon 0 (-1) S).bind fun S2 =>
if (lg_cmp (S2.2 25) 0) ≤ 0 then (lp_X5_odds_24 FU 0 0 S2)
else (some (0, S2))
def lp_X5_avoided_46 (a2 : Int32) (a3 : Int32) (c2 : Nat) (S9 : QS) : Nat → Int32 → Int32 → Int32 → Option (Int32 × Int32)
  | 0, _, _, _ => none
  | fuel + 1, v12, v13, v14 => (if 50 < v14 then (some (v12, v13))
else ((f_X3_isSeen (c2 + 1) v14 S9).bind fun v17 =>
if v17 = 0 then (lp_X5_avoided_46 a2 a3 c2 S9 fuel v12 v13 (v14 + 1))
else (((if (a2 * a3) < ((51 * v14) * v14) then (some 0)
else (some 1)) : Option (Int32)).bind fun q18 =>
((if v12 = 0 then (some 0)
else (if q18 = 0 then (some 0)
else (some 1))) : Option (Int32)).bind fun q19 =>
((if v13 = 0 then (if q18 = 0 then (some 0)
else (some 1))
else (some 1)) : Option (Int32)).bind fun q20 =>
lp_X5_avoided_46 a2 a3 c2 S9 fuel q19 q20 (v14 + 1))))
def f_X5_avoided (a1 : Int32) (a2 : Int32) (a3 : Int32) (S : QS) : Option ((String × QS) ⊕ (Int32 × QS)) :=
bx (f_X5_carOf a1 S) fun c2 =>
bx (f_X5_testNumber a2 0 2000 S) fun _ =>
bx (f_X5_testNumber a3 0 150 S) fun _ =>
(f_X5_reckon 0 (-1) S).bind fun S9 =>
bx (f_X5_testWay S9) fun _ =>
(lp_X5_avoided_46 a2 a3 c2 S9 FU 1 0 (-50)).bind fun q15 =>
if q15.1 = 0 then (if q15.2 = 0 then (some (.inr (0, S9)))
else (some (.inr (1, S9))))
else (some (.inr (2, S9)))
def f_X5_can (a1 : Int32) (a2 : Int32) (a3 : Int32) (S : QS) : Option ((String × QS) ⊕ (Int32 × QS)) :=
bx (f_X5_speedOf a1 a2 S) fun c2 =>
(f_X5_reckon 0 (-1) S).bind fun S5 =>
(f_X3_isSeen c2 a3 S5).bind fun v7 =>
(zb v7).bind fun v8 =>
some (.inr (v8, S5))
def f_L_mass (a2 : Int32) (a3 : Int32) (S : QS) : Option (Int32 × QS) :=
bh (f_X5_mass a2 a3 S) (fun E S9 => if E = "java/lang/IndexOutOfBoundsException" then (some (1, S9))
else (if E = "java/lang/IllegalArgumentException" then (some (2, S9))
else (none))) fun S2 =>
some (0, S2)
def f_L_skid (a2 : Int32) (a3 : Int32) (a4 : Int32) (a5 : Int32) (a6 : Int32) (a7 : Int32) (S : QS) : Option (Int32 × QS) :=
bh (f_X5_skid a2 a3 a4 a5 a6 a7 S) (fun E S9 => if E = "java/lang/IndexOutOfBoundsException" then (some (1, S9))
else (if E = "java/lang/IllegalArgumentException" then (some (2, S9))
else (if E = "java/lang/UnsupportedOperationException" then (some (3, S9))
else (none)))) fun q2 =>
(stL 67 q2.1.toInt64 q2.2).bind fun S4 =>
some (0, S4)
def f_L_drop (a2 : Int32) (a3 : Int32) (S : QS) : Option (Int32 × QS) :=
bh (f_X5_drop a2 a3 S) (fun E S9 => if E = "java/lang/IndexOutOfBoundsException" then (some (1, S9))
else (none)) fun q2 =>
((if q2.1 = 0 then (some 0)
else (some 1)) : Option (Int64)).bind fun q4 =>
(stL 67 q4 q2.2).bind fun S5 =>
some (0, S5)
def f_L_sure (a2 : Int32) (a3 : Int32) (a4 : Int32) (a5 : Int32) (S : QS) : Option (Int32 × QS) :=
bh (f_X5_sure a2 a3 a4 a5 S) (fun E S9 => if E = "java/lang/IndexOutOfBoundsException" then (some (1, S9))
else (if E = "java/lang/IllegalArgumentException" then (some (2, S9))
else (none))) fun S2 =>
some (0, S2)
def f_L_tale (a2 : Int32) (a3 : Int32) (a4 : Int32) (a5 : Int32) (S : QS) : Option (Int32 × QS) :=
bh (f_X5_tale a2 a3 a4 a5 S) (fun E S9 => if E = "java/lang/IndexOutOfBoundsException" then (some (1, S9))
else (if E = "java/lang/IllegalArgumentException" then (some (2, S9))
else (if E = "java/lang/UnsupportedOperationException" then (some (3, S9))
else (none)))) fun q2 =>
(stL 67 q2.1.toInt64 q2.2).bind fun S4 =>
some (0, S4)
def f_L_span (a2 : Int32) (a3 : Int32) (a4 : Int32) (a5 : Int32) (S : QS) : Option (Int32 × QS) :=
bh (f_X5_span a2 a3 a4 a5 S) (fun E S9 => if E = "java/lang/IndexOutOfBoundsException" then (some (1, S9))
else (if E = "java/util/NoSuchElementException" then (some (2, S9))
else (none))) fun q2 =>
(stL 67 q2.1.toInt64 q2.2).bind fun S4 =>
some (0, S4)
def f_L_avoided (a2 : Int32) (a3 : Int32) (a4 : Int32) (S : QS) : Option (Int32 × QS) :=
bh (f_X5_avoided a2 a3 a4 S) (fun E S9 => if E = "java/lang/IndexOutOfBoundsException" then (some (1, S9))
else (if E = "java/lang/IllegalArgumentException" then (some (2, S9))
else (if E = "java/util/NoSuchElementException" then (some (3, S9))
else (none)))) fun q2 =>
(stL 67 q2.1.toInt64 q2.2).bind fun S4 =>
some (0, S4)
def f_L_look (a2 : Int32) (a3 : Int32) (S : QS) : Option (Int32 × QS) :=
bh (f_X5_look a2 a3 S) (fun E S9 => if E = "java/lang/IndexOutOfBoundsException" then (some (1, S9))
else (if E = "java/util/NoSuchElementException" then (some (2, S9))
else (none))) fun v2 =>
(stL 67 v2.toInt64 S).bind fun S4 =>
some (0, S4)
def f_L_can (a2 : Int32) (a3 : Int32) (a4 : Int32) (S : QS) : Option (Int32 × QS) :=
bh (f_X5_can a2 a3 a4 S) (fun E S9 => if E = "java/lang/IndexOutOfBoundsException" then (some (1, S9))
else (none)) fun q2 =>
((if q2.1 = 0 then (some 0)
else (some 1)) : Option (Int64)).bind fun q4 =>
(stL 67 q4 q2.2).bind fun S5 =>
some (0, S5)
def rdX (L : Nat) (xs : Nat → Int32) (i : Int32) : Option Int32 := if ¬ (i < 0 ∨ L ≤ i.toNatClampNeg) then some (xs i.toNatClampNeg) else none
theorem q_rdX {L : Nat} {xs : Nat → Int32} {i x : Int32} (h : rdX L xs i = some x) : vp_in i L ∧ x = xs i.toNatClampNeg := by
  unfold rdX at h
  by_cases c : ¬ (i < 0 ∨ L ≤ i.toNatClampNeg)
  · rw [if_pos c] at h
    exact ⟨c, (Option.some.inj h).symm⟩
  · rw [if_neg c] at h
    cases h

def st_law_0 (L : Nat) (xs : Nat → Int32) (vi : Int32) (S : QS) : Option QS :=
(rdX L xs (vi + 1)).bind fun v1 =>
(rdX L xs (vi + 2)).bind fun v3 =>
(f_L_mass v1 v3 S).bind fun q6 =>
(rdX L xs (vi + 1)).bind fun v7 =>
(rdX L xs (vi + 2)).bind fun v9 =>
(f_X6_mass v7 v9 q6.2).bind fun S12 =>
(f_X6_thrown S12).bind fun v14 =>
if v14 = q6.1 then (some S12)
else (none)
def st_law_1 (L : Nat) (xs : Nat → Int32) (vi : Int32) (S : QS) : Option QS :=
(rdX L xs (vi + 1)).bind fun v1 =>
(rdX L xs (vi + 2)).bind fun v3 =>
((if v3 = 0 then (some 0)
else (some 1)) : Option (Int32)).bind fun q5 =>
(rdX L xs (vi + 3)).bind fun v6 =>
(rdX L xs (vi + 4)).bind fun v8 =>
(rdX L xs (vi + 5)).bind fun v10 =>
(rdX L xs (vi + 6)).bind fun v12 =>
(f_L_skid v1 q5 v6 v8 v10 v12 S).bind fun q15 =>
(rdX L xs (vi + 1)).bind fun v16 =>
(rdX L xs (vi + 2)).bind fun v18 =>
((if v18 = 0 then (some 0)
else (some 1)) : Option (Int32)).bind fun q20 =>
(rdX L xs (vi + 3)).bind fun v21 =>
(rdX L xs (vi + 4)).bind fun v23 =>
(rdX L xs (vi + 5)).bind fun v25 =>
(rdX L xs (vi + 6)).bind fun v27 =>
(f_X6_skid v16 q20 v21 v23 v25 v27 q15.2).bind fun q30 =>
(f_X6_thrown q30.2).bind fun v32 =>
if v32 = q15.1 then (if q15.1 = 0 then (if (lg_cmp (q30.2.2 67) q30.1.toInt64) = 0 then (some q30.2)
else (none))
else (some q30.2))
else (none)
def st_law_2 (L : Nat) (xs : Nat → Int32) (vi : Int32) (S : QS) : Option QS :=
(rdX L xs (vi + 1)).bind fun v1 =>
(rdX L xs (vi + 2)).bind fun v3 =>
((if v3 = 0 then (some 0)
else (some 1)) : Option (Int32)).bind fun q5 =>
(f_L_drop v1 q5 S).bind fun q7 =>
(rdX L xs (vi + 1)).bind fun v8 =>
(rdX L xs (vi + 2)).bind fun v10 =>
((if v10 = 0 then (some 0)
else (some 1)) : Option (Int32)).bind fun q12 =>
(f_X6_drop v8 q12 q7.2).bind fun q14 =>
(f_X6_thrown q14.2).bind fun v16 =>
if v16 = q7.1 then (if q7.1 = 0 then (((if q14.1 = 0 then (some 0)
else (some 1)) : Option (Int64)).bind fun q17 =>
if (lg_cmp (q14.2.2 67) q17) = 0 then (some q14.2)
else (none))
else (some q14.2))
else (none)
def st_law_3 (L : Nat) (xs : Nat → Int32) (vi : Int32) (S : QS) : Option QS :=
(rdX L xs (vi + 1)).bind fun v1 =>
(rdX L xs (vi + 2)).bind fun v3 =>
(rdX L xs (vi + 3)).bind fun v5 =>
(rdX L xs (vi + 4)).bind fun v7 =>
(f_L_sure v1 v3 v5 v7 S).bind fun q10 =>
(rdX L xs (vi + 1)).bind fun v11 =>
(rdX L xs (vi + 2)).bind fun v13 =>
(rdX L xs (vi + 3)).bind fun v15 =>
(rdX L xs (vi + 4)).bind fun v17 =>
(f_X6_sure v11 v13 v15 v17 q10.2).bind fun S20 =>
(f_X6_thrown S20).bind fun v22 =>
if v22 = q10.1 then (some S20)
else (none)
def st_law_4 (L : Nat) (xs : Nat → Int32) (vi : Int32) (S : QS) : Option QS :=
(rdX L xs (vi + 1)).bind fun v1 =>
(rdX L xs (vi + 2)).bind fun v3 =>
(rdX L xs (vi + 3)).bind fun v5 =>
(rdX L xs (vi + 4)).bind fun v7 =>
(f_L_tale v1 v3 v5 v7 S).bind fun q10 =>
(rdX L xs (vi + 1)).bind fun v11 =>
(rdX L xs (vi + 2)).bind fun v13 =>
(rdX L xs (vi + 3)).bind fun v15 =>
(rdX L xs (vi + 4)).bind fun v17 =>
(f_X6_tale v11 v13 v15 v17 q10.2).bind fun q20 =>
(f_X6_thrown q20.2).bind fun v22 =>
if v22 = q10.1 then (if q10.1 = 0 then (if (lg_cmp (q20.2.2 67) q20.1.toInt64) = 0 then (some q20.2)
else (none))
else (some q20.2))
else (none)
def st_law_5 (L : Nat) (xs : Nat → Int32) (vi : Int32) (S : QS) : Option QS :=
(f_X5_hush S).bind fun q2 =>
(f_X6_hush q2.2).bind fun q4 =>
if q2.1 = q4.1 then (some q4.2)
else (none)
def st_law_6 (L : Nat) (xs : Nat → Int32) (vi : Int32) (S : QS) : Option QS :=
(f_X5_ways S).bind fun q2 =>
(f_X6_ways q2.2).bind fun q4 =>
if (lg_cmp q2.1 q4.1) = 0 then (some q4.2)
else (none)
def st_law_7 (L : Nat) (xs : Nat → Int32) (vi : Int32) (S : QS) : Option QS :=
(rdX L xs (vi + 1)).bind fun v1 =>
(rdX L xs (vi + 2)).bind fun v3 =>
(rdX L xs (vi + 3)).bind fun v5 =>
((if v5 = 0 then (some 0)
else (some 1)) : Option (Int32)).bind fun q7 =>
(rdX L xs (vi + 4)).bind fun v8 =>
((if v8 = 0 then (some 0)
else (some 1)) : Option (Int32)).bind fun q10 =>
(f_L_span v1 v3 q7 q10 S).bind fun q12 =>
(rdX L xs (vi + 1)).bind fun v13 =>
(rdX L xs (vi + 2)).bind fun v15 =>
(rdX L xs (vi + 3)).bind fun v17 =>
((if v17 = 0 then (some 0)
else (some 1)) : Option (Int32)).bind fun q19 =>
(rdX L xs (vi + 4)).bind fun v20 =>
((if v20 = 0 then (some 0)
else (some 1)) : Option (Int32)).bind fun q22 =>
(f_X6_span v13 v15 q19 q22 q12.2).bind fun q24 =>
(f_X6_thrown q24.2).bind fun v26 =>
if v26 = q12.1 then (if q12.1 = 0 then (if (lg_cmp (q24.2.2 67) q24.1.toInt64) = 0 then (some q24.2)
else (none))
else (some q24.2))
else (none)
def st_law_8 (L : Nat) (xs : Nat → Int32) (vi : Int32) (S : QS) : Option QS :=
(rdX L xs (vi + 1)).bind fun v1 =>
(f_X5_fit v1 S).bind fun q4 =>
(rdX L xs (vi + 1)).bind fun v5 =>
(f_X6_fit v5 q4.2).bind fun q8 =>
if q4.1 = q8.1 then (some q8.2)
else (none)
def st_law_9 (L : Nat) (xs : Nat → Int32) (vi : Int32) (S : QS) : Option QS :=
(f_X5_wrong S).bind fun q2 =>
(f_X6_wrong q2.2).bind fun q4 =>
if q2.1 = q4.1 then (some q4.2)
else (none)
def st_law_10 (L : Nat) (xs : Nat → Int32) (vi : Int32) (S : QS) : Option QS :=
(f_X5_which S).bind fun q2 =>
(f_X6_which q2.2).bind fun q4 =>
if q2.1 = q4.1 then (some q4.2)
else (none)
def st_law_11 (L : Nat) (xs : Nat → Int32) (vi : Int32) (S : QS) : Option QS :=
(f_X5_odds S).bind fun q2 =>
(f_X6_odds q2.2).bind fun q4 =>
if q2.1 = q4.1 then (some q4.2)
else (none)
def st_law_12 (L : Nat) (xs : Nat → Int32) (vi : Int32) (S : QS) : Option QS :=
(rdX L xs (vi + 1)).bind fun v1 =>
(rdX L xs (vi + 2)).bind fun v3 =>
(rdX L xs (vi + 3)).bind fun v5 =>
(f_L_avoided v1 v3 v5 S).bind fun q8 =>
(rdX L xs (vi + 1)).bind fun v9 =>
(rdX L xs (vi + 2)).bind fun v11 =>
(rdX L xs (vi + 3)).bind fun v13 =>
(f_X6_avoided v9 v11 v13 q8.2).bind fun q16 =>
(f_X6_thrown q16.2).bind fun v18 =>
if v18 = q8.1 then (if q8.1 = 0 then (if (lg_cmp (q16.2.2 67) q16.1.toInt64) = 0 then (some q16.2)
else (none))
else (some q16.2))
else (none)
def st_law_13 (L : Nat) (xs : Nat → Int32) (vi : Int32) (S : QS) : Option QS :=
(rdX L xs (vi + 1)).bind fun v1 =>
(rdX L xs (vi + 2)).bind fun v3 =>
(f_L_look v1 v3 S).bind fun q6 =>
(rdX L xs (vi + 1)).bind fun v7 =>
(rdX L xs (vi + 2)).bind fun v9 =>
(f_X6_look v7 v9 q6.2).bind fun q12 =>
(f_X6_thrown q12.2).bind fun v14 =>
if v14 = q6.1 then (if q6.1 = 0 then (if (lg_cmp (q12.2.2 67) q12.1.toInt64) = 0 then (some q12.2)
else (none))
else (some q12.2))
else (none)
def st_law_14 (L : Nat) (xs : Nat → Int32) (vi : Int32) (S : QS) : Option QS :=
(rdX L xs (vi + 1)).bind fun v1 =>
(rdX L xs (vi + 2)).bind fun v3 =>
(rdX L xs (vi + 3)).bind fun v5 =>
(f_L_can v1 v3 v5 S).bind fun q8 =>
(rdX L xs (vi + 1)).bind fun v9 =>
(rdX L xs (vi + 2)).bind fun v11 =>
(rdX L xs (vi + 3)).bind fun v13 =>
(f_X6_can v9 v11 v13 q8.2).bind fun q16 =>
(f_X6_thrown q16.2).bind fun v18 =>
if v18 = q8.1 then (if q8.1 = 0 then (((if q16.1 = 0 then (some 0)
else (some 1)) : Option (Int64)).bind fun q19 =>
if (lg_cmp (q16.2.2 67) q19) = 0 then (some q16.2)
else (none))
else (some q16.2))
else (none)
def st_law_15 (L : Nat) (xs : Nat → Int32) (vi : Int32) (S : QS) : Option QS :=
(rdX L xs (vi + 1)).bind fun v1 =>
(f_X5_count v1 S).bind fun v4 =>
(rdX L xs (vi + 1)).bind fun v5 =>
(f_X6_count v5 S).bind fun q8 =>
if v4 = q8.1 then (some q8.2)
else (none)
def st_law (L : Nat) (xs : Nat → Int32) (x vi : Int32) (S : QS) : Option QS :=
if x = 0 then st_law_0 L xs vi S else if x = 1 then st_law_1 L xs vi S else if x = 2 then st_law_2 L xs vi S else if x = 3 then st_law_3 L xs vi S else if x = 4 then st_law_4 L xs vi S else if x = 5 then st_law_5 L xs vi S else if x = 6 then st_law_6 L xs vi S else if x = 7 then st_law_7 L xs vi S else if x = 8 then st_law_8 L xs vi S else if x = 9 then st_law_9 L xs vi S else if x = 10 then st_law_10 L xs vi S else if x = 11 then st_law_11 L xs vi S else if x = 12 then st_law_12 L xs vi S else if x = 13 then st_law_13 L xs vi S else if x = 14 then st_law_14 L xs vi S else if x = 15 then st_law_15 L xs vi S else some S

def lp_law (L : Nat) (xs : Nat → Int32) : Nat → Int32 → QS → Option Unit
  | 0, _, _ => none
  | fuel + 1, vi, S => if Int32.ofNat L - 7 < vi then some () else (rdX L xs vi).bind fun v => (st_law L xs (v &&& 15) vi S).bind fun S1 => lp_law L xs fuel (vi + 7) S1
def S0 : QS := (fun k => if k = 0 then (upd (fun _ => 0) 7 (-1)) else if k = 25 then (upd (upd (upd (fun _ => 0) 3 (-1)) 4 1) 5 1) else if k = 26 then (upd (fun _ => 0) 0 10) else if k = 27 then (upd (upd (upd (upd (fun _ => 0) 0 (-50)) 1 50) 2 (-50)) 3 50) else if k = 30 then (upd (upd (upd (upd (fun _ => 0) 0 (-50)) 1 50) 2 (-50)) 3 50) else if k = 33 then (upd (upd (upd (upd (fun _ => 0) 0 (-50)) 1 50) 2 (-50)) 3 50) else if k = 37 then (upd (fun _ => 0) 0 10) else if k = 38 then (upd (upd (upd (upd (fun _ => 0) 0 (-50)) 1 50) 2 (-50)) 3 50) else if k = 41 then (upd (upd (upd (upd (fun _ => 0) 0 (-50)) 1 50) 2 (-50)) 3 50) else if k = 44 then (upd (upd (upd (upd (fun _ => 0) 0 (-50)) 1 50) 2 (-50)) 3 50) else if k = 49 then (upd (upd (fun _ => 0) 0 10) 1 10) else if k = 55 then (upd (upd (upd (upd (upd (upd (fun _ => 0) 0 (-50)) 1 (-50)) 2 (-50)) 3 (-50)) 4 (-50)) 5 (-50)) else if k = 56 then (upd (upd (upd (upd (upd (upd (fun _ => 0) 0 50) 1 50) 2 50) 3 50) 4 50) 5 50) else fun _ => 0, fun _ => 0)
end
section
/-! ===== order of ints, in all its forms, and through longs ===== -/
theorem fa_lt (a b : Int32) : a < b ↔ a.toInt < b.toInt := Int32.lt_iff_toInt_lt
theorem fa_le (a b : Int32) : a ≤ b ↔ a.toInt ≤ b.toInt := Int32.le_iff_toInt_le
theorem fa_eq (a b : Int32) : a = b ↔ a.toInt = b.toInt := Int32.toInt_inj.symm
theorem fa_lt64 (a b : Int64) : a < b ↔ a.toInt < b.toInt := Int64.lt_iff_toInt_lt
theorem fa_le64 (a b : Int64) : a ≤ b ↔ a.toInt ≤ b.toInt := Int64.le_iff_toInt_le
theorem fa_eq64 (a b : Int64) : a = b ↔ a.toInt = b.toInt := Int64.toInt_inj.symm
/-- a comparison of two ints taken as longs -/
theorem fa_wide_lt (a b : Int32) : a.toInt64 < b.toInt64 ↔ a < b := by rw [fa_lt64, fa_lt, Int32.toInt_toInt64, Int32.toInt_toInt64]
theorem fa_wide_le (a b : Int32) : a.toInt64 ≤ b.toInt64 ↔ a ≤ b := by rw [fa_le64, fa_le, Int32.toInt_toInt64, Int32.toInt_toInt64]
theorem fa_wide_eq (a b : Int32) : a.toInt64 = b.toInt64 ↔ a = b := by rw [fa_eq64, fa_eq, Int32.toInt_toInt64, Int32.toInt_toInt64]
/-- one strict comparison gives all the others -/
theorem fa_of_lt {a b : Int32} (h : a < b) : a ≤ b ∧ ¬ b ≤ a ∧ ¬ b < a ∧ a ≠ b ∧ b ≠ a := by
  rw [fa_lt] at h
  refine ⟨?_, ?_, ?_, ?_, ?_⟩
  · rw [fa_le]; omega
  · rw [fa_le]; omega
  · rw [fa_lt]; omega
  · intro e; rw [fa_eq] at e; omega
  · intro e; rw [fa_eq] at e; omega
theorem fa_of_nlt {a b : Int32} (h : ¬ a < b) : b ≤ a := by
  rw [fa_lt] at h
  rw [fa_le]
  omega
theorem fa_of_nle {a b : Int32} (h : ¬ a ≤ b) : b < a := by
  rw [fa_le] at h
  rw [fa_lt]
  omega
theorem fa_le_ne {a b : Int32} (h : a ≤ b) (h2 : a ≠ b) : a < b := by
  rw [fa_le] at h
  rw [fa_lt]
  have h3 : a.toInt ≠ b.toInt := fun e => h2 ((fa_eq a b).mpr e)
  omega
theorem fa_three (a b : Int32) : a < b ∨ a = b ∨ b < a := by
  rw [fa_lt, fa_lt, fa_eq]
  omega
theorem fa_trans {a b c : Int32} (h : a < b) (h2 : b ≤ c) : a < c := by
  rw [fa_lt] at *
  rw [fa_le] at h2
  omega
/-! ===== small literals as numbers ===== -/
theorem fa_lit (n : Nat) : (OfNat.ofNat n : Int32) = nI n := rfl
theorem fa_litL (n : Nat) : (OfNat.ofNat n : Int64) = lN n := rfl
/-! ===== bits of a number: 'or', masks, one bit ===== -/
theorem fa_and (a b : Nat) : nI a &&& nI b = nI (a &&& b) := by
  apply Int32.toBitVec_inj.1
  show BitVec.ofNat 32 a &&& BitVec.ofNat 32 b = BitVec.ofNat 32 (a &&& b)
  apply BitVec.eq_of_getLsbD_eq
  intro i hi
  simp [hi]
theorem fa_or (a b : Nat) : nI a ||| nI b = nI (a ||| b) := by
  apply Int32.toBitVec_inj.1
  show BitVec.ofNat 32 a ||| BitVec.ofNat 32 b = BitVec.ofNat 32 (a ||| b)
  apply BitVec.eq_of_getLsbD_eq
  intro i hi
  simp [hi]
/-- a remainder by a power of two, as a mask -/
theorem fa_mask (n k : Nat) : nI n &&& nI (2 ^ k - 1) = nI (n % 2 ^ k) := by rw [fa_and, Nat.and_two_pow_sub_one_eq_mod]
/-- 'or' of a high part and a low one that don't meet is their sum -/
theorem fa_or_sum {a k : Nat} (b : Nat) (h : a < 2 ^ k) : nI (2 ^ k * b) ||| nI a = nI (2 ^ k * b + a) := by rw [fa_or, Nat.two_pow_add_eq_or_of_lt h]
/-- one bit, by 'and' with a power of two -/
theorem fa_bit {n j : Nat} (hj : j < 31) : nI n &&& nI (2 ^ j) = 0 ↔ n.testBit j = false := by
  have h2 : (2 : Nat) ^ j < 2 ^ 31 := Nat.pow_lt_pow_right (by decide) hj
  have hle : n &&& 2 ^ j ≤ 2 ^ j := Nat.and_le_right
  have e : n &&& 2 ^ j = 0 ↔ n.testBit j = false := by
    constructor
    · intro h
      have h1 : (n &&& 2 ^ j).testBit j = false := by rw [h]; simp
      rw [Nat.testBit_and] at h1
      first | simpa using h1 | simpa [Nat.testBit_two_pow_self] using h1 | simpa [Nat.testBit_two_pow] using h1
    · intro h
      apply Nat.eq_of_testBit_eq
      intro i
      rw [Nat.testBit_and]
      by_cases hi : j = i
      · subst hi; simp [h]
      · first | (simp [Nat.testBit_two_pow, hi]; done) | (simp [Nat.testBit_two_pow_of_ne hi]; done)
  rw [fa_and]
  constructor
  · intro h
    apply e.mp
    rcases Nat.eq_zero_or_pos (n &&& 2 ^ j) with z | z
    · exact z
    · exact absurd h (nI_ne0 z (Nat.lt_of_le_of_lt hle h2))
  · intro h
    rw [e.mpr h]; exact nI_0
/-- a remainder by a power of two of a number that isn't negative, as Java divides -/
theorem fa_rem {a k : Nat} (ha : a < 2 ^ 31) (hk : k < 31) : nI a - nI a / nI (2 ^ k) * nI (2 ^ k) = nI (a % 2 ^ k) := pk_rem ha (Nat.two_pow_pos k) (Nat.pow_lt_pow_right (by decide) hk)
/-! ===== how many places have a property ===== -/
def fb_ct (p : Nat → Bool) : Nat → Nat
  | 0 => 0
  | n + 1 => fb_ct p n + (if p n then 1 else 0)
theorem fb_ct_succ (p : Nat → Bool) (n : Nat) : fb_ct p (n + 1) = fb_ct p n + (if p n then 1 else 0) := rfl
theorem fb_ct_le (p : Nat → Bool) : ∀ n, fb_ct p n ≤ n
  | 0 => Nat.le_refl _
  | n + 1 => by
    have h := fb_ct_le p n
    rw [fb_ct_succ]
    split <;> omega
theorem fb_ct_step (p : Nat → Bool) (m : Nat) : ∀ n, fb_ct p m ≤ fb_ct p (m + n)
  | 0 => Nat.le_refl _
  | n + 1 => by
    have h := fb_ct_step p m n
    show fb_ct p m ≤ fb_ct p (m + n + 1)
    rw [fb_ct_succ]
    omega
theorem fb_ct_mono (p : Nat → Bool) {m n : Nat} (h : m ≤ n) : fb_ct p m ≤ fb_ct p n := by
  have := fb_ct_step p m (n - m)
  rwa [Nat.add_sub_cancel' h] at this
theorem fb_ct_cong {p q : Nat → Bool} : ∀ {n : Nat}, (∀ k, k < n → p k = q k) → fb_ct p n = fb_ct q n
  | 0, _ => rfl
  | n + 1, h => by
    rw [fb_ct_succ, fb_ct_succ, fb_ct_cong (fun k hk => h k (by omega)), h n (by omega)]
/-- one place changed -/
theorem fb_ct_out (p : Nat → Bool) (b : Bool) {i n : Nat} (h : n ≤ i) : fb_ct (fun k => if k = i then b else p k) n = fb_ct p n :=
  fb_ct_cong fun k hk => if_neg (by omega)
theorem fb_ct_upd (p : Nat → Bool) (b : Bool) {i : Nat} : ∀ {n : Nat}, i < n → fb_ct (fun k => if k = i then b else p k) n + (if p i then 1 else 0) = fb_ct p n + (if b then 1 else 0)
  | 0, h => absurd h (Nat.not_lt_zero i)
  | n + 1, h => by
    rw [fb_ct_succ, fb_ct_succ]
    rcases Nat.lt_or_ge i n with q | q
    · have := fb_ct_upd p b q
      have e : (if n = i then b else p n) = p n := if_neg (by omega)
      rw [e]
      omega
    · have e : i = n := by omega
      subst e
      rw [fb_ct_out p b (Nat.le_refl _)]
      simp only [if_true]
      omega
theorem fb_ct_sub {p q : Nat → Bool} : ∀ {n : Nat}, (∀ k, k < n → p k = true → q k = true) → fb_ct p n ≤ fb_ct q n
  | 0, _ => Nat.le_refl _
  | n + 1, h => by
    have h1 := fb_ct_sub (n := n) (p := p) (q := q) (fun k hk => h k (by omega))
    have h2 := h n (by omega)
    rw [fb_ct_succ, fb_ct_succ]
    cases hp : p n <;> cases hq : q n <;> simp_all <;> omega
theorem fb_ct_or {p q : Nat → Bool} : ∀ {n : Nat}, (∀ k, k < n → ¬ (p k = true ∧ q k = true)) → fb_ct (fun k => p k || q k) n = fb_ct p n + fb_ct q n
  | 0, _ => rfl
  | n + 1, h => by
    have h1 := fb_ct_or (n := n) (p := p) (q := q) (fun k hk => h k (by omega))
    have h2 := h n (by omega)
    rw [fb_ct_succ, fb_ct_succ, fb_ct_succ, h1]
    cases hp : p n <;> cases hq : q n <;> simp_all <;> omega
theorem fb_ct_not (p : Nat → Bool) : ∀ n, fb_ct p n + fb_ct (fun k => !p k) n = n
  | 0 => rfl
  | n + 1 => by
    have h := fb_ct_not p n
    rw [fb_ct_succ, fb_ct_succ]
    cases p n <;> simp <;> omega
theorem fb_ct_split (p : Nat → Bool) (m : Nat) : ∀ n, fb_ct p (m + n) = fb_ct p m + fb_ct (fun k => p (m + k)) n
  | 0 => rfl
  | n + 1 => by
    have h := fb_ct_split p m n
    show fb_ct p (m + n + 1) = _
    rw [fb_ct_succ, fb_ct_succ, h, Nat.add_assoc]
theorem fb_ct_zero {p : Nat → Bool} : ∀ {n : Nat}, fb_ct p n = 0 ↔ ∀ k, k < n → p k = false
  | 0 => ⟨fun _ k hk => absurd hk (Nat.not_lt_zero k), fun _ => rfl⟩
  | n + 1 => by
    have h := fb_ct_zero (p := p) (n := n)
    rw [fb_ct_succ]
    constructor
    · intro e k hk
      have e1 : fb_ct p n = 0 := by omega
      rcases Nat.lt_or_ge k n with q | q
      · exact h.mp e1 k q
      · have ek : k = n := by omega
        subst ek
        cases hp : p k
        · rfl
        · simp [hp] at e
    · intro a
      rw [h.mpr (fun k hk => a k (by omega)), a n (by omega)]
      rfl
theorem fb_ct_pos {p : Nat → Bool} {n : Nat} : 0 < fb_ct p n ↔ ∃ k, k < n ∧ p k = true := by
  constructor
  · intro h
    refine Classical.byContradiction fun hx => ?_
    have := fb_ct_zero.mpr (fun k hk => by
      cases hp : p k
      · rfl
      · exact absurd ⟨k, hk, hp⟩ hx : ∀ k, k < n → p k = false)
    omega
  · rintro ⟨k, hk, hp⟩
    rcases Nat.eq_zero_or_pos (fb_ct p n) with e | e
    · have := fb_ct_zero.mp e k hk
      rw [this] at hp
      cases hp
    · exact e
theorem fb_ct_all {p : Nat → Bool} {n : Nat} : fb_ct p n = n ↔ ∀ k, k < n → p k = true := by
  have h := fb_ct_not p n
  constructor
  · intro e k hk
    have z : fb_ct (fun k => !p k) n = 0 := by omega
    have := fb_ct_zero.mp z k hk
    cases hp : p k
    · simp [hp] at this
    · rfl
  · intro a
    have z : fb_ct (fun k => !p k) n = 0 := fb_ct_zero.mpr (fun k hk => by simp [a k hk])
    omega
/-- the k-th place with the property -/
theorem fb_ct_kth {p : Nat → Bool} {k : Nat} : ∀ {n : Nat}, k < fb_ct p n → ∃ i, i < n ∧ p i = true ∧ fb_ct p i = k
  | 0, h => absurd h (Nat.not_lt_zero k)
  | n + 1, h => by
    rcases Nat.lt_or_ge k (fb_ct p n) with q | q
    · obtain ⟨i, h1, h2⟩ := fb_ct_kth q
      exact ⟨i, by omega, h2⟩
    · rw [fb_ct_succ] at h
      cases hp : p n
      · simp [hp] at h; omega
      · simp [hp] at h
        exact ⟨n, by omega, hp, by omega⟩
theorem fb_ct_kth_one {p : Nat → Bool} {i j : Nat} (hi : p i = true) (hj : p j = true) (e : fb_ct p i = fb_ct p j) : i = j := by
  have key : ∀ a b : Nat, a < b → p a = true → fb_ct p a < fb_ct p b := by
    intro a b hab ha
    have h := fb_ct_mono p (show a + 1 ≤ b from hab)
    rw [fb_ct_succ, ha] at h
    simp at h
    omega
  rcases Nat.lt_trichotomy i j with q | q | q
  · have := key i j q hi; omega
  · exact q
  · have := key j i q hj; omega
/-! ===== sums over a range: one place changed, parts, bounds ===== -/
def fb_sm (f : Nat → Nat) : Nat → Nat
  | 0 => 0
  | n + 1 => fb_sm f n + f n
theorem fb_sm_succ (f : Nat → Nat) (n : Nat) : fb_sm f (n + 1) = fb_sm f n + f n := rfl
theorem fb_sm_cong {f g : Nat → Nat} : ∀ {n : Nat}, (∀ k, k < n → f k = g k) → fb_sm f n = fb_sm g n
  | 0, _ => rfl
  | n + 1, h => by rw [fb_sm_succ, fb_sm_succ, fb_sm_cong (fun k hk => h k (by omega)), h n (by omega)]
theorem fb_sm_out (f : Nat → Nat) (v : Nat) {i n : Nat} (h : n ≤ i) : fb_sm (fun k => if k = i then v else f k) n = fb_sm f n :=
  fb_sm_cong fun k hk => if_neg (by omega)
theorem fb_sm_upd (f : Nat → Nat) (v : Nat) {i : Nat} : ∀ {n : Nat}, i < n → fb_sm (fun k => if k = i then v else f k) n + f i = fb_sm f n + v
  | 0, h => absurd h (Nat.not_lt_zero i)
  | n + 1, h => by
    rw [fb_sm_succ, fb_sm_succ]
    rcases Nat.lt_or_ge i n with q | q
    · have := fb_sm_upd f v q
      have e : (if n = i then v else f n) = f n := if_neg (by omega)
      rw [e]
      omega
    · have e : i = n := by omega
      subst e
      rw [fb_sm_out f v (Nat.le_refl _)]
      simp only [if_true]
      omega
theorem fb_sm_add (f g : Nat → Nat) : ∀ n, fb_sm (fun k => f k + g k) n = fb_sm f n + fb_sm g n
  | 0 => rfl
  | n + 1 => by
    have h := fb_sm_add f g n
    rw [fb_sm_succ, fb_sm_succ, fb_sm_succ, h]
    omega
theorem fb_sm_le {f g : Nat → Nat} : ∀ {n : Nat}, (∀ k, k < n → f k ≤ g k) → fb_sm f n ≤ fb_sm g n
  | 0, _ => Nat.le_refl _
  | n + 1, h => by
    have h1 := fb_sm_le (n := n) (f := f) (g := g) (fun k hk => h k (by omega))
    have h2 := h n (by omega)
    rw [fb_sm_succ, fb_sm_succ]
    omega
theorem fb_sm_const (c : Nat) : ∀ n, fb_sm (fun _ => c) n = n * c
  | 0 => by rw [Nat.zero_mul]; rfl
  | n + 1 => by rw [fb_sm_succ, fb_sm_const c n, Nat.succ_mul]
theorem fb_sm_bound {f : Nat → Nat} {c n : Nat} (h : ∀ k, k < n → f k ≤ c) : fb_sm f n ≤ n * c := by
  rw [← fb_sm_const c n]
  exact fb_sm_le h
theorem fb_sm_mono (f : Nat → Nat) (m : Nat) : ∀ n, fb_sm f m ≤ fb_sm f (m + n)
  | 0 => Nat.le_refl _
  | n + 1 => by
    have h := fb_sm_mono f m n
    show fb_sm f m ≤ fb_sm f (m + n + 1)
    rw [fb_sm_succ]
    omega
theorem fb_sm_part (f : Nat → Nat) {i n : Nat} (h : i < n) : fb_sm f i + f i ≤ fb_sm f n := by
  have := fb_sm_mono f (i + 1) (n - (i + 1))
  rw [fb_sm_succ, show i + 1 + (n - (i + 1)) = n by omega] at this
  exact this
theorem fb_sm_split (f : Nat → Nat) (m : Nat) : ∀ n, fb_sm f (m + n) = fb_sm f m + fb_sm (fun k => f (m + k)) n
  | 0 => rfl
  | n + 1 => by
    have h := fb_sm_split f m n
    show fb_sm f (m + n + 1) = _
    rw [fb_sm_succ, fb_sm_succ, h, Nat.add_assoc]
theorem fb_sm_zero {f : Nat → Nat} {n : Nat} (h : fb_sm f n = 0) : ∀ k, k < n → f k = 0 := fun k hk => by
  have := fb_sm_part f hk
  omega
/-- the same over whole numbers -/
def fb_si (f : Nat → Int) : Nat → Int
  | 0 => 0
  | n + 1 => fb_si f n + f n
theorem fb_si_succ (f : Nat → Int) (n : Nat) : fb_si f (n + 1) = fb_si f n + f n := rfl
theorem fb_si_cong {f g : Nat → Int} : ∀ {n : Nat}, (∀ k, k < n → f k = g k) → fb_si f n = fb_si g n
  | 0, _ => rfl
  | n + 1, h => by rw [fb_si_succ, fb_si_succ, fb_si_cong (fun k hk => h k (by omega)), h n (by omega)]
theorem fb_si_out (f : Nat → Int) (v : Int) {i n : Nat} (h : n ≤ i) : fb_si (fun k => if k = i then v else f k) n = fb_si f n :=
  fb_si_cong fun k hk => if_neg (by omega)
theorem fb_si_upd (f : Nat → Int) (v : Int) {i : Nat} : ∀ {n : Nat}, i < n → fb_si (fun k => if k = i then v else f k) n = fb_si f n - f i + v
  | 0, h => absurd h (Nat.not_lt_zero i)
  | n + 1, h => by
    rw [fb_si_succ, fb_si_succ]
    rcases Nat.lt_or_ge i n with q | q
    · have := fb_si_upd f v q
      have e : (if n = i then v else f n) = f n := if_neg (by omega)
      rw [e]
      omega
    · have e : i = n := by omega
      subst e
      rw [fb_si_out f v (Nat.le_refl _)]
      simp only [if_true]
      omega
theorem fb_si_add (f g : Nat → Int) : ∀ n, fb_si (fun k => f k + g k) n = fb_si f n + fb_si g n
  | 0 => rfl
  | n + 1 => by
    have h := fb_si_add f g n
    rw [fb_si_succ, fb_si_succ, fb_si_succ, h]
    omega
theorem fb_si_sub (f g : Nat → Int) : ∀ n, fb_si (fun k => f k - g k) n = fb_si f n - fb_si g n
  | 0 => rfl
  | n + 1 => by
    have h := fb_si_sub f g n
    rw [fb_si_succ, fb_si_succ, fb_si_succ, h]
    omega
theorem fb_si_mul (c : Int) (f : Nat → Int) : ∀ n, fb_si (fun k => c * f k) n = c * fb_si f n
  | 0 => (Int.mul_zero c).symm
  | n + 1 => by
    have h := fb_si_mul c f n
    rw [fb_si_succ, fb_si_succ, h, Int.mul_add]
theorem fb_si_split (f : Nat → Int) (m : Nat) : ∀ n, fb_si f (m + n) = fb_si f m + fb_si (fun k => f (m + k)) n
  | 0 => (Int.add_zero _).symm
  | n + 1 => by
    have h := fb_si_split f m n
    show fb_si f (m + n + 1) = _
    rw [fb_si_succ, fb_si_succ, h, Int.add_assoc]
theorem fb_si_nat (f : Nat → Nat) : ∀ n, fb_si (fun k => (f k : Int)) n = (fb_sm f n : Int)
  | 0 => rfl
  | n + 1 => by
    have h := fb_si_nat f n
    rw [fb_si_succ, fb_sm_succ, h]
    omega
theorem fb_si_bound {f : Nat → Int} {c : Int} (hc : 0 ≤ c) : ∀ {n : Nat}, (∀ k, k < n → -c ≤ f k ∧ f k ≤ c) → -(n * c) ≤ fb_si f n ∧ fb_si f n ≤ n * c
  | 0, _ => by simp [fb_si]
  | n + 1, h => by
    have h1 := fb_si_bound (n := n) (f := f) hc (fun k hk => h k (by omega))
    have h2 := h n (by omega)
    have e : ((n + 1 : Nat) : Int) * c = n * c + c := by rw [Int.natCast_add, Int.add_mul]; simp
    rw [fb_si_succ, e]
    omega
theorem fb_lN_inj {a b : Nat} (ha : a < 2 ^ 63) (hb : b < 2 ^ 63) : lN a = lN b ↔ a = b := by
  constructor
  · intro h
    have h1 : (BitVec.ofNat 64 a).toNat = (BitVec.ofNat 64 b).toNat := congrArg (fun x : Int64 => x.toBitVec.toNat) h
    rw [BitVec.toNat_ofNat, BitVec.toNat_ofNat, Nat.mod_eq_of_lt (by omega), Nat.mod_eq_of_lt (by omega)] at h1
    exact h1
  · rintro rfl; rfl
theorem fb_bit_nat (n j : Nat) : n &&& 2 ^ j = 0 ↔ n.testBit j = false := by
  constructor
  · intro h
    have h1 : (n &&& 2 ^ j).testBit j = false := by rw [h]; simp
    rw [Nat.testBit_and] at h1
    simpa using h1
  · intro h
    apply Nat.eq_of_testBit_eq
    intro i
    rw [Nat.testBit_and]
    by_cases hi : j = i
    · subst hi; simp [h]
    · first | (simp [Nat.testBit_two_pow, hi]; done) | (simp [Nat.testBit_two_pow_of_ne hi]; done)
theorem fb_first {p : Nat → Prop} [DecidablePred p] : ∀ {n : Nat}, (∃ i, i < n ∧ p i) → ∃ i, i < n ∧ p i ∧ ∀ j, j < i → ¬ p j
  | 0, h => by obtain ⟨i, hi, -⟩ := h; exact absurd hi (Nat.not_lt_zero i)
  | n + 1, h => by
    by_cases q : ∃ i, i < n ∧ p i
    · obtain ⟨i, h1, h2⟩ := fb_first q
      exact ⟨i, by omega, h2⟩
    · obtain ⟨i, h1, h2⟩ := h
      have e : i = n := by
        rcases Nat.lt_or_ge i n with r | r
        · exact absurd ⟨i, r, h2⟩ q
        · omega
      subst e
      exact ⟨i, by omega, h2, fun j hj hp => q ⟨j, hj, hp⟩⟩
theorem fb_first_one {p : Nat → Prop} {i j : Nat} (hi : p i) (hi2 : ∀ k, k < i → ¬ p k) (hj : p j) (hj2 : ∀ k, k < j → ¬ p k) : i = j := by
  rcases Nat.lt_trichotomy i j with q | q | q
  · exact absurd hi (hj2 i q)
  · exact q
  · exact absurd hj (hi2 j q)
/-! ===== signed ints as whole numbers, within bounds ===== -/
theorem fb_rng (x : Int32) : -2147483648 ≤ x.toInt ∧ x.toInt < 2147483648 := by
  have h1 := Int32.le_toInt x
  have h2 := Int32.toInt_lt x
  omega
theorem fb_bmod {z : Int} (h1 : -2147483648 ≤ z) (h2 : z < 2147483648) : z.bmod (2 ^ 32) = z := by
  rw [Int.bmod_eq_of_le (by omega) (by omega)]
theorem fb_addI {x y : Int32} (h1 : -2147483648 ≤ x.toInt + y.toInt) (h2 : x.toInt + y.toInt < 2147483648) : (x + y).toInt = x.toInt + y.toInt := by
  rw [Int32.toInt_add, fb_bmod h1 h2]
theorem fb_subI {x y : Int32} (h1 : -2147483648 ≤ x.toInt - y.toInt) (h2 : x.toInt - y.toInt < 2147483648) : (x - y).toInt = x.toInt - y.toInt := by
  rw [Int32.toInt_sub, fb_bmod h1 h2]
theorem fb_mulI {x y : Int32} (h1 : -2147483648 ≤ x.toInt * y.toInt) (h2 : x.toInt * y.toInt < 2147483648) : (x * y).toInt = x.toInt * y.toInt := by
  rw [Int32.toInt_mul, fb_bmod h1 h2]
theorem fb_negI {x : Int32} (h : x.toInt ≠ -2147483648) : (-x).toInt = -x.toInt := by
  have := fb_rng x
  rw [Int32.toInt_neg, fb_bmod (by omega) (by omega)]
theorem fb_ofI {z : Int} (h1 : -2147483648 ≤ z) (h2 : z < 2147483648) : (Int32.ofInt z).toInt = z := by
  rw [Int32.toInt_ofInt, fb_bmod h1 h2]
theorem fb_asI (x : Int32) : Int32.ofInt x.toInt = x := Int32.ofInt_toInt x
theorem fb_rngL (x : Int64) : -9223372036854775808 ≤ x.toInt ∧ x.toInt < 9223372036854775808 := by
  have h1 := Int64.le_toInt x
  have h2 := Int64.toInt_lt x
  omega
theorem fb_bmodL {z : Int} (h1 : -9223372036854775808 ≤ z) (h2 : z < 9223372036854775808) : z.bmod (2 ^ 64) = z := by
  rw [Int.bmod_eq_of_le (by omega) (by omega)]
end
section
/-! LEVEL 2, the numbers: an int as the whole number that it stands for -/
def iv (x : Int) : Int32 := Int32.ofInt x
theorem iv_to {x : Int} (h : -2147483648 ≤ x ∧ x < 2147483648 := by omega) : (iv x).toInt = x := fb_ofI h.1 h.2
theorem iv_of (x : Int32) : iv x.toInt = x := Int32.ofInt_toInt x
theorem iv_add (a b : Int) : iv a + iv b = iv (a + b) := (Int32.ofInt_add a b).symm
theorem iv_sub (a b : Int) : iv a - iv b = iv (a - b) := (Int32.ofInt_sub a b).symm
theorem iv_mul (a b : Int) : iv a * iv b = iv (a * b) := (Int32.ofInt_mul a b).symm
theorem iv_neg (a : Int) : -iv a = iv (-a) := (Int32.ofInt_neg a).symm
theorem iv_nI (n : Nat) : nI n = iv (n : Int) := (Int32.ofInt_eq_ofNat).symm
theorem iv_inj {a b : Int} (ha : -2147483648 ≤ a ∧ a < 2147483648 := by omega) (hb : -2147483648 ≤ b ∧ b < 2147483648 := by omega) : iv a = iv b ↔ a = b := by
  rw [fa_eq, iv_to ha, iv_to hb]
theorem iv_lt {a b : Int} (ha : -2147483648 ≤ a ∧ a < 2147483648 := by omega) (hb : -2147483648 ≤ b ∧ b < 2147483648 := by omega) : iv a < iv b ↔ a < b := by
  rw [fa_lt, iv_to ha, iv_to hb]
theorem iv_le {a b : Int} (ha : -2147483648 ≤ a ∧ a < 2147483648 := by omega) (hb : -2147483648 ≤ b ∧ b < 2147483648 := by omega) : iv a ≤ iv b ↔ a ≤ b := by
  rw [fa_le, iv_to ha, iv_to hb]
theorem iv_div {a b : Int} (ha : -2147483648 ≤ a ∧ a < 2147483648 := by omega) (hb : 0 < b ∧ b < 2147483648 := by omega) : iv a / iv b = iv (a.tdiv b) := by
  have m1 : Int32.minValue.toInt = -2147483648 := by decide
  have m2 : Int32.maxValue.toInt = 2147483647 := by decide
  exact (Int32.ofInt_tdiv (by omega) (by omega) (by omega) (by omega)).symm
theorem iv_nat {x : Int} (h : -2147483648 ≤ x ∧ x < 2147483648 := by omega) : (iv x).toNatClampNeg = x.toNat := Int32.toNatClampNeg_ofInt_of_le (by omega) (by omega)
theorem iv_long {x : Int} (h : 0 ≤ x ∧ x < 2147483648 := by omega) : (iv x).toInt64 = lN x.toNat := by
  have e : iv x = nI x.toNat := by rw [iv_nI, Int.toNat_of_nonneg h.1]
  rw [e]
  exact nI_l (by omega)
theorem c_m51 : (-51 : Int32) = iv (-51) := by decide
theorem c_m50 : (-50 : Int32) = iv (-50) := by decide
theorem c_m1 : (-1 : Int32) = iv (-1) := by decide
theorem c_0 : (0 : Int32) = iv 0 := by decide
theorem c_1 : (1 : Int32) = iv 1 := by decide
theorem c_2 : (2 : Int32) = iv 2 := by decide
theorem c_3 : (3 : Int32) = iv 3 := by decide
theorem c_5 : (5 : Int32) = iv 5 := by decide
theorem c_6 : (6 : Int32) = iv 6 := by decide
theorem c_10 : (10 : Int32) = iv 10 := by decide
theorem c_12 : (12 : Int32) = iv 12 := by decide
theorem c_50 : (50 : Int32) = iv 50 := by decide
theorem c_51 : (51 : Int32) = iv 51 := by decide
theorem c_100 : (100 : Int32) = iv 100 := by decide
theorem c_101 : (101 : Int32) = iv 101 := by decide
theorem c_150 : (150 : Int32) = iv 150 := by decide
theorem c_1024 : (1024 : Int32) = iv 1024 := by decide
theorem c_2000 : (2000 : Int32) = iv 2000 := by decide
theorem iv_one (x : Int) : iv x + 1 = iv (x + 1) := by rw [c_1, iv_add]
theorem iv_m1 (x : Int) : iv x + (-1) = iv (x - 1) := by rw [c_m1, iv_add]; rfl
/-- ifs over ints that stand for numbers -/
theorem y_lt {a b : Int} (h : a < b) (ha : -2147483648 ≤ a ∧ a < 2147483648 := by omega) (hb : -2147483648 ≤ b ∧ b < 2147483648 := by omega) : iv a < iv b := (iv_lt ha hb).mpr h
theorem n_lt {a b : Int} (h : b ≤ a) (ha : -2147483648 ≤ a ∧ a < 2147483648 := by omega) (hb : -2147483648 ≤ b ∧ b < 2147483648 := by omega) : ¬ iv a < iv b := fun z => by
  have := (iv_lt ha hb).mp z
  omega
theorem y_le {a b : Int} (h : a ≤ b) (ha : -2147483648 ≤ a ∧ a < 2147483648 := by omega) (hb : -2147483648 ≤ b ∧ b < 2147483648 := by omega) : iv a ≤ iv b := (iv_le ha hb).mpr h
theorem n_le {a b : Int} (h : b < a) (ha : -2147483648 ≤ a ∧ a < 2147483648 := by omega) (hb : -2147483648 ≤ b ∧ b < 2147483648 := by omega) : ¬ iv a ≤ iv b := fun z => by
  have := (iv_le ha hb).mp z
  omega
theorem n_eq {a b : Int} (h : a ≠ b) (ha : -2147483648 ≤ a ∧ a < 2147483648 := by omega) (hb : -2147483648 ≤ b ∧ b < 2147483648 := by omega) : ¬ iv a = iv b := fun z => h ((iv_inj ha hb).mp z)
/-! the state's places -/
theorem st_1 (k j : Nat) (x : Int32) (S : QS) (k1 j1 : Nat) : (setF k j x S).1 k1 j1 = if k1 = k ∧ j1 = j then x else S.1 k1 j1 := by
  show va_up S.1 k (upd (S.1 k) j x) k1 j1 = _
  unfold va_up upd
  by_cases h : k1 = k
  · subst h
    simp
  · simp [h]
theorem st_eq (k j : Nat) (x : Int32) (S : QS) : (setF k j x S).1 k j = x := by rw [st_1, if_pos ⟨rfl, rfl⟩]
theorem st_nek {k j : Nat} {x : Int32} {S : QS} {k1 : Nat} (h : k1 ≠ k) : (setF k j x S).1 k1 = S.1 k1 := by
  show va_up S.1 k (upd (S.1 k) j x) k1 = _
  exact va_up_ne _ _ h
theorem st_nej {k j : Nat} {x : Int32} {S : QS} {k1 j1 : Nat} (h : j1 ≠ j) : (setF k j x S).1 k1 j1 = S.1 k1 j1 := by rw [st_1, if_neg (fun z => h z.2)]
theorem st_2 (k j : Nat) (x : Int32) (S : QS) : (setF k j x S).2 = S.2 := rfl
theorem sl_1 (k : Nat) (x : Int64) (S : QS) : (setL k x S).1 = S.1 := rfl
theorem sl_eq (k : Nat) (x : Int64) (S : QS) : (setL k x S).2 k = x := va_up_self _ _ _
theorem sl_ne {k : Nat} {x : Int64} {S : QS} {k1 : Nat} (h : k1 ≠ k) : (setL k x S).2 k1 = S.2 k1 := va_up_ne _ _ h
theorem rd_iv {k n : Nat} {x : Int} {S : QS} (h : 0 ≤ x ∧ x < n) (hn : n < 2147483648 := by decide) : rdA k n (iv x) S = some (S.1 k x.toNat) := by
  unfold rdA
  rw [iv_nat, if_pos]
  intro z
  rcases z with z | z
  · rw [c_0, iv_lt] at z
    omega
  · omega
theorem wr_iv {k n : Nat} {x : Int} {y : Int32} {S : QS} (h : 0 ≤ x ∧ x < n) (hn : n < 2147483648 := by decide) : wrA k n (iv x) y S = some (setF k x.toNat y S) := by
  unfold wrA
  rw [iv_nat, if_pos]
  intro z
  rcases z with z | z
  · rw [c_0, iv_lt] at z
    omega
  · omega
theorem wz_iv {k n : Nat} {x : Int} {y : Int32} {S : QS} (h : 0 ≤ x ∧ x < n) (hy : y = 0 ∨ y = 1) (hn : n < 2147483648 := by decide) : wrZ k n (iv x) y S = some (setF k x.toNat y S) := by
  unfold wrZ
  rw [iv_nat, if_pos]
  refine ⟨?_, hy⟩
  intro z
  rcases z with z | z
  · rw [c_0, iv_lt] at z
    omega
  · omega
theorem rq_iv {b n : Nat} {x : Nat} (h : x < n) (hn : n < 2147483648 := by decide) : rdQ b n (iv x) = some (b + x) := by
  unfold rdQ
  rw [iv_nat, if_pos, Int.toNat_natCast]
  intro z
  rcases z with z | z
  · rw [c_0, iv_lt] at z
    omega
  · rw [Int.toNat_natCast] at z
    omega
theorem stZ_ok {k j : Nat} {x : Int32} {S : QS} (h : x = 0 ∨ x = 1) : stZ k j x S = some (setF k j x S) := by
  unfold stZ
  rw [if_pos h]
theorem zb_ok {x : Int32} (h : x = 0 ∨ x = 1) : zb x = some x := by
  unfold zb
  rw [if_pos h]
theorem dv_iv {a b : Int} (ha : -2147483648 ≤ a ∧ a < 2147483648 := by omega) (hb : 0 < b ∧ b < 2147483648 := by omega) : dvI (iv a) (iv b) = some (iv (a.tdiv b)) := by
  unfold dvI
  rw [if_pos (by rw [c_0]; exact n_eq (by omega)), iv_div ha hb]
theorem rm_iv {a b : Int} (ha : -2147483648 ≤ a ∧ a < 2147483648 := by omega) (hb : 0 < b ∧ b < 2147483648 := by omega) : rmI (iv a) (iv b) = some (iv (a - a.tdiv b * b)) := by
  unfold rmI
  rw [if_pos (by rw [c_0]; exact n_eq (by omega)), iv_div ha hb, iv_mul, iv_sub]
/-- what may have changed: the places of P alone -/
def Fr (P : List Nat) (S S1 : QS) : Prop := (∀ k, k ∉ P → S1.1 k = S.1 k) ∧ ∀ k, k ∉ P → S1.2 k = S.2 k
theorem Fr.rf {P : List Nat} {S : QS} : Fr P S S := ⟨fun _ _ => rfl, fun _ _ => rfl⟩
theorem Fr.tr {P : List Nat} {S S1 S2 : QS} (h : Fr P S S1) (h2 : Fr P S1 S2) : Fr P S S2 := ⟨fun k hk => (h2.1 k hk).trans (h.1 k hk), fun k hk => (h2.2 k hk).trans (h.2 k hk)⟩
theorem Fr.mono {P Q : List Nat} {S S1 : QS} (h : Fr P S S1) (hq : ∀ k, k ∈ P → k ∈ Q) : Fr Q S S1 := ⟨fun k hk => h.1 k (fun z => hk (hq k z)), fun k hk => h.2 k (fun z => hk (hq k z))⟩
theorem Fr.set {P : List Nat} {S : QS} {k j : Nat} {x : Int32} (h : k ∈ P) : Fr P S (setF k j x S) := ⟨fun _ hk => st_nek (fun z => hk (z ▸ h)), fun _ _ => rfl⟩
theorem Fr.setL {P : List Nat} {S : QS} {k : Nat} {x : Int64} (h : k ∈ P) : Fr P S (setL k x S) := ⟨fun _ _ => rfl, fun _ hk => sl_ne (fun z => hk (z ▸ h))⟩
/-! loops that count up -/
theorem up_loop {σ ρ : Type} (lp : Nat → Int32 → σ → Option ρ) (I : Int → σ → Prop) (lo hi : Int)
    (step : ∀ (fuel : Nat) (v : Int) (s : σ), lo ≤ v → v ≤ hi → I v s → ∃ s1, lp (fuel + 1) (iv v) s = lp fuel (iv (v + 1)) s1 ∧ I (v + 1) s1) :
    ∀ (n fuel : Nat) (v : Int) (s : σ), lo ≤ v → v + n = hi + 1 → n < fuel → I v s → ∃ s1 f1, lp fuel (iv v) s = lp (f1 + 1) (iv (hi + 1)) s1 ∧ I (hi + 1) s1 := by
  intro n
  induction n with
  | zero =>
    intro fuel v s h1 h2 h3 h4
    obtain ⟨f1, rfl⟩ : ∃ f1, fuel = f1 + 1 := ⟨fuel - 1, by omega⟩
    have e : v = hi + 1 := by omega
    subst e
    exact ⟨s, f1, rfl, h4⟩
  | succ n ih =>
    intro fuel v s h1 h2 h3 h4
    obtain ⟨f1, rfl⟩ : ∃ f1, fuel = f1 + 1 := ⟨fuel - 1, by omega⟩
    obtain ⟨s1, e1, i1⟩ := step f1 v s h1 (by omega) h4
    obtain ⟨s2, f2, e2, i2⟩ := ih f1 (v + 1) s1 (by omega) (by omega) (by omega) i1
    exact ⟨s2, f2, by rw [e1, e2], i2⟩
/-- a loop over -50 .. 50 that ends with its state -/
theorem loop50 {σ ρ : Type} (lp : Nat → Int32 → σ → Option ρ) (out : σ → ρ) (I : Int → σ → Prop)
    (hend : ∀ (fuel : Nat) (s : σ), lp (fuel + 1) (iv 51) s = some (out s))
    (step : ∀ (fuel : Nat) (v : Int) (s : σ), -50 ≤ v → v ≤ 50 → I v s → ∃ s1, lp (fuel + 1) (iv v) s = lp fuel (iv (v + 1)) s1 ∧ I (v + 1) s1)
    (s : σ) (h : I (-50) s) : ∃ s1, lp FU (iv (-50)) s = some (out s1) ∧ I 51 s1 := by
  obtain ⟨s1, f1, e1, i1⟩ := up_loop lp I (-50) 50 step 101 FU (-50) s (by omega) (by omega) (by decide) h
  exact ⟨s1, by rw [e1]; exact hend f1 s1, i1⟩
/-- a loop over 0 .. n - 1 that ends with its state -/
theorem loopN {σ ρ : Type} (lp : Nat → Int32 → σ → Option ρ) (out : σ → ρ) (I : Nat → σ → Prop) (n : Nat) (hn : n ≤ 1024)
    (hend : ∀ (fuel : Nat) (s : σ), I n s → lp (fuel + 1) (iv n) s = some (out s))
    (step : ∀ (fuel : Nat) (v : Nat) (s : σ), v < n → I v s → ∃ s1, lp (fuel + 1) (iv v) s = lp fuel (iv ((v + 1 : Nat) : Int)) s1 ∧ I (v + 1) s1)
    (s : σ) (h : I 0 s) : ∃ s1, lp FU (iv 0) s = some (out s1) ∧ I n s1 := by
  have key : ∀ (d fuel v : Nat) (s : σ), v + d = n → d < fuel → I v s → ∃ s1, lp fuel (iv v) s = some (out s1) ∧ I n s1 := by
    intro d
    induction d with
    | zero =>
      intro fuel v s h1 h2 h3
      obtain ⟨f1, rfl⟩ : ∃ f1, fuel = f1 + 1 := ⟨fuel - 1, by omega⟩
      have e : v = n := by omega
      subst e
      exact ⟨s, hend f1 s h3, h3⟩
    | succ d ih =>
      intro fuel v s h1 h2 h3
      obtain ⟨f1, rfl⟩ : ∃ f1, fuel = f1 + 1 := ⟨fuel - 1, by omega⟩
      obtain ⟨s1, e1, i1⟩ := step f1 v s (by omega) h3
      obtain ⟨s2, e2, i2⟩ := ih f1 (v + 1) s1 (by omega) (by omega) i1
      exact ⟨s2, by rw [e1, e2], i2⟩
  exact key n FU 0 s (by omega) (by show n < 1100; omega) h
/-- the place of a number of a speed in its row -/
def ix (v : Int) : Nat := (v + 50).toNat
theorem ix_lt {v : Int} (h : -50 ≤ v ∧ v ≤ 50) : ix v < 101 := by unfold ix; omega
theorem ix_ne {v w : Int} (hv : -50 ≤ v) (hw : -50 ≤ w) (h : v ≠ w) : ix v ≠ ix w := by unfold ix; omega
theorem sub50 (v : Int) : iv v - (-50) = iv (v + 50) := by rw [c_m50, iv_sub]; rfl
theorem rd50 {k : Nat} {v : Int} {S : QS} (h : -50 ≤ v ∧ v ≤ 50) : rdA k 101 (iv v - (-50)) S = some (S.1 k (ix v)) := by rw [sub50, rd_iv (by omega)]; rfl
theorem wr50 {k : Nat} {v : Int} {y : Int32} {S : QS} (h : -50 ≤ v ∧ v ≤ 50) : wrA k 101 (iv v - (-50)) y S = some (setF k (ix v) y S) := by rw [sub50, wr_iv (by omega)]; rfl
theorem wz50 {k : Nat} {v : Int} {y : Int32} {S : QS} (h : -50 ≤ v ∧ v ≤ 50) (hy : y = 0 ∨ y = 1) : wrZ k 101 (iv v - (-50)) y S = some (setF k (ix v) y S) := by rw [sub50, wz_iv (by omega) hy]; rfl
theorem hi50 {v : Int} (h : v ≤ 50) (h2 : -1000000 ≤ v := by omega) : ¬ (50 : Int32) < iv v := by rw [c_50]; exact n_lt h
theorem lo50 {v : Int} (h : -50 ≤ v) (h2 : v ≤ 1000000 := by omega) : ¬ iv v < (-50 : Int32) := by rw [c_m50]; exact n_lt h
theorem le50 {v : Int} (h : v ≤ 50) (h2 : -1000000 ≤ v := by omega) : iv v ≤ (50 : Int32) := by rw [c_50]; exact y_le h
theorem gt50 : (50 : Int32) < iv 51 := by decide
/-! the desk's small methods, within bounds -/
theorem s_setPrice {k : Nat} {v : Int} {y : Int32} {S : QS} (h : -50 ≤ v ∧ v ≤ 50) : f_X3_setPrice k (iv v) y S = some (setF (k + 1) (ix v) y S) := by
  unfold f_X3_setPrice
  rw [if_neg (lo50 h.1), if_neg (hi50 h.2), wr50 h]
  rfl
theorem s_priceOf {k : Nat} {v : Int} {S : QS} (h : -50 ≤ v ∧ v ≤ 50) : f_X3_priceOf k (iv v) S = some (S.1 (k + 1) (ix v)) := by
  unfold f_X3_priceOf
  rw [if_neg (lo50 h.1), if_pos (le50 h.2), rd50 h]
  rfl
theorem s_isOpen {k : Nat} {v : Int} {S : QS} (h : -50 ≤ v ∧ v ≤ 50) : f_X3_isOpen k (iv v) S = some (if S.1 (k + 1) (ix v) = -1 then 0 else 1) := by
  unfold f_X3_isOpen
  rw [s_priceOf h]
  show (if S.1 (k + 1) (ix v) = (-1) then some 0 else some 1) = _
  by_cases c : S.1 (k + 1) (ix v) = -1
  · rw [if_pos c, if_pos c]
  · rw [if_neg c, if_neg c]
theorem s_see {k : Nat} {v : Int} {S : QS} (h : -50 ≤ v ∧ v ≤ 50) : f_X3_see k (iv v) S = some (setF (k + 2) (ix v) 1 S) := by
  unfold f_X3_see
  rw [if_neg (lo50 h.1), if_neg (hi50 h.2), wz50 h (Or.inr rfl)]
  rfl
theorem s_isSeen {k : Nat} {v : Int} {S : QS} (h : -50 ≤ v ∧ v ≤ 50) : f_X3_isSeen k (iv v) S = some (if S.1 (k + 2) (ix v) = 0 then 0 else 1) := by
  unfold f_X3_isSeen
  rw [if_neg (lo50 h.1), if_neg (hi50 h.2), rd50 h]
  show (if S.1 (k + 2) (ix v) = 0 then some 0 else some 1) = _
  by_cases c : S.1 (k + 2) (ix v) = 0
  · rw [if_pos c, if_pos c]
  · rw [if_neg c, if_neg c]
theorem s_firstCount {k : Nat} {v : Int} {S : QS} (h : -50 ≤ v ∧ v ≤ 50) : f_X0_firstCount k (iv v) S = some (S.1 (k + 10) (ix v)) := by
  unfold f_X0_firstCount
  rw [if_neg (lo50 h.1), if_pos (le50 h.2), rd50 h]
  rfl
theorem s_cheaper (a b : Int32) : f_X5_cheaper a b = some (if a = -1 then b else if a ≤ b then a else b) := by
  unfold f_X5_cheaper
  by_cases c : a = -1
  · rw [if_pos c, if_pos c]
  · rw [if_neg c, if_neg c]
    by_cases d : a ≤ b
    · rw [if_pos d, if_pos d]
    · rw [if_neg d, if_neg d]
theorem s_firstFor {p v : Int} (h : -1000 ≤ v ∧ v ≤ 1000) : f_X0_firstFor (iv p) (iv v) = some (iv (if 0 ≤ v then p else -p)) := by
  unfold f_X0_firstFor
  rw [c_0]
  by_cases c : 0 ≤ v
  · rw [if_pos (y_le c), if_pos c]
  · rw [if_neg (n_le (by omega)), if_neg c, iv_neg]
end
section
/-! sums over -50 .. 50 -/
theorem ob {α β : Type} (a : α) (f : α → Option β) : (some a).bind f = f a := rfl
def smv (f : Int → Nat) (v : Int) : Nat := fb_sm (fun j => f ((j : Int) - 50)) (ix v)
def sm (f : Int → Nat) : Nat := smv f 51
theorem smv_0 (f : Int → Nat) : smv f (-50) = 0 := rfl
theorem smv_s (f : Int → Nat) {v : Int} (h : -50 ≤ v) : smv f (v + 1) = smv f v + f v := by
  unfold smv
  have e : ix (v + 1) = ix v + 1 := by unfold ix; omega
  have e2 : ((ix v : Nat) : Int) - 50 = v := by unfold ix; omega
  rw [e, fb_sm_succ, e2]
theorem smv_cong {f g : Int → Nat} {v : Int} (h : ∀ w, -50 ≤ w → w < v → f w = g w) : smv f v = smv g v := by
  unfold smv
  exact fb_sm_cong (fun k hk => h _ (by omega) (by unfold ix at hk; omega))
theorem sm_cong {f g : Int → Nat} (h : ∀ w, -50 ≤ w → w ≤ 50 → f w = g w) : sm f = sm g := smv_cong (fun w h1 h2 => h w h1 (by omega))
theorem fb_sm_0 {f : Nat → Nat} : ∀ {n : Nat}, (∀ k, k < n → f k = 0) → fb_sm f n = 0
  | 0, _ => rfl
  | n + 1, h => by rw [fb_sm_succ, fb_sm_0 (fun k hk => h k (by omega)), h n (by omega)]
theorem smv_z {f : Int → Nat} {v : Int} (h : ∀ w, -50 ≤ w → w < v → f w = 0) : smv f v = 0 := by
  unfold smv
  exact fb_sm_0 (fun k hk => h _ (by omega) (by unfold ix at hk; omega))
theorem smv_up {f : Int → Nat} {v : Int} (h1 : -50 ≤ v) (hv : v ≤ 51) (h : ∀ w, v ≤ w → w ≤ 50 → f w = 0) : smv f v = sm f := by
  have key : ∀ n : Nat, v + n ≤ 51 → smv f (v + n) = smv f v := by
    intro n
    induction n with
    | zero => intro _; simp
    | succ n ih =>
      intro hn
      have e : v + ((n + 1 : Nat) : Int) = (v + n) + 1 := by omega
      rw [e, smv_s f (by omega), ih (by omega), h (v + n) (by omega) (by omega)]
      rfl
  have := key (51 - v).toNat (by omega)
  rw [show v + ((51 - v).toNat : Int) = 51 by omega] at this
  exact this.symm
theorem fb_sm_swap (f : Nat → Nat → Nat) (m : Nat) : ∀ n, fb_sm (fun i => fb_sm (fun j => f i j) m) n = fb_sm (fun j => fb_sm (fun i => f i j) n) m
  | 0 => (fb_sm_0 (fun _ _ => rfl)).symm
  | n + 1 => by
    rw [fb_sm_succ, fb_sm_swap f m n, ← fb_sm_add]
    rfl
theorem fb_sm_mul (c : Nat) (f : Nat → Nat) : ∀ n, fb_sm (fun k => c * f k) n = c * fb_sm f n
  | 0 => rfl
  | n + 1 => by rw [fb_sm_succ, fb_sm_succ, fb_sm_mul c f n, Nat.mul_add]
theorem sm_mul (c : Nat) (f : Int → Nat) : sm (fun v => c * f v) = c * sm f := fb_sm_mul c _ _
theorem sm_swap (f : Int → Int → Nat) : sm (fun a => sm (fun b => f a b)) = sm (fun b => sm (fun a => f a b)) := fb_sm_swap (fun i j => f ((i : Int) - 50) ((j : Int) - 50)) 101 101
theorem smv_le {f : Int → Nat} {c : Nat} {v : Int} (h : ∀ w, -50 ≤ w → w < v → f w ≤ c) : smv f v ≤ ix v * c := fb_sm_bound (fun k hk => h _ (by omega) (by unfold ix at hk; omega))
theorem sm_le {f : Int → Nat} {c : Nat} (h : ∀ w, -50 ≤ w → w ≤ 50 → f w ≤ c) : sm f ≤ 101 * c := smv_le (fun w h1 h2 => h w h1 (by omega))
theorem fb_sm_pos {f : Nat → Nat} : ∀ {n : Nat}, 0 < fb_sm f n → ∃ k, k < n ∧ 0 < f k
  | 0, h => absurd h (by simp [fb_sm])
  | n + 1, h => by
    rw [fb_sm_succ] at h
    rcases Nat.eq_zero_or_pos (f n) with z | z
    · obtain ⟨k, h1, h2⟩ := fb_sm_pos (f := f) (n := n) (by omega)
      exact ⟨k, by omega, h2⟩
    · exact ⟨n, by omega, z⟩
theorem smv_pos {f : Int → Nat} {v : Int} : 0 < smv f v ↔ ∃ w, -50 ≤ w ∧ w < v ∧ 0 < f w := by
  constructor
  · intro h
    obtain ⟨k, h1, h2⟩ := fb_sm_pos h
    exact ⟨(k : Int) - 50, by omega, by unfold ix at h1; omega, h2⟩
  · rintro ⟨w, h1, h2, h3⟩
    have h4 := fb_sm_part (fun j : Nat => f ((j : Int) - 50)) (i := ix w) (n := ix v) (by unfold ix; omega)
    have e : ((ix w : Nat) : Int) - 50 = w := by unfold ix; omega
    simp only [e] at h4
    unfold smv
    omega
theorem sm_pos {f : Int → Nat} : 0 < sm f ↔ ∃ w, -50 ≤ w ∧ w ≤ 50 ∧ 0 < f w := by
  rw [show sm f = smv f 51 from rfl, smv_pos]
  constructor
  · rintro ⟨w, h1, h2, h3⟩; exact ⟨w, h1, by omega, h3⟩
  · rintro ⟨w, h1, h2, h3⟩; exact ⟨w, h1, by omega, h3⟩
/-- one place alone -/
theorem fb_sm_one (c : Nat) {i n : Nat} (h : i < n) : fb_sm (fun k => if k = i then c else 0) n = c := by
  have h1 := fb_sm_upd (fun _ => 0) c h
  have h2 : fb_sm (fun _ => 0) n = 0 := fb_sm_0 (fun _ _ => rfl)
  simp only [h2] at h1
  omega
/-- the sum read from the other end -/
theorem fb_sm_rev (f : Nat → Nat) : ∀ n, fb_sm (fun k => f (n - 1 - k)) n = fb_sm f n
  | 0 => rfl
  | n + 1 => by
    have e : fb_sm (fun k => f (n + 1 - 1 - k)) (n + 1) = f n + fb_sm (fun k => f (n - 1 - k)) n := by
      have h := fb_sm_split (fun k => f (n + 1 - 1 - k)) 1 n
      rw [Nat.add_comm 1 n] at h
      rw [h]
      have e1 : fb_sm (fun k => f (n + 1 - 1 - k)) 1 = f n := by
        show 0 + f (n + 1 - 1 - 0) = f n
        rw [Nat.zero_add]; congr 1
      rw [e1]
      congr 1
      exact fb_sm_cong (fun k hk => by congr 1; omega)
    rw [e, fb_sm_rev f n, fb_sm_succ]
    omega
theorem sm_rev (f : Int → Nat) : sm (fun v => f (-v)) = sm f := by
  show fb_sm (fun j => f (-((j : Int) - 50))) 101 = fb_sm (fun j => f ((j : Int) - 50)) 101
  rw [← fb_sm_rev (fun j => f ((j : Int) - 50)) 101]
  exact fb_sm_cong (fun k hk => by congr 1; omega)
/-- two ways to count pairs that answer each other -/
theorem fb_sm_match {P : Nat → Bool} {Q : Nat → Bool} {R : Nat → Nat → Bool} {m n : Nat} (hP : ∀ k, k < m → P k = true → ∃ j, j < n ∧ ∀ j2, j2 < n → (R k j2 = true ↔ j2 = j)) (hP0 : ∀ k, k < m → P k = false → ∀ j, j < n → R k j = false)
    (hQ : ∀ j, j < n → Q j = true → ∃ k, k < m ∧ ∀ k2, k2 < m → (R k2 j = true ↔ k2 = k)) (hQ0 : ∀ j, j < n → Q j = false → ∀ k, k < m → R k j = false) : fb_sm (fun k => if P k then 1 else 0) m = fb_sm (fun j => if Q j then 1 else 0) n := by
  have e1 : fb_sm (fun k => if P k then 1 else 0) m = fb_sm (fun k => fb_sm (fun j => if R k j then 1 else 0) n) m := by
    refine fb_sm_cong (fun k hk => ?_)
    cases hp : P k with
    | false =>
      simp only [if_false, Bool.false_eq_true]
      exact (fb_sm_0 (fun j hj => by rw [hP0 k hk hp j hj]; rfl)).symm
    | true =>
      obtain ⟨j, h1, h2⟩ := hP k hk hp
      rw [if_pos rfl]
      refine (fb_sm_one 1 h1).symm.trans (fb_sm_cong (fun j2 hj2 => ?_))
      by_cases c : j2 = j
      · rw [if_pos c, if_pos ((h2 j2 hj2).mpr c)]
      · rw [if_neg c, if_neg (fun z => c ((h2 j2 hj2).mp z))]
  have e2 : fb_sm (fun j => if Q j then 1 else 0) n = fb_sm (fun j => fb_sm (fun k => if R k j then 1 else 0) m) n := by
    refine fb_sm_cong (fun j hj => ?_)
    cases hq : Q j with
    | false =>
      simp only [if_false, Bool.false_eq_true]
      exact (fb_sm_0 (fun k hk => by rw [hQ0 j hj hq k hk]; rfl)).symm
    | true =>
      obtain ⟨k, h1, h2⟩ := hQ j hj hq
      rw [if_pos rfl]
      refine (fb_sm_one 1 h1).symm.trans (fb_sm_cong (fun k2 hk2 => ?_))
      by_cases c : k2 = k
      · rw [if_pos c, if_pos ((h2 k2 hk2).mpr c)]
      · rw [if_neg c, if_neg (fun z => c ((h2 k2 hk2).mp z))]
  rw [e1, e2, fb_sm_swap]
/-! THE SCENE: what was told -/
abbrev Vw : Type := (Nat → Int) × (Nat → Int) × (Nat → Int) × Nat × (Nat → Nat × Bool × Int × Int × Bool) × Nat × (Nat → Nat × Int × Int)
def vM (V : Vw) (c : Nat) : Int := V.1 c
def vLo (V : Vw) (r : Nat) : Int := V.2.1 r
def vHi (V : Vw) (r : Nat) : Int := V.2.2.1 r
def vNs (V : Vw) : Nat := V.2.2.2.1
def kCar (V : Vw) (s : Nat) : Nat := (V.2.2.2.2.1 s).1
def kBeh (V : Vw) (s : Nat) : Bool := (V.2.2.2.2.1 s).2.1
def kLo (V : Vw) (s : Nat) : Int := (V.2.2.2.2.1 s).2.2.1
def kHi (V : Vw) (s : Nat) : Int := (V.2.2.2.2.1 s).2.2.2.1
def kOn (V : Vw) (s : Nat) : Bool := (V.2.2.2.2.1 s).2.2.2.2
def vNt (V : Vw) : Nat := V.2.2.2.2.2.1
def tRow (V : Vw) (t : Nat) : Nat := (V.2.2.2.2.2.2 t).1
def tLo (V : Vw) (t : Nat) : Int := (V.2.2.2.2.2.2 t).2.1
def tHi (V : Vw) (t : Nat) : Int := (V.2.2.2.2.2.2 t).2.2
/-- the bounds that every telling keeps -/
def VOk (V : Vw) : Prop := (∀ c, c < 2 → 1 ≤ vM V c ∧ vM V c ≤ 100) ∧ (∀ r, r < 6 → -50 ≤ vLo V r ∧ vLo V r ≤ 50 ∧ -50 ≤ vHi V r ∧ vHi V r ≤ 50) ∧ vNs V ≤ 12 ∧ (∀ s, s < vNs V → kCar V s < 2 ∧ 0 ≤ kLo V s ∧ kLo V s ≤ 300000 ∧ 0 ≤ kHi V s ∧ kHi V s ≤ 300000) ∧ vNt V ≤ 10 ∧ ∀ t, t < vNt V → tRow V t < 6 ∧ -50 ≤ tLo V t ∧ tLo V t ≤ 50 ∧ -50 ≤ tHi V t ∧ tHi V t ≤ 50
def allB (p : Nat → Bool) : Nat → Bool
  | 0 => true
  | n + 1 => allB p n && p n
theorem allB_s (p : Nat → Bool) (n : Nat) : allB p (n + 1) = (allB p n && p n) := rfl
theorem allB_iff {p : Nat → Bool} : ∀ {n : Nat}, allB p n = true ↔ ∀ t, t < n → p t = true
  | 0 => ⟨fun _ t h => absurd h (Nat.not_lt_zero t), fun _ => rfl⟩
  | n + 1 => by
    rw [allB_s, Bool.and_eq_true, allB_iff (n := n)]
    constructor
    · rintro ⟨h1, h2⟩ t ht
      rcases Nat.lt_or_ge t n with q | q
      · exact h1 t q
      · rw [show t = n by omega]; exact h2
    · intro h
      exact ⟨fun t ht => h t (by omega), h n (by omega)⟩
/-- a tale is of this row, and not so at this number -/
def tB (V : Vw) (r : Nat) (v : Int) (t : Nat) : Bool := decide (tRow V t = r) && !(decide (tLo V t ≤ v) && decide (v ≤ tHi V t))
/-- a number that a row lets, with the first n tales of a set -/
def ltN (V : Vw) (set r : Nat) (v : Int) (n : Nat) : Bool := (decide (vLo V r ≤ v) && decide (v ≤ vHi V r)) && allB (fun t => !(tB V r v t && set.testBit t)) n
def lq (V : Vw) (set r : Nat) (v : Int) : Bool := ltN V set r v (vNt V)
/-- its price, by the first n tales -/
def prN (V : Vw) (r : Nat) (v : Int) (n : Nat) : Nat := fb_sm (fun t => if tB V r v t then 1024 + 2 ^ t else 0) n
def pq (V : Vw) (r : Nat) (v : Int) : Nat := prN V r v (vNt V)
/-- a skid that counts, of a car, on a side, and is not left out -/
def oq (V : Vw) (w : Int) (c : Nat) (b : Bool) (s : Nat) : Bool := kOn V s && (decide ((s : Int) ≠ w) && (decide (kCar V s = c) && (kBeh V s == b)))
def sLn (V : Vw) (w : Int) (c : Nat) (b : Bool) (n : Nat) : Int := fb_si (fun s => if oq V w c b s then kLo V s else 0) n
def sHn (V : Vw) (w : Int) (c : Nat) (b : Bool) (n : Nat) : Int := fb_si (fun s => if oq V w c b s then kHi V s else 0) n
def sNn (V : Vw) (w : Int) (c : Nat) (b : Bool) (n : Nat) : Nat := fb_sm (fun s => if oq V w c b s then 1 else 0) n
def sL (V : Vw) (w : Int) (c : Nat) (b : Bool) : Int := sLn V w c b (vNs V)
def sH (V : Vw) (w : Int) (c : Nat) (b : Bool) : Int := sHn V w c b (vNs V)
def sN (V : Vw) (w : Int) (c : Nat) (b : Bool) : Nat := sNn V w c b (vNs V)
def tkA (V : Vw) (w : Int) (c : Nat) (x : Int) : Bool := decide (sL V w c false ≤ x) && decide (x ≤ sH V w c false)
def tkB (V : Vw) (w : Int) (c : Nat) (x : Int) : Bool := decide (sN V w c true = 0) || (decide (sL V w c true ≤ x) && decide (x ≤ sH V w c true))
def sgq (f a : Int) : Bool := if 0 < a then decide (0 < f) else if a < 0 then decide (f < 0) else decide (0 ≤ f)
/-- FIRST f leads to AT a -/
def fq (V : Vw) (set : Nat) (w : Int) (c : Nat) (f a : Int) : Bool := sgq f a && (lq V set (3 * c) f && tkA V w c (51 * (f * f - a * a)))
def nq (V : Vw) (set : Nat) (w : Int) (c : Nat) (a : Int) : Nat := if lq V set (3 * c + 1) a then sm (fun f => if fq V set w c f a then 1 else 0) else 0
def aq (V : Vw) (set : Nat) (w : Int) (c : Nat) (p : Int) : Bool := lq V set (3 * c + 2) p && tkB V w c (51 * p * p)
def qr (V : Vw) (a b p : Int) : Int := vM V 0 * (a - p) + vM V 1 * b
def qv (V : Vw) (a b p : Int) : Int := (qr V a b p).tdiv (vM V 1)
/-- AT a, b and AFTER p of car 0 meet all that is asked beside FIRST -/
def wq (V : Vw) (set : Nat) (w : Int) (a b p : Int) : Bool := decide (b < a) && (decide (qv V a b p * vM V 1 = qr V a b p) && (decide (p ≤ qv V a b p) && (aq V set w 0 p && (aq V set w 1 (qv V a b p) && decide (vM V 0 * p * p + vM V 1 * qv V a b p * qv V a b p ≤ vM V 0 * a * a + vM V 1 * b * b)))))
def nT (V : Vw) (set : Nat) (w : Int) (a b : Int) : Nat := nq V set w 0 a * nq V set w 1 b
def nW (V : Vw) (set : Nat) (w : Int) : Nat := sm (fun a => sm (fun b => sm (fun p => if wq V set w a b p then nT V set w a b else 0)))
theorem lt_in {V : Vw} {set r n : Nat} {v : Int} (h : ltN V set r v n = true) : vLo V r ≤ v ∧ v ≤ vHi V r := by
  unfold ltN at h
  simp only [Bool.and_eq_true, decide_eq_true_eq] at h
  exact h.1
theorem lt_50 {V : Vw} (hV : VOk V) {set r n : Nat} (hr : r < 6) {v : Int} (h : ltN V set r v n = true) : -50 ≤ v ∧ v ≤ 50 := by
  have h1 := lt_in h
  have h2 := hV.2.1 r hr
  omega
theorem pr_le {V : Vw} {r n : Nat} {v : Int} (hn : n ≤ 10) : prN V r v n ≤ 10240 + 1023 := by
  have key : ∀ n, prN V r v n + 1 ≤ n * 1024 + 2 ^ n := by
    intro n
    induction n with
    | zero => simp [prN, fb_sm]
    | succ n ih =>
      have e : prN V r v (n + 1) = prN V r v n + (if tB V r v n then 1024 + 2 ^ n else 0) := fb_sm_succ _ _
      have e2 : (2 : Nat) ^ (n + 1) = 2 ^ n + 2 ^ n := by rw [Nat.pow_succ]; omega
      rw [e, e2]
      generalize 2 ^ n = z at ih ⊢
      have e3 : (n + 1) * 1024 = n * 1024 + 1024 := Nat.succ_mul n 1024
      rw [e3]
      generalize n * 1024 = y at ih ⊢
      cases tB V r v n with
      | true =>
        rw [if_pos rfl]
        omega
      | false =>
        rw [if_neg (by decide)]
        omega
  have h1 := key n
  have h2 : (2 : Nat) ^ n ≤ 2 ^ 10 := Nat.pow_le_pow_right (by decide) hn
  have h3 : (2 : Nat) ^ 10 = 1024 := by decide
  omega
theorem na_le {V : Vw} {set : Nat} {w : Int} {c : Nat} {a : Int} : nq V set w c a ≤ 101 := by
  unfold nq
  split
  · have h := sm_le (f := fun f => if fq V set w c f a then 1 else 0) (c := 1) (fun f _ _ => by split <;> omega)
    omega
  · omega
end
section
/-! THE DESK: a speed's row cleared, a tale heard, its bounds -/
def b2 (b : Bool) : Int32 := if b then 1 else 0
theorem b2_or (b : Bool) : b2 b = 0 ∨ b2 b = 1 := by cases b <;> simp [b2]
theorem b2_0 {b : Bool} : b2 b = 0 ↔ b = false := by cases b <;> decide
theorem b2_1 {b : Bool} : b2 b = 1 ↔ b = true := by cases b <;> decide
theorem b2_n {b : Bool} : ¬ b2 b = 0 ↔ b = true := by cases b <;> decide
theorem q_btw {v lo hi : Int} (hv : -2147483648 ≤ v ∧ v < 2147483648 := by omega) (h1 : -2147483648 ≤ lo ∧ lo < 2147483648 := by omega) (h2 : -2147483648 ≤ hi ∧ hi < 2147483648 := by omega) : (if iv v < iv lo then some (0 : Int32) else (if iv hi < iv v then some 0 else some 1)) = some (b2 (decide (lo ≤ v) && decide (v ≤ hi))) := by
  by_cases c : lo ≤ v
  · rw [if_neg (n_lt c hv h1)]
    by_cases d : v ≤ hi
    · rw [if_neg (n_lt d h2 hv), decide_eq_true c, decide_eq_true d]
      rfl
    · rw [if_pos (y_lt (Int.not_le.mp d) h2 hv), decide_eq_true c, decide_eq_false d]
      rfl
  · rw [if_pos (y_lt (Int.not_le.mp c) hv h1), decide_eq_false c]
    rfl
theorem nm2 {k : Nat} : k ∉ [k + 1, k + 2] := by
  intro z
  simp only [List.mem_cons, List.not_mem_nil, or_false] at z
  omega
theorem nm1 {k j : Nat} (h : k ≠ j) : k ∉ [j] := by
  intro z
  simp only [List.mem_cons, List.not_mem_nil, or_false] at z
  exact h z
theorem s_clear {k : Nat} {lo hi : Int} {S : QS} (hlo : S.1 k 0 = iv lo) (hhi : S.1 k 1 = iv hi) (h1 : -1000 ≤ lo ∧ lo ≤ 1000) (h2 : -1000 ≤ hi ∧ hi ≤ 1000) :
    ∃ S1, f_X3_clear k S = some S1 ∧ Fr [k + 1, k + 2] S S1 ∧ ∀ w, -50 ≤ w → w ≤ 50 → S1.1 (k + 1) (ix w) = (if lo ≤ w ∧ w ≤ hi then 0 else -1) ∧ S1.1 (k + 2) (ix w) = 0 := by
  have main := loop50 (fun fuel v s => lp_X3_clear_3 k fuel v s) id (fun v s => Fr [k + 1, k + 2] S s ∧ ∀ w, -50 ≤ w → w < v → s.1 (k + 1) (ix w) = (if lo ≤ w ∧ w ≤ hi then 0 else -1) ∧ s.1 (k + 2) (ix w) = 0)
    (fun fuel s => by
      show lp_X3_clear_3 k (fuel + 1) (iv 51) s = some s
      rw [lp_X3_clear_3, if_pos gt50])
    (fun fuel v s h3 h4 hI => by
      obtain ⟨i1, i2⟩ := hI
      have e0 : s.1 k 0 = iv lo := by rw [i1.1 k nm2]; exact hlo
      have e1 : s.1 k 1 = iv hi := by rw [i1.1 k nm2]; exact hhi
      have q : ((if iv v < iv lo then (some (-1)) else (if iv v ≤ iv hi then (some 0) else (some (-1)))) : Option Int32) = some (if lo ≤ v ∧ v ≤ hi then 0 else -1) := by
        by_cases c : lo ≤ v
        · rw [if_neg (n_lt (a := v) (b := lo) c)]
          by_cases d : v ≤ hi
          · rw [if_pos (y_le (a := v) (b := hi) d), if_pos ⟨c, d⟩]
          · rw [if_neg (n_le (a := v) (b := hi) (by omega)), if_neg (fun z => d z.2)]
        · rw [if_pos (y_lt (a := v) (b := lo) (by omega)), if_neg (fun z => c z.1)]
      refine ⟨setF (k + 2) (ix v) 0 (setF (k + 1) (ix v) (if lo ≤ v ∧ v ≤ hi then 0 else -1) s), ?_, ?_, ?_⟩
      · show lp_X3_clear_3 k (fuel + 1) (iv v) s = lp_X3_clear_3 k fuel (iv (v + 1)) _
        rw [lp_X3_clear_3, if_neg (hi50 h4), e0, e1, q, ob, s_setPrice ⟨h3, h4⟩, ob, wz50 ⟨h3, h4⟩ (Or.inl rfl), ob, iv_one]
      · exact (i1.tr (Fr.set (by simp))).tr (Fr.set (by simp))
      · intro w hw1 hw2
        by_cases c : w = v
        · subst c
          exact ⟨by rw [st_nek (by omega), st_eq], st_eq _ _ _ _⟩
        · have hn : ix w ≠ ix v := ix_ne hw1 h3 c
          obtain ⟨j1, j2⟩ := i2 w hw1 (by omega)
          exact ⟨by rw [st_nek (by omega), st_nej hn]; exact j1, by rw [st_nej hn, st_nek (by omega)]; exact j2⟩)
    S ⟨Fr.rf, fun w _ _ => by omega⟩
  obtain ⟨S1, e, i1, i2⟩ := main
  refine ⟨S1, ?_, i1, fun w hw1 hw2 => i2 w hw1 (by omega)⟩
  unfold f_X3_clear
  rw [c_m50]
  exact e
theorem s_hear {k t : Nat} {lo hi : Int} {a : Int32} {S : QS} (ht : t ≠ k + 1) (hlo : S.1 t 2 = iv lo) (hhi : S.1 t 3 = iv hi) (h1 : -1000 ≤ lo ∧ lo ≤ 1000) (h2 : -1000 ≤ hi ∧ hi ≤ 1000) :
    ∃ S1, f_X3_hear k t a S = some S1 ∧ Fr [k + 1] S S1 ∧ ∀ w, -50 ≤ w → w ≤ 50 → S1.1 (k + 1) (ix w) = if (decide (lo ≤ w) && decide (w ≤ hi)) = true then S.1 (k + 1) (ix w) else if S.1 (k + 1) (ix w) = -1 then -1 else if a = -1 then -1 else S.1 (k + 1) (ix w) + a := by
  obtain ⟨N, hN⟩ : ∃ N : Int → Int32, ∀ w, N w = if (decide (lo ≤ w) && decide (w ≤ hi)) = true then S.1 (k + 1) (ix w) else if S.1 (k + 1) (ix w) = -1 then -1 else if a = -1 then -1 else S.1 (k + 1) (ix w) + a := ⟨_, fun _ => rfl⟩
  have main := loop50 (fun fuel v s => lp_X3_hear_3 k t a fuel v s) id (fun v s => Fr [k + 1] S s ∧ ∀ w, -50 ≤ w → w ≤ 50 → s.1 (k + 1) (ix w) = if w < v then N w else S.1 (k + 1) (ix w))
    (fun fuel s => by
      show lp_X3_hear_3 k t a (fuel + 1) (iv 51) s = some s
      rw [lp_X3_hear_3, if_pos gt50])
    (fun fuel v s h3 h4 hI => by
      obtain ⟨i1, i2⟩ := hI
      have e0 : s.1 t 2 = iv lo := by rw [i1.1 t (nm1 ht)]; exact hlo
      have e1 : s.1 t 3 = iv hi := by rw [i1.1 t (nm1 ht)]; exact hhi
      have eo : s.1 (k + 1) (ix v) = S.1 (k + 1) (ix v) := by rw [i2 v h3 h4, if_neg (by omega)]
      have keep : N v = S.1 (k + 1) (ix v) → Fr [k + 1] S s ∧ ∀ w, -50 ≤ w → w ≤ 50 → s.1 (k + 1) (ix w) = if w < v + 1 then N w else S.1 (k + 1) (ix w) := fun hk => ⟨i1, fun w hw1 hw2 => by
        rw [i2 w hw1 hw2]
        by_cases c : w = v
        · subst c
          rw [if_neg (by omega), if_pos (by omega), hk]
        · by_cases d : w < v
          · rw [if_pos d, if_pos (by omega)]
          · rw [if_neg d, if_neg (by omega)]⟩
      have q := q_btw (v := v) (lo := lo) (hi := hi)
      by_cases c : (decide (lo ≤ v) && decide (v ≤ hi)) = true
      · refine ⟨s, ?_, keep (by rw [hN, if_pos c])⟩
        show lp_X3_hear_3 k t a (fuel + 1) (iv v) s = lp_X3_hear_3 k t a fuel (iv (v + 1)) s
        rw [lp_X3_hear_3, if_neg (hi50 h4), e0, e1, q, ob, if_neg (b2_n.mpr c), iv_one]
      · have c2 : b2 (decide (lo ≤ v) && decide (v ≤ hi)) = 0 := b2_0.mpr (by simpa using c)
        by_cases d : S.1 (k + 1) (ix v) = -1
        · refine ⟨s, ?_, keep (by rw [hN, if_neg c, if_pos d, d])⟩
          show lp_X3_hear_3 k t a (fuel + 1) (iv v) s = lp_X3_hear_3 k t a fuel (iv (v + 1)) s
          rw [lp_X3_hear_3, if_neg (hi50 h4), e0, e1, q, ob, if_pos c2, s_isOpen ⟨h3, h4⟩, eo, if_pos d, ob, if_pos rfl, iv_one]
        · refine ⟨setF (k + 1) (ix v) (N v) s, ?_, i1.tr (Fr.set (by simp)), fun w hw1 hw2 => ?_⟩
          · show lp_X3_hear_3 k t a (fuel + 1) (iv v) s = lp_X3_hear_3 k t a fuel (iv (v + 1)) _
            have q2 : ((if a = (-1) then (some (-1)) else ((f_X3_priceOf k (iv v) s).bind fun v8 => some (v8 + a))) : Option Int32) = some (N v) := by
              rw [hN, if_neg c, if_neg d]
              by_cases g : a = -1
              · rw [if_pos g, if_pos g]
              · rw [if_neg g, if_neg g, s_priceOf ⟨h3, h4⟩, ob, eo]
            rw [lp_X3_hear_3, if_neg (hi50 h4), e0, e1, q, ob, if_pos c2, s_isOpen ⟨h3, h4⟩, eo, if_neg d, ob, if_neg (by decide), q2, ob, s_setPrice ⟨h3, h4⟩, ob, iv_one]
          · by_cases g : w = v
            · subst g
              rw [st_eq, if_pos (by omega)]
            · rw [st_nej (ix_ne hw1 h3 g), i2 w hw1 hw2]
              by_cases g2 : w < v
              · rw [if_pos g2, if_pos (by omega)]
              · rw [if_neg g2, if_neg (by omega)])
    S ⟨Fr.rf, fun w hw1 hw2 => by rw [if_neg (by omega)]⟩
  obtain ⟨S1, e, i1, i2⟩ := main
  refine ⟨S1, ?_, i1, fun w hw1 hw2 => by rw [i2 w hw1 hw2, if_pos (by omega), hN]⟩
  unfold f_X3_hear
  rw [c_m50]
  exact e
theorem s_bound {k : Nat} {S : QS} : ∃ S1, f_X3_bound k S = some S1 ∧ Fr [k] S S1 ∧ S1.1 k 0 = S.1 k 0 ∧ S1.1 k 1 = S.1 k 1 ∧
    ∃ bo to : Int, S1.1 k 2 = iv bo ∧ S1.1 k 3 = iv to ∧ -50 ≤ bo ∧ bo ≤ 51 ∧ -51 ≤ to ∧ to ≤ 50 ∧ ∀ w, -50 ≤ w → w ≤ 50 → S.1 (k + 1) (ix w) ≠ -1 → bo ≤ w ∧ w ≤ to := by
  have main := loop50 (fun fuel v s => lp_X3_bound_15 k fuel v s) id (fun v s => Fr [k] S s ∧ s.1 k 0 = S.1 k 0 ∧ s.1 k 1 = S.1 k 1 ∧
      ∃ bo to : Int, s.1 k 2 = iv bo ∧ s.1 k 3 = iv to ∧ -50 ≤ bo ∧ bo ≤ 51 ∧ -51 ≤ to ∧ to < v ∧ ∀ w, -50 ≤ w → w < v → S.1 (k + 1) (ix w) ≠ -1 → bo ≤ w ∧ w ≤ to)
    (fun fuel s => by
      show lp_X3_bound_15 k (fuel + 1) (iv 51) s = some s
      rw [lp_X3_bound_15, if_pos gt50])
    (fun fuel v s h3 h4 hI => by
      obtain ⟨i1, i2, i3, bo, to, j1, j2, j3, j4, j5, j6, j7⟩ := hI
      have eo : s.1 (k + 1) (ix v) = S.1 (k + 1) (ix v) := by rw [i1.1 (k + 1) (nm1 (by omega))]
      by_cases d : S.1 (k + 1) (ix v) = -1
      · refine ⟨s, ?_, i1, i2, i3, bo, to, j1, j2, j3, j4, j5, by omega, fun w hw1 hw2 hw3 => ?_⟩
        · show lp_X3_bound_15 k (fuel + 1) (iv v) s = lp_X3_bound_15 k fuel (iv (v + 1)) s
          rw [lp_X3_bound_15, if_neg (hi50 h4), s_isOpen ⟨h3, h4⟩, eo, if_pos d, ob, if_pos rfl, iv_one]
        · by_cases c : w = v
          · subst c
            exact absurd d hw3
          · exact j7 w hw1 (by omega) hw3
      · refine ⟨setF k 3 (iv v) (setF k 2 (if iv v < s.1 k 2 then iv v else s.1 k 2) s), ?_, (i1.tr (Fr.set (by simp))).tr (Fr.set (by simp)), by rw [st_nej (by decide), st_nej (by decide)]; exact i2, by rw [st_nej (by decide), st_nej (by decide)]; exact i3,
          (if v < bo then v else bo), v, ?_, st_eq _ _ _ _, by split <;> omega, by split <;> omega, by omega, by omega, fun w hw1 hw2 hw3 => ?_⟩
        · show lp_X3_bound_15 k (fuel + 1) (iv v) s = lp_X3_bound_15 k fuel (iv (v + 1)) _
          rw [lp_X3_bound_15, if_neg (hi50 h4), s_isOpen ⟨h3, h4⟩, eo, if_neg d, ob, if_neg (by decide)]
          show lp_X3_bound_15 k fuel (iv v + 1) _ = _
          rw [iv_one]
        · rw [st_nej (by decide), st_eq, j1]
          by_cases c : v < bo
          · rw [if_pos (y_lt (a := v) (b := bo) c), if_pos c]
          · rw [if_neg (n_lt (a := v) (b := bo) (by omega)), if_neg c]
        · by_cases c : w = v
          · subst c
            split <;> omega
          · have := j7 w hw1 (by omega) hw3
            split <;> omega)
    (setF k 3 (-51) (setF k 2 51 S)) ⟨(Fr.set (by simp)).tr (Fr.set (by simp)), by rw [st_nej (by decide), st_nej (by decide)], by rw [st_nej (by decide), st_nej (by decide)], 51, -51, by rw [st_nej (by decide), st_eq, c_51], by rw [st_eq, c_m51], by omega, by omega, by omega, by omega, fun w _ _ => by omega⟩
  obtain ⟨S1, e, i1, i2, i3, bo, to, j1, j2, j3, j4, j5, j6, j7⟩ := main
  refine ⟨S1, ?_, i1, i2, i3, bo, to, j1, j2, j3, j4, j5, by omega, fun w hw1 hw2 hw3 => j7 w hw1 (by omega) hw3⟩
  unfold f_X3_bound
  show lp_X3_bound_15 k FU (-50) (setF k 3 (-51) (setF k 2 51 S)) = some S1
  rw [c_m50]
  exact e
end
section
/-! THE DESK: prices at their least, a car cleared, its sums, FIRST joined to AT -/
theorem sq_b {v : Int} (h : -50 ≤ v ∧ v ≤ 50) : 0 ≤ v * v ∧ v * v ≤ 2500 := by
  have key : ∀ n : Nat, n ≤ 50 → 0 ≤ (n : Int) * n ∧ (n : Int) * n ≤ 2500 := fun n hn => by
    refine ⟨Int.mul_nonneg (by omega) (by omega), ?_⟩
    have := Nat.mul_le_mul hn hn
    omega
  by_cases c : 0 ≤ v
  · have := key v.toNat (by omega)
    rw [Int.toNat_of_nonneg c] at this
    exact this
  · have := key (-v).toNat (by omega)
    rw [Int.toNat_of_nonneg (by omega), Int.neg_mul_neg] at this
    exact this
def MinP (m : Int32) (P : Nat → Prop) : Prop := (m = -1 ∧ ∀ x, ¬ P x) ∨ ∃ x : Nat, m = iv (x : Int) ∧ x ≤ 1000000 ∧ P x ∧ ∀ y, P y → x ≤ y
theorem MinP.cg {m : Int32} {P Q : Nat → Prop} (h : MinP m P) (e : ∀ x, P x ↔ Q x) : MinP m Q := by
  rcases h with ⟨h1, h2⟩ | ⟨x, h1, h2, h3, h4⟩
  · exact Or.inl ⟨h1, fun x z => h2 x ((e x).mpr z)⟩
  · exact Or.inr ⟨x, h1, h2, (e x).mp h3, fun y z => h4 y ((e y).mpr z)⟩
theorem MinP.none {P : Nat → Prop} (h : ∀ x, ¬ P x) : MinP (-1) P := Or.inl ⟨rfl, h⟩
theorem iv_nm1 {x : Nat} (h : x ≤ 2000000) : iv (x : Int) ≠ -1 := by
  rw [c_m1]
  exact n_eq (by omega)
theorem MinP.ne {m : Int32} {P : Nat → Prop} (h : MinP m P) : m ≠ -1 ↔ ∃ x, P x := by
  rcases h with ⟨h1, h2⟩ | ⟨x, h1, h2, h3, h4⟩
  · exact ⟨fun z => absurd h1 z, fun ⟨x, z⟩ => absurd z (h2 x)⟩
  · exact ⟨fun _ => ⟨x, h3⟩, fun _ => by rw [h1]; exact iv_nm1 (by omega)⟩
theorem MinP.eqn {m : Int32} {P : Nat → Prop} (h : MinP m P) : m = -1 ↔ ∀ x, ¬ P x := by
  constructor
  · intro z x hx
    exact (h.ne.mpr ⟨x, hx⟩) z
  · intro z
    rcases h with ⟨h1, h2⟩ | ⟨x, h1, h2, h3, h4⟩
    · exact h1
    · exact absurd h3 (z x)
theorem MinP.add {m : Int32} {P : Nat → Prop} (h : MinP m P) {x : Nat} (hx : x ≤ 1000000) : MinP (if m = -1 then iv (x : Int) else if m ≤ iv (x : Int) then m else iv (x : Int)) (fun y => P y ∨ y = x) := by
  rcases h with ⟨h1, h2⟩ | ⟨z, h1, h2, h3, h4⟩
  · rw [if_pos h1]
    exact Or.inr ⟨x, rfl, hx, Or.inr rfl, fun y hy => hy.elim (fun q => absurd q (h2 y)) (fun q => by omega)⟩
  · rw [if_neg (by rw [h1]; exact iv_nm1 (by omega)), h1]
    by_cases c : z ≤ x
    · rw [if_pos (y_le (a := z) (b := x) (by omega))]
      exact Or.inr ⟨z, rfl, h2, Or.inl h3, fun y hy => hy.elim (fun q => h4 y q) (fun q => by omega)⟩
    · rw [if_neg (n_le (a := z) (b := x) (by omega))]
      exact Or.inr ⟨x, rfl, hx, Or.inr rfl, fun y hy => hy.elim (fun q => by have := h4 y q; omega) (fun q => by omega)⟩
/-- a fixed price on top -/
theorem MinP.plus {m : Int32} {P : Nat → Prop} (h : MinP m P) {d : Nat} (hd : d ≤ 100000) (hP : ∀ x, P x → x ≤ 100000) : MinP (if m = -1 then -1 else iv (d : Int) + m) (fun y => ∃ x, P x ∧ y = d + x) := by
  rcases h with ⟨h1, h2⟩ | ⟨z, h1, h2, h3, h4⟩
  · rw [if_pos h1]
    exact MinP.none (fun y ⟨x, hx, _⟩ => h2 x hx)
  · rw [if_neg (by rw [h1]; exact iv_nm1 (by omega)), h1, iv_add]
    have hz := hP z h3
    refine Or.inr ⟨d + z, by rw [Int.natCast_add], by omega, ⟨z, h3, rfl⟩, ?_⟩
    rintro y ⟨x, hx, rfl⟩
    have := h4 x hx
    omega
/-- a car's row of first fields: what skids take -/
theorem s_takenB {k : Nat} {v bl bg : Int} {S : QS} (hv : -50 ≤ v ∧ v ≤ 50) (h1 : S.1 k 7 = iv bl) (h2 : S.1 k 8 = iv bg) (b1 : -10000000 ≤ bl ∧ bl ≤ 10000000) (b3 : -10000000 ≤ bg ∧ bg ≤ 10000000) : f_X0_isTakenBehind k (iv v) S = some (b2 (decide (bl ≤ 51 * v * v) && decide (51 * v * v ≤ bg))) := by
  unfold f_X0_isTakenBehind
  have hb : 0 ≤ v * v ∧ v * v ≤ 2500 := sq_b hv
  have e : 51 * v * v = 51 * (v * v) := Int.mul_assoc _ _ _
  rw [c_51, iv_mul, iv_mul, h1, h2]
  exact q_btw (v := 51 * v * v) (lo := bl) (hi := bg)
theorem s_takenA {k : Nat} {v p al ag : Int} {S : QS} (hv : -50 ≤ v ∧ v ≤ 50) (hp : -50 ≤ p ∧ p ≤ 50) (h1 : S.1 k 5 = iv al) (h2 : S.1 k 6 = iv ag) (b1 : -10000000 ≤ al ∧ al ≤ 10000000) (b3 : -10000000 ≤ ag ∧ ag ≤ 10000000) : f_X0_isTakenAhead k (iv p) (iv v) S = some (b2 (decide (al ≤ 51 * (p * p - v * v)) && decide (51 * (p * p - v * v) ≤ ag))) := by
  unfold f_X0_isTakenAhead
  have hb : 0 ≤ v * v ∧ v * v ≤ 2500 := sq_b hv
  have hb2 : 0 ≤ p * p ∧ p * p ≤ 2500 := sq_b hp
  have e : 51 * p * p - 51 * v * v = 51 * (p * p - v * v) := by rw [Int.mul_assoc, Int.mul_assoc, Int.mul_sub]
  rw [c_51, iv_mul, iv_mul, iv_mul, iv_mul, iv_sub, h1, h2, e]
  exact q_btw (v := 51 * (p * p - v * v)) (lo := al) (hi := ag)
/-- bounds of the sums over skids -/
theorem sLn_b {V : Vw} (hV : VOk V) (w : Int) (c : Nat) (b : Bool) : ∀ n, n ≤ vNs V → 0 ≤ sLn V w c b n ∧ sLn V w c b n ≤ 300000 * n
  | 0, _ => by simp [sLn, fb_si]
  | n + 1, h => by
    have h1 := sLn_b hV w c b n (by omega)
    have h2 := hV.2.2.2.1 n (by omega)
    have e : sLn V w c b (n + 1) = sLn V w c b n + (if oq V w c b n then kLo V n else 0) := fb_si_succ _ _
    rw [e]
    split <;> omega
theorem sHn_b {V : Vw} (hV : VOk V) (w : Int) (c : Nat) (b : Bool) : ∀ n, n ≤ vNs V → 0 ≤ sHn V w c b n ∧ sHn V w c b n ≤ 300000 * n
  | 0, _ => by simp [sHn, fb_si]
  | n + 1, h => by
    have h1 := sHn_b hV w c b n (by omega)
    have h2 := hV.2.2.2.1 n (by omega)
    have e : sHn V w c b (n + 1) = sHn V w c b n + (if oq V w c b n then kHi V n else 0) := fb_si_succ _ _
    rw [e]
    split <;> omega
theorem sL_b {V : Vw} (hV : VOk V) (w : Int) (c : Nat) (b : Bool) : 0 ≤ sL V w c b ∧ sL V w c b ≤ 3600000 := by
  have := sLn_b hV w c b (vNs V) (Nat.le_refl _)
  have := hV.2.2.1
  unfold sL
  omega
theorem sH_b {V : Vw} (hV : VOk V) (w : Int) (c : Nat) (b : Bool) : 0 ≤ sH V w c b ∧ sH V w c b ≤ 3600000 := by
  have := sHn_b hV w c b (vNs V) (Nat.le_refl _)
  have := hV.2.2.1
  unfold sH
  omega
/-- FIRST of a pace, one way or the other -/
def ff (v p : Int) : Int := if 0 ≤ v then p else -p
theorem ff_b {v p : Int} (h : -50 ≤ p ∧ p ≤ 50) : -50 ≤ ff v p ∧ ff v p ≤ 50 := by unfold ff; split <;> omega
theorem ff_sq (v p : Int) : ff v p * ff v p = p * p := by
  unfold ff
  split
  · rfl
  · rw [Int.neg_mul_neg]
theorem fq_low {V : Vw} (hV : VOk V) {set : Nat} {w : Int} {c : Nat} {v p : Int} (hv : -50 ≤ v ∧ v ≤ 50) (hp : -50 ≤ p) (h : p < v ∨ p < -v) : fq V set w c (ff v p) v = false := by
  cases hq : fq V set w c (ff v p) v with
  | false => rfl
  | true =>
    exfalso
    unfold fq at hq
    simp only [Bool.and_eq_true] at hq
    obtain ⟨h1, -, h3⟩ := hq
    unfold tkA at h3
    simp only [Bool.and_eq_true, decide_eq_true_eq] at h3
    have h4 := (sL_b hV w c false).1
    have h5 := ff_sq v p
    rw [h5] at h3
    have h6 : v * v ≤ p * p := by omega
    have hpos : 0 < p ∨ (v = 0 ∧ 0 ≤ p) := by
      unfold sgq ff at h1
      by_cases c1 : 0 < v
      · rw [if_pos c1, if_pos (by omega), decide_eq_true_eq] at h1
        exact Or.inl h1
      · by_cases c2 : v < 0
        · rw [if_neg c1, if_pos c2, if_neg (by omega), decide_eq_true_eq] at h1
          exact Or.inl (by omega)
        · rw [if_neg c1, if_neg c2, if_pos (by omega), decide_eq_true_eq] at h1
          exact Or.inr ⟨by omega, h1⟩
    rcases hpos with z | ⟨z1, z2⟩
    · by_cases c1 : 0 ≤ v
      · have h7 : p < v := by omega
        have h8 : p * p < v * v := Int.lt_of_le_of_lt (Int.mul_le_mul_of_nonneg_left (Int.le_of_lt h7) (Int.le_of_lt z)) (Int.mul_lt_mul_of_pos_right h7 (by omega))
        omega
      · have h7 : p < -v := by omega
        have h8 : p * p < (-v) * (-v) := Int.lt_of_le_of_lt (Int.mul_le_mul_of_nonneg_left (Int.le_of_lt h7) (Int.le_of_lt z)) (Int.mul_lt_mul_of_pos_right h7 (by omega))
        rw [Int.neg_mul_neg] at h8
        omega
    · omega
theorem fq_hi {V : Vw} {set : Nat} {w : Int} {c : Nat} {v p : Int} (h : v ≤ p) (h2 : -v ≤ p) : fq V set w c (ff v p) v = (lq V set (3 * c) (ff v p) && (decide (sL V w c false ≤ 51 * (p * p - v * v)) && decide (51 * (p * p - v * v) ≤ sH V w c false))) := by
  have e : sgq (ff v p) v = true := by
    unfold sgq ff
    by_cases c1 : 0 < v
    · rw [if_pos c1, if_pos (by omega), decide_eq_true_eq]
      omega
    · by_cases c2 : v < 0
      · rw [if_neg c1, if_pos c2, if_neg (by omega), decide_eq_true_eq]
        omega
      · rw [if_neg c1, if_neg c2, if_pos (by omega), decide_eq_true_eq]
        omega
  unfold fq tkA
  rw [e, ff_sq, Bool.true_and]
/-- the numbers of FIRST for one AT, counted by pace -/
theorem nq_pace {V : Vw} {set : Nat} {w : Int} {c : Nat} {v : Int} : sm (fun p => if fq V set w c (ff v p) v then 1 else 0) = sm (fun f => if fq V set w c f v then 1 else 0) := by
  by_cases c1 : 0 ≤ v
  · refine sm_cong (fun p _ _ => ?_)
    simp only [ff, if_pos c1]
  · rw [← sm_rev (fun f => if fq V set w c f v then 1 else 0)]
    refine sm_cong (fun p _ _ => ?_)
    simp only [ff, if_neg c1]
/-- what a car's places hold before FIRST is joined -/
def CF (V : Vw) (set : Nat) (w : Int) (c k : Nat) (S : QS) : Prop := S.1 k 5 = iv (sL V w c false) ∧ S.1 k 6 = iv (sH V w c false) ∧ S.1 k 7 = iv (sL V w c true) ∧ S.1 k 8 = iv (sH V w c true) ∧ S.1 k 9 = b2 (decide (sN V w c true ≠ 0)) ∧ ∀ f, -50 ≤ f → f ≤ 50 → S.1 (k + 2) (ix f) = if lq V set (3 * c) f then iv (pq V (3 * c) f : Int) else -1
theorem CF.fr {V : Vw} {set : Nat} {w : Int} {c k : Nat} {S S1 : QS} (h : CF V set w c k S) (h1 : S1.1 k = S.1 k) (h2 : S1.1 (k + 2) = S.1 (k + 2)) : CF V set w c k S1 := by
  unfold CF at h ⊢
  rw [h1, h2]
  exact h
/-- the prices of FIRST for one AT -/
def PF (V : Vw) (set : Nat) (w : Int) (c : Nat) (v : Int) : Nat → Prop := fun x => ∃ f, -50 ≤ f ∧ f ≤ 50 ∧ fq V set w c f v = true ∧ x = pq V (3 * c) f
/-- the prices of AT with FIRST -/
def PA (V : Vw) (set : Nat) (w : Int) (c : Nat) (v : Int) : Nat → Prop := fun y => lq V set (3 * c + 1) v = true ∧ ∃ x, PF V set w c v x ∧ y = pq V (3 * c + 1) v + x
theorem pq_le {V : Vw} (hV : VOk V) (r : Nat) (v : Int) : pq V r v ≤ 11263 := pr_le hV.2.2.2.2.1
theorem iv_abs {v : Int} (h : -50 ≤ v ∧ v ≤ 50) : (if 0 ≤ iv v then iv v else 0 - iv v) = iv (if 0 ≤ v then v else -v) := by
  rw [c_0]
  by_cases c : 0 ≤ v
  · rw [if_pos (y_le (a := 0) (b := v) c), if_pos c]
  · rw [if_neg (n_le (a := 0) (b := v) (by omega)), if_neg c, iv_sub]
    congr 1
    omega
theorem s_join {V : Vw} (hV : VOk V) {set : Nat} {w : Int} {c k : Nat} {S : QS} (hc : CF V set w c k S) {v : Int} (hv : -50 ≤ v ∧ v ≤ 50) (hl : lq V set (3 * c + 1) v = true) (hp : S.1 (k + 5) (ix v) = iv (pq V (3 * c + 1) v : Int)) :
    ∃ y, MinP y (PA V set w c v) ∧ f_X0_joinFirsts k (iv v) S = some (setF (k + 5) (ix v) y (setF (k + 10) (ix v) (iv (nq V set w c v : Int)) S)) := by
  obtain ⟨c5, c6, -, -, -, cF⟩ := hc
  have b1 := sL_b hV w c false
  have b3 := sH_b hV w c false
  obtain ⟨v0, hv0⟩ : ∃ v0, v0 = if 0 ≤ v then v else -v := ⟨_, rfl⟩
  have hv1 : 0 ≤ v0 ∧ v0 ≤ 50 ∧ v ≤ v0 ∧ -v ≤ v0 := by rw [hv0]; split <;> omega
  obtain ⟨G, hG⟩ : ∃ G : Int → Nat, ∀ p, G p = if fq V set w c (ff v p) v then 1 else 0 := ⟨_, fun _ => rfl⟩
  have main := up_loop (fun fuel p (s : Int32 × Int32) => lp_X0_joinFirsts_10 k (iv v) S fuel s.1 s.2 p) (fun p s => s.1 = iv (smv G p : Int) ∧ MinP s.2 (fun x => ∃ q, v0 ≤ q ∧ q < p ∧ fq V set w c (ff v q) v = true ∧ x = pq V (3 * c) (ff v q))) v0 50
    (fun fuel p s h3 h4 hI => by
      obtain ⟨i1, i2⟩ := hI
      obtain ⟨s1, s2⟩ := s
      dsimp only at i1 i2
      subst i1
      have hpr : -50 ≤ p ∧ p ≤ 50 := by omega
      have hT := s_takenA (k := k) (S := S) hv hpr c5 c6 (by omega) (by omega)
      have hFQ := fq_hi (V := V) (set := set) (w := w) (c := c) (v := v) (p := p) (by omega) (by omega)
      have hff := ff_b (v := v) hpr
      have hFv := cF (ff v p) hff.1 hff.2
      have hS := smv_s G (v := p) (by omega)
      have hq : ((if b2 (decide (sL V w c false ≤ 51 * (p * p - v * v)) && decide (51 * (p * p - v * v) ≤ sH V w c false)) = 0 then (some (-1)) else ((f_X0_firstFor (iv p) (iv v)).bind fun v9 => (f_X3_priceOf (k + 1) v9 S).bind fun v11 => some v11)) : Option Int32) = some (if fq V set w c (ff v p) v = true then iv (pq V (3 * c) (ff v p) : Int) else -1) := by
        cases ht : (decide (sL V w c false ≤ 51 * (p * p - v * v)) && decide (51 * (p * p - v * v) ≤ sH V w c false)) with
        | false =>
          rw [if_pos (by decide), if_neg]
          rw [hFQ, ht, Bool.and_false]
          decide
        | true =>
          rw [if_neg (by decide), s_firstFor (by omega), ob, show (if 0 ≤ v then p else -p) = ff v p from rfl, s_priceOf hff, ob]
          show some (S.1 (k + 2) (ix (ff v p))) = _
          rw [hFv, hFQ, ht, Bool.and_true]
      by_cases g : fq V set w c (ff v p) v = true
      · rw [if_pos g] at hq
        have hx := pq_le hV (3 * c) (ff v p)
        refine ⟨(iv (smv G (p + 1) : Int), _), ?_, rfl, MinP.cg (i2.add (x := pq V (3 * c) (ff v p)) (by omega)) (fun x => ?_)⟩
        · show lp_X0_joinFirsts_10 k (iv v) S (fuel + 1) (iv (smv G p : Int)) s2 (iv p) = lp_X0_joinFirsts_10 k (iv v) S fuel (iv (smv G (p + 1) : Int)) _ (iv (p + 1))
          rw [lp_X0_joinFirsts_10, if_neg (hi50 h4), hT, ob, hq, ob, if_neg (iv_nm1 (by omega)), s_cheaper, ob, iv_one, iv_one, hS, hG, if_pos g]
          rfl
        · constructor
          · rintro (⟨q, h5, h6, h7, h8⟩ | h5)
            · exact ⟨q, h5, by omega, h7, h8⟩
            · exact ⟨p, h3, by omega, g, h5⟩
          · rintro ⟨q, h5, h6, h7, h8⟩
            by_cases e : q = p
            · subst e
              exact Or.inr h8
            · exact Or.inl ⟨q, h5, by omega, h7, h8⟩
      · rw [if_neg g] at hq
        refine ⟨(iv (smv G p : Int), s2), ?_, ?_, MinP.cg i2 (fun x => ?_)⟩
        · show lp_X0_joinFirsts_10 k (iv v) S (fuel + 1) (iv (smv G p : Int)) s2 (iv p) = lp_X0_joinFirsts_10 k (iv v) S fuel (iv (smv G p : Int)) s2 (iv (p + 1))
          rw [lp_X0_joinFirsts_10, if_neg (hi50 h4), hT, ob, hq, ob, if_pos rfl, iv_one]
        · show iv _ = iv _
          rw [hS, hG, if_neg g]
          rfl
        · constructor
          · rintro ⟨q, h5, h6, h7, h8⟩
            exact ⟨q, h5, by omega, h7, h8⟩
          · rintro ⟨q, h5, h6, h7, h8⟩
            by_cases e : q = p
            · subst e
              exact absurd h7 g
            · exact ⟨q, h5, by omega, h7, h8⟩)
    (51 - v0).toNat FU v0 (0, -1) (by omega) (by omega) (by show _ < 1100; omega) ⟨by
      show (0 : Int32) = iv _
      rw [smv_z (fun q h1 h2 => by rw [hG, fq_low hV hv h1 (by rw [hv0] at h2; split at h2 <;> omega)]; rfl)]
      decide, MinP.none (fun x ⟨q, h1, h2, _⟩ => by omega)⟩
  obtain ⟨⟨s1, s2⟩, f1, e1, i1, i2⟩ := main
  dsimp only at i1 i2 e1
  have e2 : lp_X0_joinFirsts_10 k (iv v) S FU 0 (-1) (iv v0) = some (iv (nq V set w c v : Int), s2) := by
    rw [e1, show (50 : Int) + 1 = 51 by rfl, lp_X0_joinFirsts_10, if_pos gt50, i1]
    have e3 : smv G (50 + 1) = nq V set w c v := by
      unfold nq
      rw [if_pos hl, ← nq_pace]
      exact sm_cong (fun p _ _ => hG p)
    rw [e3]
  have hM : MinP s2 (PF V set w c v) := i2.cg (fun x => by
    constructor
    · rintro ⟨q, h1, h2, h3, h4⟩
      have := ff_b (v := v) (p := q) (by omega)
      exact ⟨ff v q, this.1, this.2, h3, h4⟩
    · rintro ⟨f, h1, h2, h3, h4⟩
      have hff : ff v (ff v f) = f := by unfold ff; split <;> omega
      refine ⟨ff v f, ?_, ?_, by rw [hff]; exact h3, by rw [hff]; exact h4⟩
      · have hb := ff_b (v := v) (p := f) ⟨h1, h2⟩
        rcases Int.lt_or_le (ff v f) v0 with z | z
        · have := fq_low hV (set := set) (w := w) (c := c) hv hb.1 (p := ff v f) (by rw [hv0] at z; split at z <;> omega)
          rw [hff, h3] at this
          cases this
        · exact z
      · have := ff_b (v := v) (p := f) ⟨h1, h2⟩
        omega)
  have hPF : ∀ x, PF V set w c v x → x ≤ 100000 := fun x ⟨f, _, _, _, h⟩ => by
    have := pq_le hV (3 * c) f
    omega
  refine ⟨if s2 = -1 then -1 else iv (pq V (3 * c + 1) v : Int) + s2, (hM.plus (d := pq V (3 * c + 1) v) (by have := pq_le hV (3 * c + 1) v; omega) hPF).cg (fun y => ⟨fun z => ⟨hl, z⟩, fun z => z.2⟩), ?_⟩
  unfold f_X0_joinFirsts
  rw [iv_abs hv, ← hv0, e2, ob]
  dsimp only
  rw [if_neg (lo50 hv.1), if_neg (hi50 hv.2), wr50 hv, ob, ob]
  have eo : (setF (k + 10) (ix v) (iv (nq V set w c v : Int)) S).1 (k + 4 + 1) (ix v) = iv (pq V (3 * c + 1) v : Int) := by
    rw [st_nek (by omega)]
    exact hp
  have q3 : ((if s2 = (-1) then (some (-1)) else ((f_X3_priceOf (k + 4) (iv v) (setF (k + 10) (ix v) (iv (nq V set w c v : Int)) S)).bind fun v19 => some (v19 + s2))) : Option Int32) = some (if s2 = -1 then -1 else iv (pq V (3 * c + 1) v : Int) + s2) := by
    by_cases g : s2 = -1
    · rw [if_pos g, if_pos g]
    · rw [if_neg g, if_neg g, s_priceOf hv, ob, eo]
  rw [q3, ob, s_setPrice hv, ob]
end
section
/-! THE DESK: a car settled -/
def Bnd (S : QS) (k : Nat) : Prop := ∃ bo to : Int, S.1 k 2 = iv bo ∧ S.1 k 3 = iv to ∧ -50 ≤ bo ∧ bo ≤ 51 ∧ -51 ≤ to ∧ to ≤ 50 ∧ ∀ u, -50 ≤ u → u ≤ 50 → S.1 (k + 1) (ix u) ≠ -1 → bo ≤ u ∧ u ≤ to
theorem Bnd.fr {S S1 : QS} {k : Nat} (h : Bnd S k) (h1 : S1.1 k = S.1 k) (h2 : S1.1 (k + 1) = S.1 (k + 1)) : Bnd S1 k := by
  unfold Bnd at h ⊢
  rw [h1, h2]
  exact h
/-- a car's places once it is settled -/
def Set1 (V : Vw) (set : Nat) (w : Int) (c k : Nat) (u : Int) (S : QS) : Prop := MinP (S.1 (k + 5) (ix u)) (PA V set w c u) ∧ (S.1 (k + 5) (ix u) ≠ -1 → S.1 (k + 10) (ix u) = iv (nq V set w c u : Int)) ∧ S.1 (k + 8) (ix u) = if aq V set w c u then iv (pq V (3 * c + 2) u : Int) else -1
theorem Set1.fr {V : Vw} {set : Nat} {w : Int} {c k : Nat} {u : Int} {S S1 : QS} (h : Set1 V set w c k u S) (h1 : S1.1 (k + 5) (ix u) = S.1 (k + 5) (ix u)) (h2 : S1.1 (k + 10) (ix u) = S.1 (k + 10) (ix u)) (h3 : S1.1 (k + 8) (ix u) = S.1 (k + 8) (ix u)) : Set1 V set w c k u S1 := by
  unfold Set1 at h ⊢
  rw [h1, h2, h3]
  exact h
theorem s_after {V : Vw} (hV : VOk V) {set : Nat} {w : Int} {c k : Nat} {S : QS} (hc : CF V set w c k S) {v : Int} (hv : -50 ≤ v ∧ v ≤ 50) (hp : S.1 (k + 8) (ix v) = if lq V set (3 * c + 2) v then iv (pq V (3 * c + 2) v : Int) else -1) :
    ∃ S1, ((if (S.1 k 9) = 0 then (some S) else ((f_X0_isTakenBehind k (iv v) S).bind fun v6 => if v6 = 0 then ((f_X3_setPrice (k + 7) (iv v) (-1) S).bind fun S8 => some S8) else (some S))) : Option QS) = some S1 ∧ Fr [k + 8] S S1 ∧ (∀ u, -50 ≤ u → u ≠ v → S1.1 (k + 8) (ix u) = S.1 (k + 8) (ix u)) ∧ S1.1 (k + 8) (ix v) = if aq V set w c v then iv (pq V (3 * c + 2) v : Int) else -1 := by
  obtain ⟨-, -, c7, c8, c9, -⟩ := hc
  have b1 := sL_b hV w c true
  have b3 := sH_b hV w c true
  rw [c9, s_takenB hv c7 c8 (by omega) (by omega), ob]
  by_cases n0 : sN V w c true = 0
  · refine ⟨S, ?_, Fr.rf, fun u _ _ => rfl, ?_⟩
    · rw [if_pos (b2_0.mpr (by simp [n0]))]
    · rw [hp]
      have e : aq V set w c v = lq V set (3 * c + 2) v := by
        unfold aq tkB
        rw [decide_eq_true n0, Bool.true_or, Bool.and_true]
      rw [e]
  · rw [if_neg (b2_n.mpr (by simp [n0]))]
    have e : aq V set w c v = (lq V set (3 * c + 2) v && (decide (sL V w c true ≤ 51 * v * v) && decide (51 * v * v ≤ sH V w c true))) := by
      unfold aq tkB
      rw [decide_eq_false n0, Bool.false_or]
    cases ht : (decide (sL V w c true ≤ 51 * v * v) && decide (51 * v * v ≤ sH V w c true)) with
    | true =>
      refine ⟨S, by rw [if_neg (by decide)], Fr.rf, fun u _ _ => rfl, ?_⟩
      rw [hp, e, ht, Bool.and_true]
    | false =>
      refine ⟨setF (k + 8) (ix v) (-1) S, ?_, Fr.set (by simp), fun u hu hne => st_nej (ix_ne hu hv.1 hne), ?_⟩
      · rw [if_pos (by decide), s_setPrice hv, ob]
      · rw [st_eq, e, ht, Bool.and_false]
        rfl
theorem s_settle {V : Vw} (hV : VOk V) {set : Nat} {w : Int} {c k : Nat} {S : QS} (hc : CF V set w c k S)
    (hA : ∀ v, -50 ≤ v → v ≤ 50 → S.1 (k + 5) (ix v) = if lq V set (3 * c + 1) v then iv (pq V (3 * c + 1) v : Int) else -1) (hB : ∀ v, -50 ≤ v → v ≤ 50 → S.1 (k + 8) (ix v) = if lq V set (3 * c + 2) v then iv (pq V (3 * c + 2) v : Int) else -1) :
    ∃ S1, f_X0_settle k S = some S1 ∧ Fr [k + 4, k + 5, k + 7, k + 8, k + 10] S S1 ∧ (S1.1 (k + 4) 0 = S.1 (k + 4) 0 ∧ S1.1 (k + 4) 1 = S.1 (k + 4) 1 ∧ S1.1 (k + 7) 0 = S.1 (k + 7) 0 ∧ S1.1 (k + 7) 1 = S.1 (k + 7) 1) ∧
      (∀ u, -50 ≤ u → u ≤ 50 → Set1 V set w c k u S1) ∧ Bnd S1 (k + 4) ∧ Bnd S1 (k + 7) := by
  have main := loop50 (fun fuel v s => lp_X0_settle_3 k fuel v s) id (fun v s => Fr [k + 5, k + 8, k + 10] S s ∧ (∀ u, -50 ≤ u → u < v → Set1 V set w c k u s) ∧ ∀ u, v ≤ u → -50 ≤ u → s.1 (k + 5) (ix u) = S.1 (k + 5) (ix u) ∧ s.1 (k + 8) (ix u) = S.1 (k + 8) (ix u))
    (fun fuel s => by
      show lp_X0_settle_3 k (fuel + 1) (iv 51) s = some s
      rw [lp_X0_settle_3, if_pos gt50])
    (fun fuel v s h3 h4 hI => by
      obtain ⟨i1, i2, i3⟩ := hI
      have hv : -50 ≤ v ∧ v ≤ 50 := ⟨h3, h4⟩
      have hc1 : CF V set w c k s := hc.fr (i1.1 k (by simp)) (i1.1 (k + 2) (by simp))
      obtain ⟨s1, e1, f1, g1, g2⟩ := s_after hV hc1 hv (by rw [(i3 v (Int.le_refl v) h3).2]; exact hB v h3 h4)
      have hc2 : CF V set w c k s1 := hc1.fr (f1.1 k (by simp)) (f1.1 (k + 2) (by simp))
      have e5 : s1.1 (k + 5) = s.1 (k + 5) := f1.1 (k + 5) (by simp)
      have e10 : s1.1 (k + 10) = s.1 (k + 10) := f1.1 (k + 10) (by simp)
      have e5v : s1.1 (k + 5) (ix v) = if lq V set (3 * c + 1) v then iv (pq V (3 * c + 1) v : Int) else -1 := by rw [e5, (i3 v (Int.le_refl v) h3).1]; exact hA v h3 h4
      have hpq := pq_le hV (3 * c + 1) v
      cases hl : lq V set (3 * c + 1) v with
      | false =>
        rw [hl] at e5v
        have e5w : s1.1 (k + 4 + 1) (ix v) = -1 := e5v
        refine ⟨s1, ?_, i1.tr (f1.mono (by simp)), fun u hu1 hu2 => ?_, fun u hu1 hu2 => ?_⟩
        · show lp_X0_settle_3 k (fuel + 1) (iv v) s = lp_X0_settle_3 k fuel (iv (v + 1)) s1
          rw [lp_X0_settle_3, if_neg (hi50 h4), e1, ob, s_isOpen hv, e5w, if_pos rfl, ob, if_pos rfl, iv_one]
        · by_cases cu : u = v
          · subst cu
            refine ⟨?_, fun z => absurd e5v z, g2⟩
            rw [show s1.1 (k + 5) (ix u) = -1 from e5v]
            exact MinP.none (fun x hx => by
              unfold PA at hx
              rw [hl] at hx
              exact absurd hx.1 (by decide))
          · exact (i2 u hu1 (by omega)).fr (by rw [e5]) (by rw [e10]) (g1 u hu1 cu)
        · exact ⟨by rw [e5]; exact (i3 u (by omega) hu2).1, by rw [g1 u hu2 (by omega)]; exact (i3 u (by omega) hu2).2⟩
      | true =>
        rw [hl] at e5v
        have e5w : s1.1 (k + 4 + 1) (ix v) = iv (pq V (3 * c + 1) v : Int) := e5v
        obtain ⟨y, hy, ey⟩ := s_join hV hc2 hv hl e5v
        refine ⟨setF (k + 5) (ix v) y (setF (k + 10) (ix v) (iv (nq V set w c v : Int)) s1), ?_, ((i1.tr (f1.mono (by simp))).tr (Fr.set (by simp))).tr (Fr.set (by simp)), fun u hu1 hu2 => ?_, fun u hu1 hu2 => ?_⟩
        · show lp_X0_settle_3 k (fuel + 1) (iv v) s = lp_X0_settle_3 k fuel (iv (v + 1)) _
          rw [lp_X0_settle_3, if_neg (hi50 h4), e1, ob, s_isOpen hv, e5w, if_neg (iv_nm1 (by omega)), ob, if_neg (by decide), ey, ob, iv_one]
        · by_cases cu : u = v
          · subst cu
            refine ⟨by rw [st_eq]; exact hy, fun _ => by rw [st_nek (by omega), st_eq], ?_⟩
            rw [st_nek (by omega), st_nek (by omega)]
            exact g2
          · have hn := ix_ne hu1 h3 cu
            exact (i2 u hu1 (by omega)).fr (by rw [st_nej hn, st_nek (by omega), e5]) (by rw [st_nek (by omega), st_nej hn, e10]) (by rw [st_nek (by omega), st_nek (by omega)]; exact g1 u hu1 cu)
        · have hn := ix_ne hu2 h3 (by omega : u ≠ v)
          exact ⟨by rw [st_nej hn, st_nek (by omega), e5]; exact (i3 u (by omega) hu2).1, by rw [st_nek (by omega), st_nek (by omega), g1 u hu2 (by omega)]; exact (i3 u (by omega) hu2).2⟩)
    S ⟨Fr.rf, fun u hu1 hu2 => by omega, fun u _ _ => ⟨rfl, rfl⟩⟩
  obtain ⟨s1, e1, i1, i2, -⟩ := main
  obtain ⟨s2, e2, f2, j1, j2, j3⟩ := s_bound (k := k + 4) (S := s1)
  obtain ⟨s3, e3, f3, l1, l2, l3⟩ := s_bound (k := k + 7) (S := s2)
  have hb1 : Bnd s2 (k + 4) := by
    obtain ⟨bo, to, p1, p2, p3, p4, p5, p6, p7⟩ := j3
    exact ⟨bo, to, p1, p2, p3, p4, p5, p6, fun u h1 h2 h3 => p7 u h1 h2 (by rw [← f2.1 (k + 4 + 1) (by simp)]; exact h3)⟩
  have hb2 : Bnd s3 (k + 7) := by
    obtain ⟨bo, to, p1, p2, p3, p4, p5, p6, p7⟩ := l3
    exact ⟨bo, to, p1, p2, p3, p4, p5, p6, fun u h1 h2 h3 => p7 u h1 h2 (by rw [← f3.1 (k + 7 + 1) (by simp)]; exact h3)⟩
  refine ⟨s3, ?_, ((i1.mono (by simp)).tr (f2.mono (by simp))).tr (f3.mono (by simp)), ⟨?_, ?_, ?_, ?_⟩, fun u hu1 hu2 => ?_, hb1.fr (f3.1 _ (by simp)) (f3.1 _ (by simp)), hb2⟩
  · unfold f_X0_settle
    rw [c_m50]
    have e1 : lp_X0_settle_3 k FU (iv (-50)) S = some s1 := e1
    rw [e1, ob, e2, ob, e3, ob]
  · rw [f3.1 (k + 4) (by simp), j1, i1.1 (k + 4) (by simp)]
  · rw [f3.1 (k + 4) (by simp), j2, i1.1 (k + 4) (by simp)]
  · rw [l1, f2.1 (k + 7) (by simp), i1.1 (k + 7) (by simp)]
  · rw [l2, f2.1 (k + 7) (by simp), i1.1 (k + 7) (by simp)]
  · exact (i2 u hu1 (by omega)).fr (by rw [f3.1 (k + 5) (by simp), f2.1 (k + 5) (by simp)]) (by rw [f3.1 (k + 10) (by simp), f2.1 (k + 10) (by simp)]) (by rw [f3.1 (k + 8) (by simp), f2.1 (k + 8) (by simp)])
end
section
/-! THE DESK: a car cleared, a skid added -/
theorem s_carclear {k : Nat} {S : QS} {lo hi : Nat → Int} (hb : ∀ j, -1000 ≤ lo j ∧ lo j ≤ 1000 ∧ -1000 ≤ hi j ∧ hi j ≤ 1000) (hS : ∀ j, j = 1 ∨ j = 4 ∨ j = 7 → S.1 (k + j) 0 = iv (lo j) ∧ S.1 (k + j) 1 = iv (hi j)) :
    ∃ S1, f_X0_clear k S = some S1 ∧ Fr [k, k + 2, k + 3, k + 5, k + 6, k + 8, k + 9] S S1 ∧ S1.1 k 0 = S.1 k 0 ∧ S1.1 k 5 = 0 ∧ S1.1 k 6 = 0 ∧ S1.1 k 7 = 0 ∧ S1.1 k 8 = 0 ∧ S1.1 k 9 = 0 ∧
      ∀ j, j = 1 ∨ j = 4 ∨ j = 7 → ∀ u, -50 ≤ u → u ≤ 50 → S1.1 (k + j + 1) (ix u) = (if lo j ≤ u ∧ u ≤ hi j then 0 else -1) ∧ S1.1 (k + j + 2) (ix u) = 0 := by
  obtain ⟨s1, e1, f1, g1⟩ := s_clear (k := k + 1) (S := S) (hS 1 (Or.inl rfl)).1 (hS 1 (Or.inl rfl)).2 ⟨(hb 1).1, (hb 1).2.1⟩ ⟨(hb 1).2.2.1, (hb 1).2.2.2⟩
  obtain ⟨s2, e2, f2, g2⟩ := s_clear (k := k + 4) (S := s1) (by rw [f1.1 (k + 4) (by simp)]; exact (hS 4 (Or.inr (Or.inl rfl))).1) (by rw [f1.1 (k + 4) (by simp)]; exact (hS 4 (Or.inr (Or.inl rfl))).2) ⟨(hb 4).1, (hb 4).2.1⟩ ⟨(hb 4).2.2.1, (hb 4).2.2.2⟩
  obtain ⟨s3, e3, f3, g3⟩ := s_clear (k := k + 7) (S := s2) (by rw [f2.1 (k + 7) (by simp), f1.1 (k + 7) (by simp)]; exact (hS 7 (Or.inr (Or.inr rfl))).1) (by rw [f2.1 (k + 7) (by simp), f1.1 (k + 7) (by simp)]; exact (hS 7 (Or.inr (Or.inr rfl))).2) ⟨(hb 7).1, (hb 7).2.1⟩ ⟨(hb 7).2.2.1, (hb 7).2.2.2⟩
  obtain ⟨s4, hs4⟩ : ∃ s4, s4 = setF k 9 0 (setF k 8 0 (setF k 7 0 (setF k 6 0 (setF k 5 0 s3)))) := ⟨_, rfl⟩
  have fk : ∀ j, j ≠ k → s4.1 j = s3.1 j := fun j hj => by rw [hs4, st_nek hj, st_nek hj, st_nek hj, st_nek hj, st_nek hj]
  have f4 : Fr [k] s3 s4 := ⟨fun j hj => fk j (fun z => hj (by simp [z])), fun j hj => by rw [hs4]; rfl⟩
  refine ⟨s4, ?_, (((f1.mono (by simp)).tr (f2.mono (by simp))).tr (f3.mono (by simp))).tr (f4.mono (by simp)), ?_, ?_, ?_, ?_, ?_, ?_, ?_⟩
  · unfold f_X0_clear
    rw [e1, ob, e2, ob, e3, ob, hs4]
    show (stZ k 9 0 (setF k 8 0 (setF k 7 0 (setF k 6 0 (setF k 5 0 s3))))).bind _ = _
    rw [stZ_ok (Or.inl rfl), ob]
  · rw [hs4, st_nej (by decide), st_nej (by decide), st_nej (by decide), st_nej (by decide), st_nej (by decide), f3.1 k (by simp <;> omega), f2.1 k (by simp <;> omega), f1.1 k (by simp <;> omega)]
  · rw [hs4, st_nej (by decide), st_nej (by decide), st_nej (by decide), st_nej (by decide), st_eq]
  · rw [hs4, st_nej (by decide), st_nej (by decide), st_nej (by decide), st_eq]
  · rw [hs4, st_nej (by decide), st_nej (by decide), st_eq]
  · rw [hs4, st_nej (by decide), st_eq]
  · rw [hs4, st_eq]
  · rintro j (rfl | rfl | rfl) u hu1 hu2
    · rw [fk (k + 1 + 1) (by omega), fk (k + 1 + 2) (by omega), f3.1 (k + 1 + 1) (by simp), f3.1 (k + 1 + 2) (by simp), f2.1 (k + 1 + 1) (by simp), f2.1 (k + 1 + 2) (by simp)]
      exact g1 u hu1 hu2
    · rw [fk (k + 4 + 1) (by omega), fk (k + 4 + 2) (by omega), f3.1 (k + 4 + 1) (by simp), f3.1 (k + 4 + 2) (by simp)]
      exact g2 u hu1 hu2
    · rw [fk (k + 7 + 1) (by omega), fk (k + 7 + 2) (by omega)]
      exact g3 u hu1 hu2
/-- a car's sums -/
def Sums (k : Nat) (al ag bl bg : Int) (bn : Bool) (S : QS) : Prop := S.1 k 5 = iv al ∧ S.1 k 6 = iv ag ∧ S.1 k 7 = iv bl ∧ S.1 k 8 = iv bg ∧ S.1 k 9 = b2 bn
theorem s_add {k t : Nat} {al ag bl bg lo hi : Int} {bn b : Bool} {S : QS} (hk : t ≠ k) (h : Sums k al ag bl bg bn S) (hb : S.1 t 1 = b2 b) (hl : S.1 t 2 = iv lo) (hh : S.1 t 3 = iv hi) :
    ∃ S1, f_X0_add k t S = some S1 ∧ Fr [k] S S1 ∧ S1.1 k 0 = S.1 k 0 ∧ Sums k (if b then al else al + lo) (if b then ag else ag + hi) (if b then bl + lo else bl) (if b then bg + hi else bg) (bn || b) S1 := by
  obtain ⟨h5, h6, h7, h8, h9⟩ := h
  unfold f_X0_add
  cases b with
  | false =>
    refine ⟨setF k 6 (iv (ag + hi)) (setF k 5 (iv (al + lo)) S), ?_, (Fr.set (by simp)).tr (Fr.set (by simp)), by rw [st_nej (by decide), st_nej (by decide)], ?_, ?_, ?_, ?_, ?_⟩
    · rw [if_pos (by rw [hb]; rfl)]
      show some (setF k 6 _ _) = _
      rw [st_nej (by decide), st_nek hk, h5, h6, hl, hh, iv_add, iv_add]
    · rw [st_nej (by decide), st_eq]; rfl
    · rw [st_eq]; rfl
    · rw [st_nej (by decide), st_nej (by decide)]; exact h7
    · rw [st_nej (by decide), st_nej (by decide)]; exact h8
    · rw [st_nej (by decide), st_nej (by decide), Bool.or_false]; exact h9
  | true =>
    refine ⟨setF k 9 1 (setF k 8 (iv (bg + hi)) (setF k 7 (iv (bl + lo)) S)), ?_, ((Fr.set (by simp)).tr (Fr.set (by simp))).tr (Fr.set (by simp)), by rw [st_nej (by decide), st_nej (by decide), st_nej (by decide)], ?_, ?_, ?_, ?_, ?_⟩
    · rw [if_neg (by rw [hb]; decide)]
      show (stZ k 9 1 (setF k 8 _ _)).bind _ = _
      rw [stZ_ok (Or.inr rfl), ob, st_nej (by decide), st_nek hk, h7, h8, hl, hh, iv_add, iv_add]
    · rw [st_nej (by decide), st_nej (by decide), st_nej (by decide)]; exact h5
    · rw [st_nej (by decide), st_nej (by decide), st_nej (by decide)]; exact h6
    · rw [st_nej (by decide), st_nej (by decide), st_eq]; rfl
    · rw [st_nej (by decide), st_eq]; rfl
    · rw [st_eq, Bool.or_true]; rfl
/-! what the desk was told, by its places -/
def kp (r : Nat) : Nat := 27 + 3 * (r % 3) + 11 * (r / 3)
def DR (V : Vw) (S : QS) : Prop := (S.1 26 0 = iv (vM V 0) ∧ S.1 37 0 = iv (vM V 1)) ∧ (∀ r, r < 6 → S.1 (kp r) 0 = iv (vLo V r) ∧ S.1 (kp r) 1 = iv (vHi V r)) ∧ S.1 0 2 = iv (vNs V : Int) ∧ S.1 0 3 = iv (vNt V : Int) ∧
  (∀ s, s < vNs V → S.1 (2 + s) 0 = iv (kCar V s : Int) ∧ S.1 (2 + s) 1 = b2 (kBeh V s) ∧ S.1 (2 + s) 2 = iv (kLo V s) ∧ S.1 (2 + s) 3 = iv (kHi V s) ∧ S.1 (2 + s) 4 = b2 (kOn V s)) ∧
  ∀ t, t < vNt V → S.1 (15 + t) 0 = iv ((tRow V t / 3 : Nat) : Int) ∧ S.1 (15 + t) 1 = iv ((tRow V t % 3 : Nat) : Int) ∧ S.1 (15 + t) 2 = iv (tLo V t) ∧ S.1 (15 + t) 3 = iv (tHi V t)
/-- the places that keep what was told -/
def Dk (S S1 : QS) : Prop := S1.1 0 2 = S.1 0 2 ∧ S1.1 0 3 = S.1 0 3 ∧ (∀ k, 1 ≤ k → k ≤ 24 → S1.1 k = S.1 k) ∧ (S1.1 26 0 = S.1 26 0 ∧ S1.1 37 0 = S.1 37 0) ∧ ∀ r, r < 6 → S1.1 (kp r) 0 = S.1 (kp r) 0 ∧ S1.1 (kp r) 1 = S.1 (kp r) 1
theorem Dk.tr {S S1 S2 : QS} (h : Dk S S1) (h2 : Dk S1 S2) : Dk S S2 := ⟨h2.1.trans h.1, h2.2.1.trans h.2.1, fun k a b => (h2.2.2.1 k a b).trans (h.2.2.1 k a b), ⟨h2.2.2.2.1.1.trans h.2.2.2.1.1, h2.2.2.2.1.2.trans h.2.2.2.1.2⟩, fun r hr => ⟨(h2.2.2.2.2 r hr).1.trans (h.2.2.2.2 r hr).1, (h2.2.2.2.2 r hr).2.trans (h.2.2.2.2 r hr).2⟩⟩
theorem Dk.rf {S : QS} : Dk S S := ⟨rfl, rfl, fun _ _ _ => rfl, ⟨rfl, rfl⟩, fun _ _ => ⟨rfl, rfl⟩⟩
theorem kp_cases {r : Nat} (h : r < 6) : kp r = 27 ∨ kp r = 30 ∨ kp r = 33 ∨ kp r = 38 ∨ kp r = 41 ∨ kp r = 44 := by
  rcases (show r = 0 ∨ r = 1 ∨ r = 2 ∨ r = 3 ∨ r = 4 ∨ r = 5 by omega) with rfl | rfl | rfl | rfl | rfl | rfl <;> decide
/-- nothing told stands at these places -/
theorem Dk.of {P : List Nat} {S S1 : QS} (h : Fr P S S1) (hP : ∀ k, k ∈ P → 25 ≤ k ∧ k ≠ 26 ∧ k ≠ 37 ∧ k ≠ 27 ∧ k ≠ 30 ∧ k ≠ 33 ∧ k ≠ 38 ∧ k ≠ 41 ∧ k ≠ 44) : Dk S S1 := by
  have ne : ∀ k, (k < 25 ∨ k = 26 ∨ k = 37 ∨ k = 27 ∨ k = 30 ∨ k = 33 ∨ k = 38 ∨ k = 41 ∨ k = 44) → S1.1 k = S.1 k := fun k hk => h.1 k (fun z => by have := hP k z; omega)
  refine ⟨by rw [ne 0 (by omega)], by rw [ne 0 (by omega)], fun k h1 h2 => ne k (by omega), ⟨by rw [ne 26 (by omega)], by rw [ne 37 (by omega)]⟩, fun r hr => ?_⟩
  have := kp_cases hr
  rw [ne (kp r) (by omega)]
  exact ⟨rfl, rfl⟩
theorem DR.dk {V : Vw} {S S1 : QS} (hV : VOk V) (h : DR V S) (hd : Dk S S1) : DR V S1 := by
  obtain ⟨h1, h2, h3, h4, h5, h6⟩ := h
  have n1 := hV.2.2.1
  have n2 := hV.2.2.2.2.1
  refine ⟨⟨hd.2.2.2.1.1.trans h1.1, hd.2.2.2.1.2.trans h1.2⟩, fun r hr => ⟨(hd.2.2.2.2 r hr).1.trans (h2 r hr).1, (hd.2.2.2.2 r hr).2.trans (h2 r hr).2⟩, hd.1.trans h3, hd.2.1.trans h4, fun s hs => ?_, fun t ht => ?_⟩
  · rw [hd.2.2.1 (2 + s) (by omega) (by omega)]
    exact h5 s hs
  · rw [hd.2.2.1 (15 + t) (by omega) (by omega)]
    exact h6 t ht
end
section
/-! THE DESK: its tales heard, its skids added -/
/-- the prices of a row by the first n tales -/
def Pz (V : Vw) (set n : Nat) (r : Nat) (S : QS) : Prop := ∀ u, -50 ≤ u → u ≤ 50 → S.1 (kp r + 1) (ix u) = if ltN V set r u n then iv (prN V r u n : Int) else -1
theorem kp_ne {r r2 : Nat} (h : r < 6) (h2 : r2 < 6) (hne : r ≠ r2) : kp r + 1 ≠ kp r2 + 1 ∧ kp r + 2 ≠ kp r2 + 1 ∧ kp r ≠ kp r2 + 1 := by
  rcases (show r = 0 ∨ r = 1 ∨ r = 2 ∨ r = 3 ∨ r = 4 ∨ r = 5 by omega) with rfl | rfl | rfl | rfl | rfl | rfl <;> rcases (show r2 = 0 ∨ r2 = 1 ∨ r2 = 2 ∨ r2 = 3 ∨ r2 = 4 ∨ r2 = 5 by omega) with rfl | rfl | rfl | rfl | rfl | rfl <;> first | exact absurd rfl hne | decide
theorem kp_pick {r : Nat} (h : r < 6) (S S2 : QS) : (f_X1_pick (iv ((r / 3 : Nat) : Int)) S).bind (fun c => f_X0_pick c (iv ((r % 3 : Nat) : Int)) S2) = some (kp r) := by
  rcases (show r = 0 ∨ r = 1 ∨ r = 2 ∨ r = 3 ∨ r = 4 ∨ r = 5 by omega) with rfl | rfl | rfl | rfl | rfl | rfl
  · rfl
  · rfl
  · rfl
  · rfl
  · rfl
  · rfl
theorem shl_iv {i : Nat} (h : i < 31) : (1 : Int32) <<< (iv (i : Int) &&& 31) = nI (2 ^ i) := (show ∀ i : Nat, i < 31 → (1 : Int32) <<< (iv (i : Int) &&& 31) = nI (2 ^ i) by decide +kernel) i h
theorem pow10 {i : Nat} (h : i < 10) : 2 ^ i ≤ 512 := by
  have := Nat.pow_le_pow_right (n := 2) (by decide) (show i ≤ 9 by omega)
  exact this
theorem ask_iv {set i : Nat} (h : i < 10) : ((if (nI set &&& nI (2 ^ i)) = 0 then (some ((1024 : Int32) + nI (2 ^ i))) else (some (-1))) : Option Int32) = some (if set.testBit i then -1 else iv ((1024 + 2 ^ i : Nat) : Int)) := by
  have hb := fa_bit (n := set) (j := i) (by omega)
  cases ht : set.testBit i with
  | true =>
    rw [if_neg (fun z => by rw [hb.mp z] at ht; cases ht), if_pos rfl]
  | false =>
    rw [if_pos (hb.mpr ht), if_neg (by decide), iv_nI, c_1024, iv_add]
    rfl
theorem ltN_s (V : Vw) (set r : Nat) (u : Int) (n : Nat) : ltN V set r u (n + 1) = (ltN V set r u n && !(tB V r u n && set.testBit n)) := by
  unfold ltN
  rw [allB_s]
  simp only [Bool.and_assoc]
theorem prN_s (V : Vw) (r : Nat) (u : Int) (n : Nat) : prN V r u (n + 1) = prN V r u n + if tB V r u n then 1024 + 2 ^ n else 0 := fb_sm_succ _ _
theorem Pz.other {V : Vw} {set n r : Nat} {S S1 : QS} (h : Pz V set n r S) (hr : tRow V n ≠ r) (hs : S1.1 (kp r + 1) = S.1 (kp r + 1)) : Pz V set (n + 1) r S1 := by
  intro u h1 h2
  have e : tB V r u n = false := by unfold tB; rw [decide_eq_false hr, Bool.false_and]
  rw [hs, ltN_s, prN_s, e, Bool.false_and, Bool.not_false, Bool.and_true, if_neg (by decide : ¬ (false = true)), Nat.add_zero]
  exact h u h1 h2
theorem s_tales {V : Vw} (hV : VOk V) {set : Nat} (hset : set < 1024) {S : QS} (hD : DR V S) (hP : ∀ r, r < 6 → Pz V set 0 r S) :
    ∃ S1, lp_X5_reckon_46 (nI set) FU 0 S = some S1 ∧ Fr [28, 31, 34, 39, 42, 45] S S1 ∧ ∀ r, r < 6 → Pz V set (vNt V) r S1 := by
  have hn := hV.2.2.2.2.1
  have main := loopN (fun fuel v s => lp_X5_reckon_46 (nI set) fuel v s) id (fun n s => Fr [28, 31, 34, 39, 42, 45] S s ∧ ∀ r, r < 6 → Pz V set n r s) (vNt V) (by omega)
    (fun fuel s hI => by
      have hd := hD.dk hV (Dk.of hI.1 (by decide))
      show lp_X5_reckon_46 (nI set) (fuel + 1) (iv (vNt V : Int)) s = some s
      rw [lp_X5_reckon_46, hd.2.2.2.1, if_pos (y_le (a := (vNt V : Int)) (b := (vNt V : Int)) (Int.le_refl _))])
    (fun fuel n s hlt hI => by
      obtain ⟨i1, i2⟩ := hI
      have hd := hD.dk hV (Dk.of i1 (by decide))
      obtain ⟨t0, t1, t2, t3⟩ := hd.2.2.2.2.2 n hlt
      have hr := (hV.2.2.2.2.2 n hlt)
      have hk := kp_cases hr.1
      obtain ⟨s1, e1, f1, g1⟩ := s_hear (k := kp (tRow V n)) (t := 15 + n) (a := if set.testBit n then -1 else iv ((1024 + 2 ^ n : Nat) : Int)) (S := s) (by omega) t2 t3 (by omega) (by omega)
      have hp := pow10 (i := n) (by omega)
      refine ⟨s1, ?_, i1.tr (f1.mono (fun j hj => by
        simp only [List.mem_cons, List.not_mem_nil, or_false] at hj ⊢
        omega)), fun r hr6 => ?_⟩
      · show lp_X5_reckon_46 (nI set) (fuel + 1) (iv (n : Int)) s = lp_X5_reckon_46 (nI set) fuel (iv ((n + 1 : Nat) : Int)) s1
        have e2 := kp_pick hr.1 s s
        have e4 := ask_iv (set := set) (i := n) (by omega)
        rw [lp_X5_reckon_46, hd.2.2.2.1, if_neg (n_le (a := (vNt V : Int)) (b := (n : Int)) (by omega)), rq_iv (by omega), ob, t0, t1, shl_iv (by omega), e4]
        cases hpk : f_X1_pick (iv ((tRow V n / 3 : Nat) : Int)) s with
        | none =>
          rw [hpk] at e2
          cases e2
        | some c =>
          rw [hpk, ob] at e2
          rw [ob, e2, ob, ob, e1, ob, iv_one]
          rfl
      · by_cases hrow : tRow V n = r
        · subst hrow
          intro u h1 h2
          rw [g1 u h1 h2, i2 _ hr6 u h1 h2, ltN_s, prN_s]
          have e : tB V (tRow V n) u n = !(decide (tLo V n ≤ u) && decide (u ≤ tHi V n)) := by unfold tB; rw [decide_eq_true rfl, Bool.true_and]
          rw [e]
          cases hb : (decide (tLo V n ≤ u) && decide (u ≤ tHi V n)) with
          | true =>
            rw [if_pos rfl, Bool.not_true, Bool.false_and, Bool.not_false, Bool.and_true, if_neg (by decide : ¬ (false = true)), Nat.add_zero]
          | false =>
            have hpr := pr_le (V := V) (r := tRow V n) (v := u) (n := n) (by omega)
            rw [if_neg (by decide), Bool.not_false, Bool.true_and, if_pos (rfl : (true = true))]
            cases hl : ltN V set (tRow V n) u n with
            | false =>
              rw [if_neg (by decide : ¬ (false = true)), if_pos rfl, Bool.false_and]
              rfl
            | true =>
              rw [if_pos (rfl : (true = true)), if_neg (iv_nm1 (by omega)), Bool.true_and]
              cases ht : set.testBit n with
              | true =>
                rw [if_pos (rfl : (true = true)), if_pos rfl]
                rfl
              | false =>
                rw [if_neg (by decide : ¬ (false = true)), if_neg (iv_nm1 (by omega)), iv_add]
                rfl
        · have hne := kp_ne hr6 hr.1 (fun z => hrow z.symm)
          exact (i2 r hr6).other hrow (f1.1 _ (by simp <;> omega)))
    S ⟨Fr.rf, hP⟩
  obtain ⟨s1, e1, i1, i2⟩ := main
  exact ⟨s1, by rw [c_0]; exact e1, i1, i2⟩
end
section
/-! THE DESK: its skids added to the cars' sums -/
theorem Dk.of2 {P : List Nat} {S S1 : QS} (h : Fr P S S1) (hP : ∀ k, k ∈ P → 25 ≤ k ∧ k ≠ 27 ∧ k ≠ 30 ∧ k ≠ 33 ∧ k ≠ 38 ∧ k ≠ 41 ∧ k ≠ 44) (h1 : S1.1 26 0 = S.1 26 0) (h2 : S1.1 37 0 = S.1 37 0) : Dk S S1 := by
  have ne : ∀ k, (k < 25 ∨ k = 27 ∨ k = 30 ∨ k = 33 ∨ k = 38 ∨ k = 41 ∨ k = 44) → S1.1 k = S.1 k := fun k hk => h.1 k (fun z => by have := hP k z; omega)
  refine ⟨by rw [ne 0 (by omega)], by rw [ne 0 (by omega)], fun k h1 h2 => ne k (by omega), ⟨h1, h2⟩, fun r hr => ?_⟩
  have := kp_cases hr
  rw [ne (kp r) (by omega)]
  exact ⟨rfl, rfl⟩
def SS (V : Vw) (w : Int) (c k n : Nat) (S : QS) : Prop := Sums k (sLn V w c false n) (sHn V w c false n) (sLn V w c true n) (sHn V w c true n) (decide (sNn V w c true n ≠ 0)) S
theorem Sums.fr {k : Nat} {al ag bl bg : Int} {bn : Bool} {S S1 : QS} (h : Sums k al ag bl bg bn S) (h1 : S1.1 k = S.1 k) : Sums k al ag bl bg bn S1 := by
  unfold Sums at h ⊢
  rw [h1]
  exact h
theorem sLn_s (V : Vw) (w : Int) (c : Nat) (b : Bool) (n : Nat) : sLn V w c b (n + 1) = sLn V w c b n + (if oq V w c b n then kLo V n else 0) := fb_si_succ _ _
theorem sHn_s (V : Vw) (w : Int) (c : Nat) (b : Bool) (n : Nat) : sHn V w c b (n + 1) = sHn V w c b n + (if oq V w c b n then kHi V n else 0) := fb_si_succ _ _
theorem sNn_s (V : Vw) (w : Int) (c : Nat) (b : Bool) (n : Nat) : sNn V w c b (n + 1) = sNn V w c b n + (if oq V w c b n then 1 else 0) := fb_sm_succ _ _
theorem SS.skip {V : Vw} {w : Int} {c k n : Nat} {S : QS} (h : SS V w c k n S) (ho : ∀ b, oq V w c b n = false) : SS V w c k (n + 1) S := by
  unfold SS at h ⊢
  rw [sLn_s, sHn_s, sLn_s, sHn_s, sNn_s, ho, ho, if_neg (by decide), if_neg (by decide), if_neg (by decide), Int.add_zero, Int.add_zero, Int.add_zero, Int.add_zero, Nat.add_zero]
  exact h
theorem SS.add {V : Vw} {w : Int} {c k n : Nat} {S1 : QS} (h1 : oq V w c (kBeh V n) n = true) (h2 : oq V w c (!kBeh V n) n = false)
    (h : Sums k (if kBeh V n then sLn V w c false n else sLn V w c false n + kLo V n) (if kBeh V n then sHn V w c false n else sHn V w c false n + kHi V n) (if kBeh V n then sLn V w c true n + kLo V n else sLn V w c true n) (if kBeh V n then sHn V w c true n + kHi V n else sHn V w c true n) (decide (sNn V w c true n ≠ 0) || kBeh V n) S1) : SS V w c k (n + 1) S1 := by
  unfold SS
  rw [sLn_s, sHn_s, sLn_s, sHn_s, sNn_s]
  cases hb : kBeh V n with
  | true =>
    rw [hb] at h h1 h2
    rw [Bool.not_true] at h2
    rw [h1, h2]
    simp only [if_true, Bool.or_true] at h
    simp only [if_true, Bool.false_eq_true, if_false, Int.add_zero]
    have e : decide (sNn V w c true n + 1 ≠ 0) = true := decide_eq_true (by omega)
    rw [e]
    exact h
  | false =>
    rw [hb] at h h1 h2
    rw [Bool.not_false] at h2
    rw [h1, h2]
    simp only [Bool.false_eq_true, if_false, Bool.or_false] at h
    simp only [if_true, Bool.false_eq_true, if_false, Int.add_zero, Nat.add_zero]
    exact h
theorem pick_iv {c : Nat} (h : c < 2) (S : QS) : f_X1_pick (iv (c : Int)) S = some (26 + 11 * c) := by
  rcases (show c = 0 ∨ c = 1 by omega) with rfl | rfl
  · rfl
  · rfl
theorem s_skids {V : Vw} (hV : VOk V) {w : Int} (hw : -1 ≤ w ∧ w ≤ 100) {S : QS} (hD : DR V S) (h0 : SS V w 0 26 0 S) (h1 : SS V w 1 37 0 S) :
    ∃ S1, lp_X5_reckon_121 (iv w) FU 0 S = some S1 ∧ Fr [26, 37] S S1 ∧ (S1.1 26 0 = S.1 26 0 ∧ S1.1 37 0 = S.1 37 0) ∧ SS V w 0 26 (vNs V) S1 ∧ SS V w 1 37 (vNs V) S1 := by
  have hn := hV.2.2.1
  have main := loopN (fun fuel v s => lp_X5_reckon_121 (iv w) fuel v s) id (fun n s => Fr [26, 37] S s ∧ (s.1 26 0 = S.1 26 0 ∧ s.1 37 0 = S.1 37 0) ∧ SS V w 0 26 n s ∧ SS V w 1 37 n s) (vNs V) (by omega)
    (fun fuel s hI => by
      have hd := hD.dk hV (Dk.of2 hI.1 (by decide) hI.2.1.1 hI.2.1.2)
      show lp_X5_reckon_121 (iv w) (fuel + 1) (iv (vNs V : Int)) s = some s
      rw [lp_X5_reckon_121, hd.2.2.1, if_pos (y_le (a := (vNs V : Int)) (b := (vNs V : Int)) (Int.le_refl _))])
    (fun fuel n s hlt hI => by
      obtain ⟨i1, i2, i3, i4⟩ := hI
      have hd := hD.dk hV (Dk.of2 i1 (by decide) i2.1 i2.2)
      obtain ⟨t0, t1, t2, t3, t4⟩ := hd.2.2.2.2.1 n hlt
      have hs := hV.2.2.2.1 n hlt
      have head : ∀ X : Option QS, (if b2 (kOn V n) = 0 then lp_X5_reckon_121 (iv w) fuel (iv (n : Int) + 1) s else if iv (n : Int) = iv w then lp_X5_reckon_121 (iv w) fuel (iv (n : Int) + 1) s else ((f_X0_add (26 + 11 * kCar V n) (2 + n) s).bind fun S29 => lp_X5_reckon_121 (iv w) fuel (iv (n : Int) + 1) S29)) = X → lp_X5_reckon_121 (iv w) (fuel + 1) (iv (n : Int)) s = X := by
        rintro X rfl
        rw [lp_X5_reckon_121, hd.2.2.1, if_neg (n_le (a := (vNs V : Int)) (b := (n : Int)) (by omega)), rq_iv (by omega), ob, t4, ob, t0, pick_iv hs.1, ob, ob]
      by_cases hon : kOn V n = true ∧ (n : Int) ≠ w
      · obtain ⟨ho, hnw⟩ := hon
        have q1 : oq V w (kCar V n) (kBeh V n) n = true := by simp [oq, ho, hnw]
        have q2 : oq V w (kCar V n) (!kBeh V n) n = false := by cases hb : kBeh V n <;> simp [oq, hb]
        have q3 : ∀ c b, c ≠ kCar V n → oq V w c b n = false := fun c b hc => by
          have e : decide (kCar V n = c) = false := decide_eq_false (fun z => hc z.symm)
          unfold oq
          rw [e, Bool.false_and, Bool.and_false, Bool.and_false]
        rcases (show kCar V n = 0 ∨ kCar V n = 1 by omega) with hc | hc
        · obtain ⟨s1, e1, f1, g0, g1⟩ := s_add (k := 26) (t := 2 + n) (b := kBeh V n) (by omega) i3 t1 t2 t3
          refine ⟨s1, ?_, i1.tr (f1.mono (by simp)), ⟨g0.trans i2.1, by rw [f1.1 37 (by decide)]; exact i2.2⟩, ?_, (SS.skip (i4 : SS V w 1 37 n s) (fun b => q3 1 b (by omega))).fr (f1.1 37 (by decide))⟩
          · refine head _ ?_
            rw [if_neg (b2_n.mpr ho), if_neg (n_eq hnw), hc, show 26 + 11 * 0 = 26 from rfl, e1, ob, iv_one]
            rfl
          · rw [hc] at q1 q2
            exact SS.add q1 q2 g1
        · obtain ⟨s1, e1, f1, g0, g1⟩ := s_add (k := 37) (t := 2 + n) (b := kBeh V n) (by omega) i4 t1 t2 t3
          refine ⟨s1, ?_, i1.tr (f1.mono (by simp)), ⟨by rw [f1.1 26 (by decide)]; exact i2.1, g0.trans i2.2⟩, (SS.skip (i3 : SS V w 0 26 n s) (fun b => q3 0 b (by omega))).fr (f1.1 26 (by decide)), ?_⟩
          · refine head _ ?_
            rw [if_neg (b2_n.mpr ho), if_neg (n_eq hnw), hc, show 26 + 11 * 1 = 37 from rfl, e1, ob, iv_one]
            rfl
          · rw [hc] at q1 q2
            exact SS.add q1 q2 g1
      · have q3 : ∀ c b, oq V w c b n = false := fun c b => by
          cases ho : kOn V n with
          | false => simp [oq, ho]
          | true =>
            have hnw : (n : Int) = w := Decidable.byContradiction (fun z => hon ⟨ho, z⟩)
            simp [oq, hnw]
        refine ⟨s, ?_, i1, i2, SS.skip i3 (q3 0), SS.skip i4 (q3 1)⟩
        refine head _ ?_
        cases ho : kOn V n with
        | false =>
          rw [if_pos (b2_0.mpr rfl), iv_one]
          rfl
        | true =>
          have hnw : (n : Int) = w := Decidable.byContradiction (fun z => hon ⟨ho, z⟩)
          rw [if_neg (by decide), if_pos (by rw [hnw]), iv_one]
          rfl)
    S ⟨Fr.rf, ⟨rfl, rfl⟩, h0, h1⟩
  obtain ⟨s1, e1, i1, i2, i3, i4⟩ := main
  exact ⟨s1, by rw [c_0]; exact e1, i1, i2, i3, i4⟩
end
section
/-! longs that count; the masses' shares; one push's meetings -/
theorem lN_le0 {n : Nat} (h : n < 2 ^ 63) : (lg_cmp (lN n) 0 ≤ 0) ↔ n = 0 := by
  rw [lg_cmp_le, show (0 : Int64) = lN 0 from rfl, fa_le64, show (lN n).toInt = (n : Int) from lg_ofNat_toInt h, show (lN 0).toInt = 0 by decide]
  omega
theorem lN_eq0 {n : Nat} (h : n < 2 ^ 63) : (lg_cmp (lN n) 0 = 0) ↔ n = 0 := by
  unfold lg_cmp
  have e0 : (lN 0).toInt = 0 := by decide
  have e1 : (lN n).toInt = (n : Int) := lg_ofNat_toInt h
  rw [show (0 : Int64) = lN 0 from rfl]
  by_cases c : n = 0
  · subst c
    simp
  · have : lN n > lN 0 := by
      show lN 0 < lN n
      rw [fa_lt64, e0, e1]
      omega
    rw [if_pos this]
    simp [c]
theorem s_share {m o : Nat} (hm : 1 ≤ m ∧ m ≤ 100) (ho : 1 ≤ o ∧ o ≤ 100) : f_X1_lowestShare (iv (m : Int)) (iv (o : Int)) = some (iv ((m / Nat.gcd m o : Nat) : Int)) := by
  have hg : 1 ≤ Nat.gcd m o := Nat.gcd_pos_of_pos_left o (by omega)
  have hgm : Nat.gcd m o ∣ m := Nat.gcd_dvd_left m o
  have hgo : Nat.gcd m o ∣ o := Nat.gcd_dvd_right m o
  have hg100 : Nat.gcd m o ≤ 100 := Nat.le_trans (Nat.le_of_dvd (by omega) hgm) hm.2
  have rem : ∀ {x p : Nat}, x ≤ 100 → 1 ≤ p → p ≤ 100 → rmI (iv (x : Int)) (iv (p : Int)) = some (iv ((x % p : Nat) : Int)) := fun {x p} hx hp hp2 => by
    rw [rm_iv, ← Int.ofNat_tdiv]
    have e := Nat.div_add_mod x p
    have e2 : ((x % p : Nat) : Int) = (x : Int) - ((x / p : Nat) : Int) * (p : Int) := by
      have h := congrArg (Nat.cast : Nat → Int) e
      rw [Int.natCast_add, Int.natCast_mul] at h
      rw [Int.mul_comm ((x / p : Nat) : Int)]
      omega
    rw [e2]
  have key : ∀ p fuel : Nat, p < fuel → p ≤ 100 → Nat.gcd m o ≤ p → lp_X1_lowestShare_3 (iv (m : Int)) (iv (o : Int)) fuel (iv (p : Int)) = some (iv ((m / Nat.gcd m o : Nat) : Int)) := by
    intro p
    induction p with
    | zero => intro fuel _ _ h; omega
    | succ p ih =>
      intro fuel hf hp hgp
      obtain ⟨f1, rfl⟩ : ∃ f1, fuel = f1 + 1 := ⟨fuel - 1, by omega⟩
      rw [lp_X1_lowestShare_3]
      by_cases c1 : p = 0
      · subst c1
        have e : Nat.gcd m o = 1 := by omega
        rw [if_pos (by decide), e, Nat.div_one]
      · have u1 := Nat.mod_lt m (Nat.succ_pos p)
        have u2 := Nat.mod_lt o (Nat.succ_pos p)
        rw [if_neg (by rw [c_1]; exact n_le (by omega)), rem hm.2 (by omega) hp, ob]
        have down : Nat.gcd m o ≠ p + 1 → lp_X1_lowestShare_3 (iv (m : Int)) (iv (o : Int)) f1 (iv ((p + 1 : Nat) : Int) + (-1)) = some (iv ((m / Nat.gcd m o : Nat) : Int)) := fun hne => by
          rw [iv_m1, show ((p + 1 : Nat) : Int) - 1 = (p : Int) by omega]
          exact ih f1 (by omega) (by omega) (by omega)
        by_cases c2 : m % (p + 1) = 0
        · rw [c2, if_pos (by decide), rem ho.2 (by omega) hp, ob]
          by_cases c3 : o % (p + 1) = 0
          · have hd : p + 1 ∣ Nat.gcd m o := Nat.dvd_gcd (Nat.dvd_of_mod_eq_zero c2) (Nat.dvd_of_mod_eq_zero c3)
            have e : Nat.gcd m o = p + 1 := by
              have := Nat.le_of_dvd (by omega) hd
              omega
            rw [c3, if_pos (by decide), dv_iv, ob, ← Int.ofNat_tdiv, e]
          · generalize hz : o % (p + 1) = z9 at c3 u2 ⊢
            rw [if_neg (by rw [c_0]; exact n_eq (by omega))]
            exact down (fun z => c3 (hz ▸ Nat.mod_eq_zero_of_dvd (z ▸ hgo)))
        · generalize hz : m % (p + 1) = z9 at c2 u1 ⊢
          rw [if_neg (by rw [c_0]; exact n_eq (by omega))]
          exact down (fun z => c2 (hz ▸ Nat.mod_eq_zero_of_dvd (z ▸ hgm)))
  unfold f_X1_lowestShare
  rw [c_100]
  exact key 100 FU (by decide) (by decide) hg100
end
section
/-! one push: the meetings of one AT of car 0 -/
theorem MinP.join {m n : Int32} {P Q : Nat → Prop} (h : MinP m P) (h2 : MinP n Q) (hn : n ≠ -1) : MinP (if m = -1 then n else if m ≤ n then m else n) (fun x => P x ∨ Q x) := by
  rcases h2 with ⟨z, -⟩ | ⟨y, g1, g2, g3, g4⟩
  · exact absurd z hn
  · rcases h with ⟨h1, h2⟩ | ⟨z, h1, h2, h3, h4⟩
    · rw [if_pos h1]
      exact Or.inr ⟨y, g1, g2, Or.inr g3, fun x hx => hx.elim (fun q => absurd q (h2 x)) (g4 x)⟩
    · rw [if_neg (by rw [h1]; exact iv_nm1 (by omega)), h1, g1]
      by_cases c : z ≤ y
      · rw [if_pos (y_le (a := z) (b := y) (by omega))]
        exact Or.inr ⟨z, rfl, h2, Or.inl h3, fun x hx => hx.elim (h4 x) (fun q => by have := g4 x q; omega)⟩
      · rw [if_neg (n_le (a := z) (b := y) (by omega))]
        exact Or.inr ⟨y, rfl, g2, Or.inr g3, fun x hx => hx.elim (fun q => by have := h4 x q; omega) (g4 x)⟩
theorem MinP.shift {m : Int32} {P : Nat → Prop} (h : MinP m P) (hm : m ≠ -1) {d : Nat} (hd : d ≤ 100000) (hP : ∀ x, P x → x ≤ 500000) : MinP (m + iv (d : Int)) (fun y => ∃ x, P x ∧ y = x + d) ∧ m + iv (d : Int) ≠ -1 := by
  rcases h with ⟨h1, h2⟩ | ⟨z, h1, h2, h3, h4⟩
  · exact absurd h1 hm
  · have hz := hP z h3
    have e : m + iv (d : Int) = iv ((z + d : Nat) : Int) := by rw [h1, iv_add]; rfl
    rw [e]
    refine ⟨Or.inr ⟨z + d, rfl, by omega, ⟨z, h3, rfl⟩, ?_⟩, iv_nm1 (by omega)⟩
    rintro y ⟨x, hx, rfl⟩
    have := h4 x hx
    omega
theorem PA_le {V : Vw} (hV : VOk V) {set : Nat} {w : Int} {c : Nat} {v : Int} {x : Nat} (h : PA V set w c v x) : x ≤ 22526 := by
  obtain ⟨-, y, ⟨f, -, -, -, rfl⟩, rfl⟩ := h
  have h1 := pq_le hV (3 * c) f
  have h2 := pq_le hV (3 * c + 1) v
  omega
theorem PA_ex {V : Vw} {set : Nat} {w : Int} {c : Nat} {v : Int} : (∃ x, PA V set w c v x) ↔ 0 < nq V set w c v := by
  unfold nq
  constructor
  · rintro ⟨x, h1, y, ⟨f, h2, h3, h4, -⟩, -⟩
    rw [if_pos h1, sm_pos]
    exact ⟨f, h2, h3, by rw [if_pos h4]; decide⟩
  · intro h
    cases hl : lq V set (3 * c + 1) v with
    | false =>
      rw [hl, if_neg (by decide)] at h
      omega
    | true =>
      rw [hl, if_pos rfl, sm_pos] at h
      obtain ⟨f, h2, h3, h4⟩ := h
      cases hf : fq V set w c f v with
      | false =>
        rw [hf, if_neg (by decide)] at h4
        omega
      | true => exact ⟨_, hl, _, ⟨f, h2, h3, hf, rfl⟩, rfl⟩
def okq (V : Vw) (set : Nat) (w G k b : Int) : Bool := decide (0 < nq V set w 1 b) && aq V set w 1 (b + k * G)
def rgq (L G a k b : Int) : Bool := decide (a - k * (L + G) ≤ b) && decide (k * (L + G) ≤ 2 * (a - b))
def mtq (V : Vw) (set : Nat) (w L G a k b : Int) : Nat := if rgq L G a k b && okq V set w G k b then nq V set w 1 b else 0
/-- the prices of car 1, one push -/
def PB (V : Vw) (set : Nat) (w L G a k : Int) (P : Int → Prop) : Nat → Prop := fun x => ∃ b, -50 ≤ b ∧ b ≤ 50 ∧ P b ∧ (rgq L G a k b && okq V set w G k b) = true ∧ ∃ y, PA V set w 1 b y ∧ x = y + pq V 5 (b + k * G)
theorem s_meetloop {V : Vw} (hV : VOk V) {set : Nat} {w L G a k : Int} {S : QS} (hG : S.1 25 5 = iv G) (h1 : ∀ u, -50 ≤ u → u ≤ 50 → Set1 V set w 1 37 u S) {fr to : Int} (hft : fr ≤ to + 1) (hfr : -50 ≤ fr) (hto : to ≤ 50)
    (hin : ∀ b, fr ≤ b → b ≤ to → -50 ≤ b + k * G ∧ b + k * G ≤ 50 ∧ rgq L G a k b = true) (hout : ∀ b, -50 ≤ b → b ≤ 50 → (rgq L G a k b && okq V set w G k b) = true → fr ≤ b ∧ b ≤ to) :
    ∃ (pr : Int32) (S1 : QS), lp_X1_meet_122 (iv k) S (iv to) FU 0 (-1) (iv fr) S = some (lN (sm (mtq V set w L G a k)), pr, S1) ∧ MinP pr (PB V set w L G a k (fun _ => True)) ∧ Fr [43, 46] S S1 ∧
      (∀ u, -50 ≤ u → u ≤ 50 → S1.1 43 (ix u) = if (rgq L G a k u && okq V set w G k u) = true then 1 else S.1 43 (ix u)) ∧
      (∀ u, -50 ≤ u → u ≤ 50 → (-50 ≤ u - k * G ∧ u - k * G ≤ 50 → S1.1 46 (ix u) = if (rgq L G a k (u - k * G) && okq V set w G k (u - k * G)) = true then 1 else S.1 46 (ix u)) ∧ (¬ (-50 ≤ u - k * G ∧ u - k * G ≤ 50) → S1.1 46 (ix u) = S.1 46 (ix u))) := by
  have main := up_loop (fun fuel b (s : Int64 × Int32 × QS) => lp_X1_meet_122 (iv k) S (iv to) fuel s.1 s.2.1 b s.2.2)
    (fun b s => s.1 = lN (smv (mtq V set w L G a k) b) ∧ MinP s.2.1 (PB V set w L G a k (fun b2 => b2 < b)) ∧ Fr [43, 46] S s.2.2 ∧ (∀ u, -50 ≤ u → u ≤ 50 → s.2.2.1 43 (ix u) = if (rgq L G a k u && okq V set w G k u) = true ∧ u < b then 1 else S.1 43 (ix u)) ∧
      ∀ u, -50 ≤ u → u ≤ 50 → s.2.2.1 46 (ix u) = if (-50 ≤ u - k * G ∧ u - k * G ≤ 50) ∧ (rgq L G a k (u - k * G) && okq V set w G k (u - k * G)) = true ∧ u - k * G < b then 1 else S.1 46 (ix u)) fr to
    (fun fuel b s h3 h4 hI => by
      obtain ⟨w6, v7, s⟩ := s
      obtain ⟨i1, i2, i3, i4, i5⟩ := hI
      dsimp only at i1 i2 i3 i4 i5
      obtain ⟨p1, p2, p3⟩ := hin b h3 h4
      have hb : -50 ≤ b ∧ b ≤ 50 := by omega
      obtain ⟨j1, j2, -⟩ := h1 b hb.1 hb.2
      have j3 := (h1 (b + k * G) p1 p2).2.2
      have e42 : s.1 42 (ix b) = S.1 42 (ix b) := by rw [i3.1 42 (by decide)]
      have e45 : s.1 45 (ix (b + k * G)) = S.1 45 (ix (b + k * G)) := by rw [i3.1 45 (by decide)]
      have e47 : s.1 47 (ix b) = S.1 47 (ix b) := by rw [i3.1 47 (by decide)]
      have hS := smv_s (mtq V set w L G a k) (v := b) hb.1
      have skip : okq V set w G k b = false → lp_X1_meet_122 (iv k) S (iv to) (fuel + 1) w6 v7 (iv b) s = lp_X1_meet_122 (iv k) S (iv to) fuel w6 v7 (iv (b + 1)) s → ∃ s1 : Int64 × Int32 × QS, lp_X1_meet_122 (iv k) S (iv to) (fuel + 1) w6 v7 (iv b) s = lp_X1_meet_122 (iv k) S (iv to) fuel s1.1 s1.2.1 (iv (b + 1)) s1.2.2 ∧ (s1.1 = lN (smv (mtq V set w L G a k) (b + 1)) ∧ MinP s1.2.1 (PB V set w L G a k (fun b2 => b2 < b + 1)) ∧ Fr [43, 46] S s1.2.2 ∧ (∀ u, -50 ≤ u → u ≤ 50 → s1.2.2.1 43 (ix u) = if (rgq L G a k u && okq V set w G k u) = true ∧ u < b + 1 then 1 else S.1 43 (ix u)) ∧
          ∀ u, -50 ≤ u → u ≤ 50 → s1.2.2.1 46 (ix u) = if (-50 ≤ u - k * G ∧ u - k * G ≤ 50) ∧ (rgq L G a k (u - k * G) && okq V set w G k (u - k * G)) = true ∧ u - k * G < b + 1 then 1 else S.1 46 (ix u)) := fun ho hl => by
        have lift : ∀ u, (rgq L G a k u && okq V set w G k u) = true → (u < b + 1 ↔ u < b) := fun u hu => by
          constructor
          · intro z
            rcases Int.lt_or_eq_of_le (show u ≤ b by omega) with q | q
            · exact q
            · subst q
              rw [ho, Bool.and_false] at hu
              cases hu
          · intro z
            omega
        refine ⟨(w6, v7, s), hl, ?_, i2.cg (fun x => ?_), i3, fun u hu1 hu2 => ?_, fun u hu1 hu2 => ?_⟩
        · show w6 = _
          rw [i1, hS]
          unfold mtq
          rw [ho, Bool.and_false, if_neg (by decide)]
          rfl
        · constructor
          · rintro ⟨b2, q1, q2, q3, q4, q5⟩
            exact ⟨b2, q1, q2, (lift b2 q4).mpr q3, q4, q5⟩
          · rintro ⟨b2, q1, q2, q3, q4, q5⟩
            exact ⟨b2, q1, q2, (lift b2 q4).mp q3, q4, q5⟩
        · show s.1 43 (ix u) = _
          rw [i4 u hu1 hu2]
          by_cases c : (rgq L G a k u && okq V set w G k u) = true
          · simp only [c, lift u c]
          · rw [if_neg (fun z => c z.1), if_neg (fun z => c z.1)]
        · show s.1 46 (ix u) = _
          rw [i5 u hu1 hu2]
          by_cases c : (rgq L G a k (u - k * G) && okq V set w G k (u - k * G)) = true
          · simp only [c, lift _ c]
          · rw [if_neg (fun z => c z.2.1), if_neg (fun z => c z.2.1)]
      have head : lp_X1_meet_122 (iv k) S (iv to) (fuel + 1) w6 v7 (iv b) s = if S.1 42 (ix b) = -1 then lp_X1_meet_122 (iv k) S (iv to) fuel w6 v7 (iv (b + 1)) s else if S.1 45 (ix (b + k * G)) = -1 then lp_X1_meet_122 (iv k) S (iv to) fuel w6 v7 (iv (b + 1)) s else
          lp_X1_meet_122 (iv k) S (iv to) fuel (w6 + (S.1 47 (ix b)).toInt64) (if v7 = -1 then S.1 42 (ix b) + S.1 45 (ix (b + k * G)) else if v7 ≤ S.1 42 (ix b) + S.1 45 (ix (b + k * G)) then v7 else S.1 42 (ix b) + S.1 45 (ix (b + k * G))) (iv (b + 1)) (setF 46 (ix (b + k * G)) 1 (setF 43 (ix b) 1 s)) := by
        rw [lp_X1_meet_122, if_neg (n_lt (a := to) (b := b) h4), hG, iv_mul, iv_add, rd50 hb, ob, rd50 ⟨p1, p2⟩, ob, e42, e45, iv_one]
        by_cases c1 : S.1 42 (ix b) = -1
        · rw [if_pos c1, if_pos c1]
        · rw [if_neg c1, if_neg c1]
          by_cases c2 : S.1 45 (ix (b + k * G)) = -1
          · rw [if_pos c2, if_pos c2]
          · rw [if_neg c2, if_neg c2, rd50 hb, ob, e47, s_cheaper, ob, wz50 hb (Or.inr rfl), ob, wz50 ⟨p1, p2⟩ (Or.inr rfl), ob]
      by_cases c1 : S.1 42 (ix b) = -1
      · refine skip ?_ (by rw [head, if_pos c1])
        have : ¬ 0 < nq V set w 1 b := fun z => by
          obtain ⟨x, hx⟩ := PA_ex.mpr z
          exact (j1.eqn.mp c1) x hx
        unfold okq
        rw [decide_eq_false this, Bool.false_and]
      · have hnq : 0 < nq V set w 1 b := PA_ex.mp (j1.ne.mp c1)
        have e45b : S.1 45 (ix (b + k * G)) = if aq V set w 1 (b + k * G) then iv (pq V 5 (b + k * G) : Int) else -1 := j3
        have hpq := pq_le hV 5 (b + k * G)
        cases ha : aq V set w 1 (b + k * G) with
        | false =>
          rw [ha, if_neg (by decide)] at e45b
          refine skip ?_ (by rw [head, if_neg c1, if_pos e45b])
          unfold okq
          rw [ha, Bool.and_false]
        | true =>
          rw [ha, if_pos rfl] at e45b
          have ho : okq V set w G k b = true := by
            unfold okq
            rw [ha, decide_eq_true hnq]
            rfl
          have hm : (rgq L G a k b && okq V set w G k b) = true := by rw [p3, ho]; rfl
          have e47b : (S.1 47 (ix b)).toInt64 = lN (nq V set w 1 b) := by
            have e9 : S.1 47 (ix b) = iv (nq V set w 1 b : Int) := j2 c1
            have hle := na_le (V := V) (set := set) (w := w) (c := 1) (a := b)
            rw [e9, iv_long (x := (nq V set w 1 b : Int)) (by omega)]
            rfl
          obtain ⟨m1, m2⟩ := j1.shift c1 (d := pq V 5 (b + k * G)) (by omega) (fun x hx => by have := PA_le hV hx; omega)
          have m1 : MinP (S.1 42 (ix b) + S.1 45 (ix (b + k * G))) (fun y => ∃ x, PA V set w 1 b x ∧ y = x + pq V 5 (b + k * G)) := by rw [e45b]; exact m1
          have m2 : S.1 42 (ix b) + S.1 45 (ix (b + k * G)) ≠ -1 := by rw [e45b]; exact m2
          refine ⟨(lN (smv (mtq V set w L G a k) (b + 1)), (if v7 = -1 then S.1 42 (ix b) + S.1 45 (ix (b + k * G)) else if v7 ≤ S.1 42 (ix b) + S.1 45 (ix (b + k * G)) then v7 else S.1 42 (ix b) + S.1 45 (ix (b + k * G))), setF 46 (ix (b + k * G)) 1 (setF 43 (ix b) 1 s)), ?_, rfl, MinP.cg (i2.join m1 m2) (fun x => ?_), (i3.tr (Fr.set (by simp))).tr (Fr.set (by simp)), fun u hu1 hu2 => ?_, fun u hu1 hu2 => ?_⟩
          · show lp_X1_meet_122 (iv k) S (iv to) (fuel + 1) w6 v7 (iv b) s = lp_X1_meet_122 (iv k) S (iv to) fuel (lN (smv (mtq V set w L G a k) (b + 1))) (if v7 = -1 then S.1 42 (ix b) + S.1 45 (ix (b + k * G)) else if v7 ≤ S.1 42 (ix b) + S.1 45 (ix (b + k * G)) then v7 else S.1 42 (ix b) + S.1 45 (ix (b + k * G))) (iv (b + 1)) (setF 46 (ix (b + k * G)) 1 (setF 43 (ix b) 1 s))
            have e : mtq V set w L G a k b = nq V set w 1 b := by unfold mtq; rw [hm, if_pos rfl]
            rw [head, if_neg c1, if_neg (by rw [e45b]; exact iv_nm1 (by omega)), e47b, i1, lN_add, hS, e]
          · constructor
            · rintro (⟨b2, q1, q2, q3, q4, q5⟩ | ⟨y, q1, q2⟩)
              · exact ⟨b2, q1, q2, by omega, q4, q5⟩
              · exact ⟨b, hb.1, hb.2, by omega, hm, y, q1, q2⟩
            · rintro ⟨b2, q1, q2, q3, q4, y, q5, q6⟩
              by_cases c : b2 = b
              · subst c
                exact Or.inr ⟨y, q5, q6⟩
              · exact Or.inl ⟨b2, q1, q2, by omega, q4, y, q5, q6⟩
          · show (setF 46 (ix (b + k * G)) 1 (setF 43 (ix b) 1 s)).1 43 (ix u) = _
            rw [st_nek (by decide)]
            by_cases c : u = b
            · subst c
              rw [st_eq, if_pos ⟨hm, by omega⟩]
            · rw [st_nej (ix_ne hu1 hb.1 c), i4 u hu1 hu2]
              have : (u < b + 1) ↔ (u < b) := by omega
              simp only [this]
          · show (setF 46 (ix (b + k * G)) 1 (setF 43 (ix b) 1 s)).1 46 (ix u) = _
            by_cases c : u = b + k * G
            · subst c
              have e : b + k * G - k * G = b := by omega
              rw [st_eq, if_pos ⟨by rw [e]; exact hb, by rw [e]; exact hm, by rw [e]; omega⟩]
            · rw [st_nej (ix_ne hu1 p1 c), st_nek (by decide), i5 u hu1 hu2]
              have : (u - k * G < b + 1) ↔ (u - k * G < b) := by omega
              simp only [this])
    (to + 1 - fr).toNat FU fr (0, -1, S) (by omega) (by omega) (by show _ < 1100; omega) ⟨by
      show (0 : Int64) = _
      rw [smv_z (fun b hb1 hb2 => by
        unfold mtq
        cases hm : (rgq L G a k b && okq V set w G k b) with
        | false => rfl
        | true =>
          have := hout b hb1 (by omega) hm
          omega)]
      rfl, MinP.none (fun x ⟨b, q1, q2, q3, q4, _⟩ => by have := hout b q1 q2 q4; omega), Fr.rf, fun u hu1 hu2 => by
      rw [if_neg]
      rintro ⟨q1, q2⟩
      have := hout u hu1 hu2 q1
      omega, fun u hu1 hu2 => by
      rw [if_neg]
      rintro ⟨q0, q1, q2⟩
      have := hout _ q0.1 q0.2 q1
      omega⟩
  obtain ⟨⟨w6, v7, s⟩, f1, e1, i1, i2, i3, i4, i5⟩ := main
  dsimp only at i1 i2 i3 i4 i5
  refine ⟨v7, s, ?_, i2.cg (fun x => ?_), i3, fun u hu1 hu2 => ?_, fun u hu1 hu2 => ⟨fun hr => ?_, fun hr => ?_⟩⟩
  · have e2 : lp_X1_meet_122 (iv k) S (iv to) FU 0 (-1) (iv fr) S = lp_X1_meet_122 (iv k) S (iv to) (f1 + 1) w6 v7 (iv (to + 1)) s := e1
    rw [e2, lp_X1_meet_122, if_pos (y_lt (a := to) (b := to + 1) (by omega)), i1, smv_up (by omega) (by omega) (fun b hb1 hb2 => by
      unfold mtq
      cases hm : (rgq L G a k b && okq V set w G k b) with
      | false => rfl
      | true =>
        have := hout b (by omega) hb2 hm
        omega)]
  · constructor
    · rintro ⟨b2, q1, q2, q3, q4, q5⟩
      exact ⟨b2, q1, q2, trivial, q4, q5⟩
    · rintro ⟨b2, q1, q2, q3, q4, q5⟩
      have := hout b2 q1 q2 q4
      exact ⟨b2, q1, q2, by omega, q4, q5⟩
  · rw [i4 u hu1 hu2]
    by_cases c : (rgq L G a k u && okq V set w G k u) = true
    · have := hout u hu1 hu2 c
      rw [if_pos ⟨c, by omega⟩, if_pos c]
    · rw [if_neg (fun z => c z.1), if_neg c]
  · rw [i5 u hu1 hu2]
    by_cases c : (rgq L G a k (u - k * G) && okq V set w G k (u - k * G)) = true
    · have := hout _ hr.1 hr.2 c
      rw [if_pos ⟨hr, c, by omega⟩, if_pos c]
    · rw [if_neg (fun z => c z.2.1), if_neg c]
  · rw [i5 u hu1 hu2, if_neg (fun z => hr z.1)]
end
section
/-! one push, whole -/
theorem MinP.sum {m n : Int32} {P Q : Nat → Prop} (h : MinP m P) (h2 : MinP n Q) (hm : m ≠ -1) (hn : n ≠ -1) (hP : ∀ x, P x → x ≤ 300000) (hQ : ∀ x, Q x → x ≤ 300000) : MinP (m + n) (fun z => ∃ x y, P x ∧ Q y ∧ z = x + y) ∧ m + n ≠ -1 := by
  rcases h with ⟨z, -⟩ | ⟨x, h1, -, h3, h4⟩
  · exact absurd z hm
  · rcases h2 with ⟨z, -⟩ | ⟨y, g1, -, g3, g4⟩
    · exact absurd z hn
    · have b1 := hP x h3
      have b2 := hQ y g3
      have e : m + n = iv ((x + y : Nat) : Int) := by rw [h1, g1, iv_add]; rfl
      rw [e]
      refine ⟨Or.inr ⟨x + y, rfl, by omega, ⟨x, y, h3, g3, rfl⟩, ?_⟩, iv_nm1 (by omega)⟩
      rintro z ⟨x2, y2, p1, p2, rfl⟩
      have := h4 x2 p1
      have := g4 y2 p2
      omega
theorem q_max {x y : Int} (hx : -2147483648 ≤ x ∧ x < 2147483648 := by omega) (hy : -2147483648 ≤ y ∧ y < 2147483648 := by omega) : (if iv x < iv y then iv y else iv x) = iv (if x < y then y else x) := by
  by_cases c : x < y
  · rw [if_pos (y_lt c hx hy), if_pos c]
  · rw [if_neg (n_lt (by omega) hx hy), if_neg c]
/-- the meeting's state between pushes -/
def Md (V : Vw) (set : Nat) (w L G : Int) (S : QS) : Prop := S.1 25 4 = iv L ∧ S.1 25 5 = iv G ∧ (∀ u, -50 ≤ u → u ≤ 50 → Set1 V set w 0 26 u S) ∧ (∀ u, -50 ≤ u → u ≤ 50 → Set1 V set w 1 37 u S) ∧ Bnd S 30 ∧ Bnd S 33 ∧ Bnd S 41 ∧ Bnd S 44
theorem Md.fr {V : Vw} {set : Nat} {w L G : Int} {S S1 : QS} (h : Md V set w L G S) (hf : Fr [25, 32, 35, 43, 46] S S1) (h4 : S1.1 25 4 = S.1 25 4) (h5 : S1.1 25 5 = S.1 25 5) : Md V set w L G S1 := by
  obtain ⟨a1, a2, a3, a4, a5, a6, a7, a8⟩ := h
  have f : ∀ k, k ∉ [25, 32, 35, 43, 46] → S1.1 k = S.1 k := hf.1
  exact ⟨h4.trans a1, h5.trans a2, fun u h1 h2 => (a3 u h1 h2).fr (by rw [f 31 (by decide)]) (by rw [f 36 (by decide)]) (by rw [f 34 (by decide)]), fun u h1 h2 => (a4 u h1 h2).fr (by rw [f 42 (by decide)]) (by rw [f 47 (by decide)]) (by rw [f 45 (by decide)]), a5.fr (f 30 (by decide)) (f 31 (by decide)), a6.fr (f 33 (by decide)) (f 34 (by decide)), a7.fr (f 41 (by decide)) (f 42 (by decide)), a8.fr (f 44 (by decide)) (f 45 (by decide))⟩
/-- a push that meets -/
def Mt (V : Vw) (set : Nat) (w L G a k b : Int) : Prop := (-50 ≤ b ∧ b ≤ 50) ∧ (rgq L G a k b && okq V set w G k b) = true
theorem mt_pos {V : Vw} {set : Nat} {w L G a k : Int} : 0 < sm (mtq V set w L G a k) ↔ ∃ b, Mt V set w L G a k b := by
  rw [sm_pos]
  constructor
  · rintro ⟨b, h1, h2, h3⟩
    unfold mtq at h3
    cases hm : (rgq L G a k b && okq V set w G k b) with
    | false =>
      rw [hm, if_neg (by decide)] at h3
      omega
    | true => exact ⟨b, ⟨h1, h2⟩, hm⟩
  · rintro ⟨b, ⟨h1, h2⟩, h3⟩
    refine ⟨b, h1, h2, ?_⟩
    unfold mtq
    rw [if_pos h3]
    simp only [Bool.and_eq_true] at h3
    have h4 := h3.2
    unfold okq at h4
    simp only [Bool.and_eq_true, decide_eq_true_eq] at h4
    exact h4.1
/-- the prices of one push -/
def PM (V : Vw) (set : Nat) (w L G a k : Int) : Nat → Prop := fun x => ∃ b, Mt V set w L G a k b ∧ ∃ y z, PA V set w 1 b y ∧ PA V set w 0 a z ∧ x = y + pq V 5 (b + k * G) + z + pq V 2 (a - k * L)
theorem lq_50q {V : Vw} (hV : VOk V) {set : Nat} {w : Int} {v : Int} (h : aq V set w 1 v = true) : -50 ≤ v ∧ v ≤ 50 := by
  unfold aq at h
  simp only [Bool.and_eq_true] at h
  exact lt_50 hV (by decide) h.1
theorem s_meet {V : Vw} (hV : VOk V) {set : Nat} {w L G a k : Int} (hL : 1 ≤ L ∧ L ≤ 100) (hG : 1 ≤ G ∧ G ≤ 100) (hk : 1 ≤ k ∧ k ≤ 101) {S : QS} (hM : Md V set w L G S) (ha : -50 ≤ a ∧ a ≤ 50) (hp : -50 ≤ a - k * L ∧ a - k * L ≤ 50) (hao : S.1 31 (ix a) ≠ -1) (hpo : S.1 34 (ix (a - k * L)) ≠ -1)
    {n0 : Nat} {P0 : Nat → Prop} (hn : S.2 25 = lN n0) (hm : MinP (S.1 25 3) P0) :
    ∃ S1, f_X1_meet (iv a) (iv k) S = some S1 ∧ Fr [25, 32, 35, 43, 46] S S1 ∧ S1.1 25 4 = S.1 25 4 ∧ S1.1 25 5 = S.1 25 5 ∧ S1.2 25 = lN (n0 + sm (mtq V set w L G a k) * nq V set w 0 a) ∧ MinP (S1.1 25 3) (fun x => P0 x ∨ PM V set w L G a k x) ∧
      (∀ u, -50 ≤ u → u ≤ 50 → (S1.1 32 (ix u) = if 0 < sm (mtq V set w L G a k) ∧ u = a then 1 else S.1 32 (ix u)) ∧ (S1.1 35 (ix u) = if 0 < sm (mtq V set w L G a k) ∧ u = a - k * L then 1 else S.1 35 (ix u)) ∧ (S1.1 43 (ix u) = if (rgq L G a k u && okq V set w G k u) = true then 1 else S.1 43 (ix u)) ∧
        (-50 ≤ u - k * G ∧ u - k * G ≤ 50 → S1.1 46 (ix u) = if (rgq L G a k (u - k * G) && okq V set w G k (u - k * G)) = true then 1 else S.1 46 (ix u)) ∧ (¬ (-50 ≤ u - k * G ∧ u - k * G ≤ 50) → S1.1 46 (ix u) = S.1 46 (ix u))) := by
  obtain ⟨m4, m5, s0, s1, -, -, ⟨bo, to, b1, b2, b3, b4, b5, b6, b7⟩, ⟨bo2, to2, c1, c2, c3, c4, c5, c6, c7⟩⟩ := hM
  have bL : 1 ≤ k * L ∧ k * L ≤ 10100 := ⟨by have := Int.mul_le_mul hk.1 hL.1 (by omega) (by omega); omega, by have := Int.mul_le_mul hk.2 hL.2 (by omega) (by omega); omega⟩
  have bG : 1 ≤ k * G ∧ k * G ≤ 10100 := ⟨by have := Int.mul_le_mul hk.1 hG.1 (by omega) (by omega); omega, by have := Int.mul_le_mul hk.2 hG.2 (by omega) (by omega); omega⟩
  have eC : k * (L + G) = k * L + k * G := Int.mul_add _ _ _
  obtain ⟨C, hC⟩ : ∃ C, C = k * (L + G) := ⟨_, rfl⟩
  obtain ⟨g, hg⟩ : ∃ g, g = k * G := ⟨_, rfl⟩
  obtain ⟨x1, hx1⟩ : ∃ x1 : Int, x1 = if bo < bo2 - g then bo2 - g else bo := ⟨_, rfl⟩
  obtain ⟨fq, hfq⟩ : ∃ fq : Int, fq = if a - C < x1 then x1 else a - C := ⟨_, rfl⟩
  obtain ⟨fr, hfr⟩ : ∃ fr : Int, fr = if fq < -50 then -50 else fq := ⟨_, rfl⟩
  obtain ⟨x2, hx2⟩ : ∃ x2 : Int, x2 = if to2 - g < to then to2 - g else to := ⟨_, rfl⟩
  obtain ⟨tq, htq⟩ : ∃ tq : Int, tq = if x2 < a - (C + 1).tdiv 2 then x2 else a - (C + 1).tdiv 2 := ⟨_, rfl⟩
  obtain ⟨te, hte⟩ : ∃ te : Int, te = if 50 - g < tq then 50 - g else tq := ⟨_, rfl⟩
  have etd : (C + 1).tdiv 2 = (C + 1) / 2 := Int.tdiv_eq_ediv_of_nonneg (by omega)
  have bfq : bo ≤ fq ∧ bo2 - g ≤ fq ∧ a - C ≤ fq ∧ (fq = bo ∨ fq = bo2 - g ∨ fq = a - C) := by
    rw [hfq, hx1]
    split <;> split <;> omega
  have bfr : bo ≤ fr ∧ bo2 - g ≤ fr ∧ a - C ≤ fr ∧ (fr = bo ∨ fr = bo2 - g ∨ fr = a - C ∨ fr = -50) := by
    rw [hfr]
    split <;> omega
  have btq : tq ≤ to ∧ tq ≤ to2 - g ∧ tq ≤ a - (C + 1) / 2 ∧ (tq = to ∨ tq = to2 - g ∨ tq = a - (C + 1) / 2) := by
    rw [htq, hx2, etd]
    split <;> split <;> omega
  have bte : te ≤ to ∧ te ≤ to2 - g ∧ te ≤ a - (C + 1) / 2 ∧ (te = to ∨ te = to2 - g ∨ te = a - (C + 1) / 2 ∨ te = 50 - g) := by
    rw [hte]
    split <;> omega
  have efr : (if iv a - iv k * (iv L + iv G) < (if iv bo < iv bo2 - iv k * iv G then iv bo2 - iv k * iv G else iv bo) then (if iv bo < iv bo2 - iv k * iv G then iv bo2 - iv k * iv G else iv bo) else iv a - iv k * (iv L + iv G)) = iv fq := by
    rw [iv_add, iv_mul, iv_mul, iv_sub, iv_sub, ← hC, ← hg, q_max (x := bo) (y := bo2 - g), ← hx1, q_max (x := a - C) (y := x1) (by omega) (by rw [hx1]; split <;> omega), ← hfq]
  have efr2 : (if iv fq < -50 then (-50 : Int32) else iv fq) = iv fr := by
    rw [c_m50, q_max (x := fq) (y := -50), ← hfr]
  have ete : (if (if iv to2 - iv k * iv G < iv to then iv to2 - iv k * iv G else iv to) < iv a - iv ((C + 1).tdiv 2) then (if iv to2 - iv k * iv G < iv to then iv to2 - iv k * iv G else iv to) else iv a - iv ((C + 1).tdiv 2)) = iv tq := by
    have q1 : (if iv to2 - iv k * iv G < iv to then iv to2 - iv k * iv G else iv to) = iv x2 := by
      rw [iv_mul, iv_sub, ← hg, hx2]
      by_cases q : to2 - g < to
      · rw [if_pos (y_lt (a := to2 - g) (b := to) q), if_pos q]
      · rw [if_neg (n_lt (a := to2 - g) (b := to) (by omega)), if_neg q]
    have hb2 : -2147483648 ≤ x2 ∧ x2 < 2147483648 := by rw [hx2]; split <;> omega
    rw [q1, iv_sub, htq, etd]
    by_cases q : x2 < a - (C + 1) / 2
    · rw [if_pos (y_lt (a := x2) (b := a - (C + 1) / 2) q hb2), if_pos q]
    · rw [if_neg (n_lt (a := x2) (b := a - (C + 1) / 2) (by omega) hb2), if_neg q]
  have ete2 : (if (50 : Int32) - iv k * iv G < iv tq then (50 : Int32) - iv k * iv G else iv tq) = iv te := by
    rw [c_50, iv_mul, iv_sub, ← hg, hte]
    by_cases q : 50 - g < tq
    · rw [if_pos (y_lt (a := 50 - g) (b := tq) q), if_pos q]
    · rw [if_neg (n_lt (a := 50 - g) (b := tq) (by omega)), if_neg q]
  have rg_iff : ∀ b, rgq L G a k b = true ↔ a - C ≤ b ∧ b ≤ a - (C + 1) / 2 := fun b => by
    unfold rgq
    rw [← hC]
    simp only [Bool.and_eq_true, decide_eq_true_eq]
    omega
  have hout : ∀ b, -50 ≤ b → b ≤ 50 → (rgq L G a k b && okq V set w G k b) = true → fr ≤ b ∧ b ≤ te := fun b h1 h2 h3 => by
    simp only [Bool.and_eq_true] at h3
    obtain ⟨h4, h5⟩ := h3
    have h6 := (rg_iff b).mp h4
    unfold okq at h5
    simp only [Bool.and_eq_true, decide_eq_true_eq] at h5
    obtain ⟨h7, h8⟩ := h5
    have h9 := lq_50q hV h8
    have q1 := b7 b h1 h2 ((s1 b h1 h2).1.ne.mpr (PA_ex.mpr h7))
    have q2 := c7 (b + k * G) h9.1 h9.2 (by
      have e := (s1 _ h9.1 h9.2).2.2
      rw [h8, if_pos rfl] at e
      have := pq_le hV (3 * 1 + 2) (b + k * G)
      rw [show S.1 (44 + 1) = S.1 (37 + 8) from rfl, e]
      exact iv_nm1 (by omega))
    rw [← hg] at q2 h9
    omega
  have hloop : ∃ (pr : Int32) (S1 : QS), lp_X1_meet_122 (iv k) S (iv te) FU 0 (-1) (iv fr) S = some (lN (sm (mtq V set w L G a k)), pr, S1) ∧ MinP pr (PB V set w L G a k (fun _ => True)) ∧ Fr [43, 46] S S1 ∧
      (∀ u, -50 ≤ u → u ≤ 50 → S1.1 43 (ix u) = if (rgq L G a k u && okq V set w G k u) = true then 1 else S.1 43 (ix u)) ∧
      (∀ u, -50 ≤ u → u ≤ 50 → (-50 ≤ u - k * G ∧ u - k * G ≤ 50 → S1.1 46 (ix u) = if (rgq L G a k (u - k * G) && okq V set w G k (u - k * G)) = true then 1 else S.1 46 (ix u)) ∧ (¬ (-50 ≤ u - k * G ∧ u - k * G ≤ 50) → S1.1 46 (ix u) = S.1 46 (ix u))) := by
    by_cases hle : fr ≤ te
    · exact s_meetloop hV m5 s1 (fr := fr) (to := te) (by omega) (by omega) (by omega) (fun b h1 h2 => ⟨by omega, by omega, (rg_iff b).mpr (by omega)⟩) hout
    · have no : ∀ b, -50 ≤ b → b ≤ 50 → (rgq L G a k b && okq V set w G k b) = false := fun b h1 h2 => by
        cases hq : (rgq L G a k b && okq V set w G k b) with
        | false => rfl
        | true =>
          have := hout b h1 h2 hq
          omega
      refine ⟨-1, S, ?_, MinP.none (fun x ⟨b, q1, q2, _, q4, _⟩ => by rw [no b q1 q2] at q4; cases q4), Fr.rf, fun u h1 h2 => by rw [no u h1 h2]; rfl, fun u h1 h2 => ⟨fun hr => by rw [no _ hr.1 hr.2]; rfl, fun _ => rfl⟩⟩
      have e0 : sm (mtq V set w L G a k) = 0 := smv_z (fun b h1 h2 => by unfold mtq; rw [no b h1 (by omega)]; rfl)
      rw [e0, show FU = 1099 + 1 from rfl, lp_X1_meet_122, if_pos (y_lt (a := te) (b := fr) (by omega))]
      rfl
  obtain ⟨pr, S1, e1, hpr, f1, g43, g46⟩ := hloop
  have hmet : sm (mtq V set w L G a k) ≤ 10201 := sm_le (c := 101) (fun b _ _ => by unfold mtq; split; exact na_le; omega)
  have hcall : f_X1_meet (iv a) (iv k) S = if (lg_cmp (lN (sm (mtq V set w L G a k))) 0) ≤ 0 then some S1 else
      (f_X3_see 30 (iv a) S1).bind fun S24 => (f_X3_see 33 (iv (a - k * L)) S24).bind fun S26 => (f_X0_firstCount 26 (iv a) S26).bind fun v28 => (stL 25 ((S26.2 25) + (lN (sm (mtq V set w L G a k)) * v28.toInt64)) S26).bind fun S29 =>
        (f_X3_priceOf 30 (iv a) S29).bind fun v32 => (f_X3_priceOf 33 (iv (a - k * L)) S29).bind fun v34 => (f_X5_cheaper (S29.1 25 3) ((pr + v32) + v34)).bind fun v36 => (stF 25 3 v36 S29).bind fun S37 => some S37 := by
    unfold f_X1_meet
    rw [m4, m5, b1, b2, c1, c2, ob, efr, efr2, iv_add, iv_mul, ← hC, iv_one, c_2, dv_iv, ob, ete, ob, ete2, ob, e1, ob]
    dsimp only
    rw [f1.1 25 (by decide), m4, iv_mul, iv_sub]
  by_cases hz : sm (mtq V set w L G a k) = 0
  · have no : ∀ x, ¬ PM V set w L G a k x := fun x ⟨b, hb, _⟩ => by
      have := mt_pos.mpr ⟨b, hb⟩
      omega
    refine ⟨S1, by rw [hcall, if_pos ((lN_le0 (by omega)).mpr hz)], f1.mono (by simp), by rw [f1.1 25 (by decide)], by rw [f1.1 25 (by decide)], by rw [f1.2 25 (by decide), hn, hz, Nat.zero_mul, Nat.add_zero], by rw [f1.1 25 (by decide)]; exact hm.cg (fun x => ⟨Or.inl, fun z => z.elim id (fun q => absurd q (no x))⟩), fun u h1 h2 => ⟨?_, ?_, g43 u h1 h2, g46 u h1 h2⟩⟩
    · rw [if_neg (fun z => by omega), f1.1 32 (by decide)]
    · rw [if_neg (fun z => by omega), f1.1 35 (by decide)]
  · have hpos : 0 < sm (mtq V set w L G a k) := by omega
    obtain ⟨s01, s02, -⟩ := s0 a ha.1 ha.2
    have s03 := (s0 (a - k * L) hp.1 hp.2).2.2
    have hcnt := s02 hao
    have hnle := na_le (V := V) (set := set) (w := w) (c := 0) (a := a)
    have hap : aq V set w 0 (a - k * L) = true := by
      cases hq : aq V set w 0 (a - k * L) with
      | true => rfl
      | false =>
        rw [hq, if_neg (by decide)] at s03
        exact absurd s03 hpo
    rw [hap, if_pos rfl] at s03
    obtain ⟨b0, hb0⟩ := mt_pos.mp hpos
    have hprn : pr ≠ -1 := by
      have hnq : 0 < nq V set w 1 b0 := by
        have h4 := hb0.2
        simp only [Bool.and_eq_true] at h4
        have h5 := h4.2
        unfold okq at h5
        simp only [Bool.and_eq_true, decide_eq_true_eq] at h5
        exact h5.1
      obtain ⟨y, hy⟩ := PA_ex.mpr hnq
      exact hpr.ne.mpr ⟨_, b0, hb0.1.1, hb0.1.2, trivial, hb0.2, y, hy, rfl⟩
    have hPB : ∀ x, PB V set w L G a k (fun _ => True) x → x ≤ 300000 := fun x ⟨b, _, _, _, _, y, hy, hx⟩ => by
      have := PA_le hV hy
      have := pq_le hV 5 (b + k * G)
      omega
    obtain ⟨t1, t2⟩ := hpr.sum s01 hprn hao hPB (fun x hx => by have := PA_le hV hx; omega)
    obtain ⟨t3, t4⟩ := t1.shift t2 (d := pq V 2 (a - k * L)) (by have := pq_le hV 2 (a - k * L); omega) (fun x ⟨y, z, hy, hz, hx⟩ => by have := hPB y hy; have := PA_le hV hz; omega)
    obtain ⟨S29, h29⟩ : ∃ S29, S29 = setL 25 (lN (n0 + sm (mtq V set w L G a k) * nq V set w 0 a)) (setF 35 (ix (a - k * L)) 1 (setF 32 (ix a) 1 S1)) := ⟨_, rfl⟩
    have f29 : ∀ j, j ≠ 35 → j ≠ 32 → S29.1 j = S1.1 j := fun j h1 h2 => by rw [h29, sl_1, st_nek h1, st_nek h2]
    have e31 : S29.1 (30 + 1) (ix a) = S.1 (26 + 5) (ix a) := by rw [f29 (30 + 1) (by decide) (by decide), f1.1 (30 + 1) (by decide)]
    have e34 : S29.1 (33 + 1) (ix (a - k * L)) = iv (pq V 2 (a - k * L) : Int) := by rw [f29 (33 + 1) (by decide) (by decide), f1.1 (33 + 1) (by decide)]; exact s03
    have e25 : S29.1 25 3 = S.1 25 3 := by rw [f29 25 (by decide) (by decide), f1.1 25 (by decide)]
    refine ⟨setF 25 3 (if S.1 25 3 = -1 then pr + S.1 (26 + 5) (ix a) + iv (pq V 2 (a - k * L) : Int) else if S.1 25 3 ≤ pr + S.1 (26 + 5) (ix a) + iv (pq V 2 (a - k * L) : Int) then S.1 25 3 else pr + S.1 (26 + 5) (ix a) + iv (pq V 2 (a - k * L) : Int)) S29, ?_, ?_, by rw [st_nej (by decide), f29 25 (by decide) (by decide), f1.1 25 (by decide)], by rw [st_nej (by decide), f29 25 (by decide) (by decide), f1.1 25 (by decide)], ?_, ?_, fun u h1 h2 => ⟨?_, ?_, ?_, ?_⟩⟩
    · rw [hcall, if_neg (fun z => hz ((lN_le0 (by omega)).mp z)), s_see ha, ob, s_see hp, ob, s_firstCount ha, ob]
      have ec : (setF (33 + 2) (ix (a - k * L)) 1 (setF (30 + 2) (ix a) 1 S1)).1 (26 + 10) (ix a) = iv (nq V set w 0 a : Int) := by rw [st_nek (by decide), st_nek (by decide), f1.1 (26 + 10) (by decide)]; exact hcnt
      rw [ec, iv_long (x := (nq V set w 0 a : Int)) (by omega), Int.toNat_natCast, st_2, st_2, f1.2 25 (by decide), hn, lN_mul, lN_add]
      show (f_X3_priceOf 30 (iv a) (setL 25 (lN (n0 + sm (mtq V set w L G a k) * nq V set w 0 a)) (setF 35 (ix (a - k * L)) 1 (setF 32 (ix a) 1 S1)))).bind _ = _
      rw [← h29, s_priceOf ha, ob, s_priceOf hp, ob, e31, e34, s_cheaper, ob, e25]
      rfl
    · refine ((((f1.mono (by simp)).tr (Fr.set (k := 32) (j := ix a) (x := 1) (by simp))).tr (Fr.set (k := 35) (j := ix (a - k * L)) (x := 1) (by simp))).tr (Fr.setL (k := 25) (x := lN (n0 + sm (mtq V set w L G a k) * nq V set w 0 a)) (by simp))).tr ?_
      rw [← h29]
      exact Fr.set (by simp)
    · show S29.2 25 = _
      rw [h29, sl_eq]
    · rw [st_eq]
      refine (hm.join t3 t4).cg (fun x => ?_)
      constructor
      · rintro (h | ⟨y, ⟨y1, y2, ⟨b, q1, q2, _, q4, y3, q5, q6⟩, q7, q8⟩, q9⟩)
        · exact Or.inl h
        · exact Or.inr ⟨b, ⟨⟨q1, q2⟩, q4⟩, y3, y2, q5, q7, by omega⟩
      · rintro (h | ⟨b, ⟨⟨q1, q2⟩, q4⟩, y, z, q5, q6, q7⟩)
        · exact Or.inl h
        · exact Or.inr ⟨_, ⟨_, z, ⟨b, q1, q2, trivial, q4, y, q5, rfl⟩, q6, rfl⟩, by omega⟩
    · rw [st_nek (by decide), h29, sl_1, st_nek (by decide)]
      by_cases c : u = a
      · subst c
        rw [st_eq, if_pos ⟨hpos, rfl⟩]
      · rw [st_nej (ix_ne h1 ha.1 c), if_neg (fun z => c z.2), f1.1 32 (by decide)]
    · rw [st_nek (by decide), h29, sl_1]
      by_cases c : u = a - k * L
      · rw [c, st_eq, if_pos ⟨hpos, rfl⟩]
      · rw [st_nej (ix_ne h1 hp.1 c), st_nek (by decide), if_neg (fun z => c z.2), f1.1 35 (by decide)]
    · rw [st_nek (by decide), f29 43 (by decide) (by decide)]
      exact g43 u h1 h2
    · rw [st_nek (by decide), f29 46 (by decide) (by decide)]
      exact g46 u h1 h2
end
section
/-! all pushes from one AT of car 0 -/
def Flag (x : Int32) (P : Prop) : Prop := (x = 1 ∧ P) ∨ (x = 0 ∧ ¬ P)
theorem Flag.cg {x : Int32} {P Q : Prop} (h : Flag x P) (e : P ↔ Q) : Flag x Q := h.elim (fun z => Or.inl ⟨z.1, e.mp z.2⟩) (fun z => Or.inr ⟨z.1, fun q => z.2 (e.mpr q)⟩)
theorem Flag.set {x y : Int32} {P Q : Prop} (h : Flag x P) {c : Prop} (dc : Decidable c) (hy : y = @ite _ c dc 1 x) (e : c ↔ Q) : Flag y (P ∨ Q) := by
  by_cases q : c
  · rw [if_pos q] at hy
    exact Or.inl ⟨hy, Or.inr (e.mp q)⟩
  · rw [if_neg q] at hy
    rw [hy]
    exact h.cg ⟨Or.inl, fun z => z.elim id (fun z => absurd (e.mpr z) q)⟩
/-- the price of a way's three: AT of both, AFTER of both -/
def PT (V : Vw) (set : Nat) (w L G a k b : Int) (x : Nat) : Prop := ∃ y z, PA V set w 1 b y ∧ PA V set w 0 a z ∧ x = y + pq V 5 (b + k * G) + z + pq V 2 (a - k * L)
/-- what has been met so far: the triples T, n ways -/
def Acc (V : Vw) (set : Nat) (w L G : Int) (T : Int → Int → Int → Prop) (n : Nat) (S : QS) : Prop := S.2 25 = lN n ∧ MinP (S.1 25 3) (fun x => ∃ a k b, T a k b ∧ PT V set w L G a k b x) ∧ ∀ u, -50 ≤ u → u ≤ 50 → Flag (S.1 32 (ix u)) (∃ k b, T u k b) ∧ Flag (S.1 35 (ix u)) (∃ a k b, T a k b ∧ u = a - k * L) ∧ Flag (S.1 43 (ix u)) (∃ a k, T a k u) ∧ Flag (S.1 46 (ix u)) (∃ a k b, T a k b ∧ u = b + k * G)
theorem Acc.cg {V : Vw} {set : Nat} {w L G : Int} {T T2 : Int → Int → Int → Prop} {n : Nat} {S : QS} (h : Acc V set w L G T n S) (e : ∀ a k b, T a k b ↔ T2 a k b) : Acc V set w L G T2 n S := by
  have : T = T2 := funext fun a => funext fun k => funext fun b => propext (e a k b)
  rw [← this]
  exact h
theorem acc_meet {V : Vw} (hV : VOk V) {set : Nat} {w L G a k : Int} (hL : 1 ≤ L ∧ L ≤ 100) (hG : 1 ≤ G ∧ G ≤ 100) (hk : 1 ≤ k ∧ k ≤ 101) {S : QS} (hM : Md V set w L G S) (ha : -50 ≤ a ∧ a ≤ 50) (hp : -50 ≤ a - k * L ∧ a - k * L ≤ 50) (hao : S.1 31 (ix a) ≠ -1) (hpo : S.1 34 (ix (a - k * L)) ≠ -1)
    {T : Int → Int → Int → Prop} {n : Nat} (hA : Acc V set w L G T n S) :
    ∃ S1, f_X1_meet (iv a) (iv k) S = some S1 ∧ Fr [25, 32, 35, 43, 46] S S1 ∧ Md V set w L G S1 ∧ Acc V set w L G (fun a2 k2 b2 => T a2 k2 b2 ∨ (a2 = a ∧ k2 = k ∧ Mt V set w L G a k b2)) (n + sm (mtq V set w L G a k) * nq V set w 0 a) S1 := by
  obtain ⟨h1, h2, h3⟩ := hA
  obtain ⟨S1, e1, f1, g4, g5, gn, gp, gs⟩ := s_meet hV hL hG hk hM ha hp hao hpo h1 h2
  refine ⟨S1, e1, f1, hM.fr f1 g4 g5, gn, gp.cg (fun x => ?_), fun u hu1 hu2 => ?_⟩
  · constructor
    · rintro (⟨a2, k2, b2, q1, q2⟩ | ⟨b, q1, q2⟩)
      · exact ⟨a2, k2, b2, Or.inl q1, q2⟩
      · exact ⟨a, k, b, Or.inr ⟨rfl, rfl, q1⟩, q2⟩
    · rintro ⟨a2, k2, b2, q1 | ⟨rfl, rfl, q1⟩, q2⟩
      · exact Or.inl ⟨a2, k2, b2, q1, q2⟩
      · exact Or.inr ⟨b2, q1, q2⟩
  · obtain ⟨p1, p2, p3, p4⟩ := h3 u hu1 hu2
    obtain ⟨r1, r2, r3, r4, r5⟩ := gs u hu1 hu2
    refine ⟨(p1.set _ r1 (Q := ∃ b, u = a ∧ Mt V set w L G a k b) ?_).cg ?_, (p2.set _ r2 (Q := ∃ b, u = a - k * L ∧ Mt V set w L G a k b) ?_).cg ?_, (p3.set _ r3 (Q := Mt V set w L G a k u) ?_).cg ?_, ?_⟩
    · rw [mt_pos]
      exact ⟨fun ⟨⟨b, hb⟩, q⟩ => ⟨b, q, hb⟩, fun ⟨b, q, hb⟩ => ⟨⟨b, hb⟩, q⟩⟩
    · constructor
      · rintro (⟨k2, b2, q⟩ | ⟨b, q, hb⟩)
        · exact ⟨k2, b2, Or.inl q⟩
        · exact ⟨k, b, Or.inr ⟨q, rfl, hb⟩⟩
      · rintro ⟨k2, b2, q | ⟨q, rfl, hb⟩⟩
        · exact Or.inl ⟨k2, b2, q⟩
        · exact Or.inr ⟨b2, q, hb⟩
    · rw [mt_pos]
      exact ⟨fun ⟨⟨b, hb⟩, q⟩ => ⟨b, q, hb⟩, fun ⟨b, q, hb⟩ => ⟨⟨b, hb⟩, q⟩⟩
    · constructor
      · rintro (⟨a2, k2, b2, q, q2⟩ | ⟨b, q, hb⟩)
        · exact ⟨a2, k2, b2, Or.inl q, q2⟩
        · exact ⟨a, k, b, Or.inr ⟨rfl, rfl, hb⟩, q⟩
      · rintro ⟨a2, k2, b2, q | ⟨rfl, rfl, hb⟩, q2⟩
        · exact Or.inl ⟨a2, k2, b2, q, q2⟩
        · exact Or.inr ⟨b2, q2, hb⟩
    · exact ⟨fun q => ⟨⟨hu1, hu2⟩, q⟩, fun q => q.2⟩
    · constructor
      · rintro (⟨a2, k2, q⟩ | hb)
        · exact ⟨a2, k2, Or.inl q⟩
        · exact ⟨a, k, Or.inr ⟨rfl, rfl, hb⟩⟩
      · rintro ⟨a2, k2, q | ⟨rfl, rfl, hb⟩⟩
        · exact Or.inl ⟨a2, k2, q⟩
        · exact Or.inr hb
    · have fin : Flag (S1.1 46 (ix u)) ((∃ a2 k2 b2, T a2 k2 b2 ∧ u = b2 + k2 * G) ∨ Mt V set w L G a k (u - k * G)) := by
        by_cases hr : -50 ≤ u - k * G ∧ u - k * G ≤ 50
        · exact p4.set _ (r4 hr) ⟨fun q => ⟨hr, q⟩, fun q => q.2⟩
        · rw [r5 hr]
          exact p4.cg ⟨Or.inl, fun z => z.elim id (fun q => absurd q.1 hr)⟩
      refine fin.cg ?_
      constructor
      · rintro (⟨a2, k2, b2, q, q2⟩ | hb)
        · exact ⟨a2, k2, b2, Or.inl q, q2⟩
        · exact ⟨a, k, u - k * G, Or.inr ⟨rfl, rfl, hb⟩, by omega⟩
      · rintro ⟨a2, k2, b2, q | ⟨rfl, rfl, hb⟩, q2⟩
        · exact Or.inl ⟨a2, k2, b2, q, q2⟩
        · refine Or.inr ?_
          rw [show u - k2 * G = b2 by omega]
          exact hb
/-- one AT's pushes -/
def Hq (V : Vw) (set : Nat) (w L G a k : Int) : Nat := if aq V set w 0 (a - k * L) then sm (mtq V set w L G a k) * nq V set w 0 a else 0
def Tq (V : Vw) (set : Nat) (w L G a k b : Int) : Prop := aq V set w 0 (a - k * L) = true ∧ Mt V set w L G a k b
theorem aq_50 {V : Vw} (hV : VOk V) {set : Nat} {w : Int} {v : Int} (h : aq V set w 0 v = true) : -50 ≤ v ∧ v ≤ 50 := by
  unfold aq at h
  simp only [Bool.and_eq_true] at h
  exact lt_50 hV (by decide) h.1
theorem s_pushFrom {V : Vw} (hV : VOk V) {set : Nat} {w L G a : Int} (hL : 1 ≤ L ∧ L ≤ 100) (hG : 1 ≤ G ∧ G ≤ 100) (ha : -50 ≤ a ∧ a ≤ 50) {T0 : Int → Int → Int → Prop} {n0 : Nat} {S : QS} (hM : Md V set w L G S) (hao : S.1 31 (ix a) ≠ -1) (hA : Acc V set w L G T0 n0 S) :
    ∃ S1, f_X1_pushFrom (iv a) S = some S1 ∧ Fr [25, 32, 35, 43, 46] S S1 ∧ Md V set w L G S1 ∧ Acc V set w L G (fun a2 k2 b2 => T0 a2 k2 b2 ∨ (a2 = a ∧ (1 ≤ k2 ∧ k2 ≤ 101) ∧ Tq V set w L G a k2 b2)) (n0 + fb_sm (fun i => Hq V set w L G a ((i : Int) + 1)) 101) S1 := by
  have key : ∀ (d i fuel : Nat) (S : QS), i + d = 101 → d < fuel → Md V set w L G S → S.1 31 (ix a) ≠ -1 → Acc V set w L G (fun a2 k2 b2 => T0 a2 k2 b2 ∨ (a2 = a ∧ (1 ≤ k2 ∧ k2 ≤ i) ∧ Tq V set w L G a k2 b2)) (n0 + fb_sm (fun i => Hq V set w L G a ((i : Int) + 1)) i) S →
      ∃ S1, lp_X1_pushFrom_2 (iv a) fuel (iv ((i : Int) + 1)) S = some S1 ∧ Fr [25, 32, 35, 43, 46] S S1 ∧ Md V set w L G S1 ∧ Acc V set w L G (fun a2 k2 b2 => T0 a2 k2 b2 ∨ (a2 = a ∧ (1 ≤ k2 ∧ k2 ≤ 101) ∧ Tq V set w L G a k2 b2)) (n0 + fb_sm (fun i => Hq V set w L G a ((i : Int) + 1)) 101) S1 := by
    intro d
    induction d with
    | zero =>
      intro i fuel S hi hf hM hao hA
      obtain ⟨f1, rfl⟩ : ∃ f1, fuel = f1 + 1 := ⟨fuel - 1, by omega⟩
      have e : i = 101 := by omega
      subst e
      exact ⟨S, by rw [lp_X1_pushFrom_2, if_pos (by decide)], Fr.rf, hM, hA⟩
    | succ d ih =>
      intro i fuel S hi hf hM hao hA
      obtain ⟨f1, rfl⟩ : ∃ f1, fuel = f1 + 1 := ⟨fuel - 1, by omega⟩
      obtain ⟨m4, m5, s0, s1, q1, ⟨bo, to, b1, b2, b3, b4, b5, b6, b7⟩, q3, q4⟩ := id hM
      obtain ⟨k, hk⟩ : ∃ k : Int, k = (i : Int) + 1 := ⟨_, rfl⟩
      have bL : 1 ≤ k * L ∧ k * L ≤ 10100 := ⟨by have := Int.mul_le_mul (show 1 ≤ k by omega) hL.1 (by omega) (by omega); omega, by have := Int.mul_le_mul (show k ≤ 101 by omega) hL.2 (by omega) (by omega); omega⟩
      have sumS : fb_sm (fun i => Hq V set w L G a ((i : Int) + 1)) (i + 1) = fb_sm (fun i => Hq V set w L G a ((i : Int) + 1)) i + Hq V set w L G a k := by rw [fb_sm_succ, hk]
      have openA : ∀ p, -50 ≤ p → p ≤ 50 → aq V set w 0 p = true → bo ≤ p := fun p h1 h2 h3 => by
        have e := (s0 p h1 h2).2.2
        rw [h3, if_pos rfl] at e
        have := pq_le hV (3 * 0 + 2) p
        exact (b7 p h1 h2 (by rw [show S.1 (33 + 1) = S.1 (26 + 8) from rfl, e]; exact iv_nm1 (by omega))).1
      by_cases hlow : a - k * L < bo
      · have no : ∀ k2 : Int, k ≤ k2 → aq V set w 0 (a - k2 * L) = false := fun k2 h2 => by
          cases hq : aq V set w 0 (a - k2 * L) with
          | false => rfl
          | true =>
            have h3 := aq_50 hV hq
            have h4 := openA _ h3.1 h3.2 hq
            have h5 : k * L ≤ k2 * L := Int.mul_le_mul_of_nonneg_right h2 (by omega)
            omega
        refine ⟨S, ?_, Fr.rf, hM, ?_⟩
        · rw [lp_X1_pushFrom_2, ← hk, if_neg (by rw [c_101]; exact n_lt (by omega)), m4, b1, iv_mul, iv_sub, if_pos (y_lt hlow)]
        · have e : fb_sm (fun i => Hq V set w L G a ((i : Int) + 1)) 101 = fb_sm (fun i => Hq V set w L G a ((i : Int) + 1)) i := by
            have z : fb_sm (fun j => Hq V set w L G a (((i + j : Nat) : Int) + 1)) (d + 1) = 0 := fb_sm_0 (fun j hj => by
              unfold Hq
              rw [no _ (by omega)]
              rfl)
            rw [show 101 = i + (d + 1) by omega, fb_sm_split, z, Nat.add_zero]
          rw [e]
          refine hA.cg (fun a2 k2 b2 => ?_)
          constructor
          · rintro (q | ⟨q, q2, q3⟩)
            · exact Or.inl q
            · exact Or.inr ⟨q, by omega, q3⟩
          · rintro (q | ⟨q, q2, q3⟩)
            · exact Or.inl q
            · refine Or.inr ⟨q, ⟨q2.1, ?_⟩, q3⟩
              rcases Int.lt_or_le (i : Int) k2 with z | z
              · have := q3.1
                rw [no k2 (by omega)] at this
                cases this
              · exact z
      · have hp : -50 ≤ a - k * L ∧ a - k * L ≤ 50 := by omega
        have head : lp_X1_pushFrom_2 (iv a) (f1 + 1) (iv k) S = if S.1 34 (ix (a - k * L)) = -1 then lp_X1_pushFrom_2 (iv a) f1 (iv (k + 1)) S else (f_X1_meet (iv a) (iv k) S).bind fun S6 => lp_X1_pushFrom_2 (iv a) f1 (iv (k + 1)) S6 := by
          rw [lp_X1_pushFrom_2, if_neg (by rw [c_101]; exact n_lt (by omega)), m4, b1, iv_mul, iv_sub, if_neg (n_lt (by omega)), s_isOpen hp, ob, iv_one]
          show (if (if S.1 34 (ix (a - k * L)) = -1 then (0 : Int32) else 1) = 0 then _ else _) = _
          by_cases c : S.1 34 (ix (a - k * L)) = -1
          · rw [if_pos c, if_pos rfl, if_pos c]
          · rw [if_neg c, if_neg (by decide), if_neg c]
        have j3 : S.1 34 (ix (a - k * L)) = if aq V set w 0 (a - k * L) then iv (pq V 2 (a - k * L) : Int) else -1 := (s0 _ hp.1 hp.2).2.2
        have hpq := pq_le hV 2 (a - k * L)
        have ek : k + 1 = ((i + 1 : Nat) : Int) + 1 := by omega
        cases hq : aq V set w 0 (a - k * L) with
        | false =>
          rw [hq, if_neg (by decide)] at j3
          obtain ⟨S1, e1, f2, g1, g2⟩ := ih (i + 1) f1 S (by omega) (by omega) hM hao (by
            have e : Hq V set w L G a k = 0 := by unfold Hq; rw [hq]; rfl
            rw [sumS, e, Nat.add_zero]
            refine hA.cg (fun a2 k2 b2 => ?_)
            constructor
            · rintro (q | ⟨q, q2, q3⟩)
              · exact Or.inl q
              · exact Or.inr ⟨q, by omega, q3⟩
            · rintro (q | ⟨q, q2, q3⟩)
              · exact Or.inl q
              · refine Or.inr ⟨q, ⟨q2.1, ?_⟩, q3⟩
                rcases Int.lt_or_le (i : Int) k2 with z | z
                · have := q3.1
                  rw [show k2 = k by omega, hq] at this
                  cases this
                · exact z)
          exact ⟨S1, by rw [← hk, head, if_pos j3, ek]; exact e1, f2, g1, g2⟩
        | true =>
          rw [hq, if_pos rfl] at j3
          have jo : S.1 34 (ix (a - k * L)) ≠ -1 := by rw [j3]; exact iv_nm1 (by omega)
          obtain ⟨S6, e6, f6, M6, A6⟩ := acc_meet hV hL hG (k := k) (by omega) hM ha hp hao jo hA
          obtain ⟨S1, e1, f2, g1, g2⟩ := ih (i + 1) f1 S6 (by omega) (by omega) M6 (by rw [f6.1 31 (by decide)]; exact hao) (by
            have e : Hq V set w L G a k = sm (mtq V set w L G a k) * nq V set w 0 a := by unfold Hq; rw [hq, if_pos rfl]
            rw [sumS, e, ← Nat.add_assoc]
            refine A6.cg (fun a2 k2 b2 => ?_)
            constructor
            · rintro ((q | ⟨q, q2, q3⟩) | ⟨q, q2, q3⟩)
              · exact Or.inl q
              · exact Or.inr ⟨q, by omega, q3⟩
              · subst q2
                exact Or.inr ⟨q, by omega, hq, q3⟩
            · rintro (q | ⟨q, q2, q3⟩)
              · exact Or.inl (Or.inl q)
              · by_cases z : k2 = k
                · subst z
                  exact Or.inr ⟨q, rfl, q3.2⟩
                · exact Or.inl (Or.inr ⟨q, by omega, q3⟩))
          exact ⟨S1, by rw [← hk, head, if_neg jo, e6, ob, ek]; exact e1, f6.tr f2, g1, g2⟩
  obtain ⟨S1, h1, h2, h3, h4⟩ := key 101 0 FU S (by omega) (by decide) hM hao (by
    refine hA.cg (fun a2 k2 b2 => ?_)
    constructor
    · exact Or.inl
    · rintro (q | ⟨q, q2, q3⟩)
      · exact q
      · omega)
  exact ⟨S1, h1, h2, h3, h4⟩
end
section
/-! all AT of car 0 -/
def TT (V : Vw) (set : Nat) (w L G a k b : Int) : Prop := (-50 ≤ a ∧ a ≤ 50) ∧ 0 < nq V set w 0 a ∧ (1 ≤ k ∧ k ≤ 101) ∧ Tq V set w L G a k b
def Nq (V : Vw) (set : Nat) (w L G a : Int) : Nat := fb_sm (fun i => Hq V set w L G a ((i : Int) + 1)) 101
theorem Nq_0 {V : Vw} {set : Nat} {w L G a : Int} (h : nq V set w 0 a = 0) : Nq V set w L G a = 0 := fb_sm_0 (fun i hi => by
  unfold Hq
  rw [h, Nat.mul_zero]
  split <;> rfl)
theorem s_mainloop {V : Vw} (hV : VOk V) {set : Nat} {w L G : Int} (hL : 1 ≤ L ∧ L ≤ 100) (hG : 1 ≤ G ∧ G ≤ 100) {S : QS} (hM : Md V set w L G S) (hA : Acc V set w L G (fun _ _ _ => False) 0 S) :
    ∃ S1, lp_X1_reckon_77 FU (S.1 30 2) S = some S1 ∧ Fr [25, 32, 35, 43, 46] S S1 ∧ Md V set w L G S1 ∧ Acc V set w L G (TT V set w L G) (sm (Nq V set w L G)) S1 := by
  obtain ⟨-, -, t0, -, ⟨bo, to, b1, b2, b3, b4, b5, b6, b7⟩, -, -, -⟩ := id hM
  have opn : ∀ (s : QS), Fr [25, 32, 35, 43, 46] S s → ∀ a, -50 ≤ a → a ≤ 50 → (s.1 31 (ix a) ≠ -1 ↔ 0 < nq V set w 0 a) := fun s hf a h1 h2 => by
    rw [hf.1 31 (by decide)]
    exact ((t0 a h1 h2).1.ne).trans PA_ex
  have inb : ∀ a, -50 ≤ a → a ≤ 50 → 0 < nq V set w 0 a → bo ≤ a ∧ a ≤ to := fun a h1 h2 h3 => b7 a h1 h2 ((opn S Fr.rf a h1 h2).mpr h3)
  by_cases hle : bo ≤ to
  · have main := up_loop (fun fuel a (s : QS) => lp_X1_reckon_77 fuel a s) (fun a s => Fr [25, 32, 35, 43, 46] S s ∧ Md V set w L G s ∧ Acc V set w L G (fun a2 k2 b2 => a2 < a ∧ TT V set w L G a2 k2 b2) (smv (Nq V set w L G) a) s) bo to
      (fun fuel a s h3 h4 hI => by
        obtain ⟨i1, i2, i3⟩ := hI
        have ha : -50 ≤ a ∧ a ≤ 50 := by omega
        have hS := smv_s (Nq V set w L G) (v := a) ha.1
        have e3 : s.1 30 3 = iv to := by rw [i1.1 30 (by decide)]; exact b2
        have head : lp_X1_reckon_77 (fuel + 1) (iv a) s = if s.1 31 (ix a) = -1 then lp_X1_reckon_77 fuel (iv (a + 1)) s else (f_X1_pushFrom (iv a) s).bind fun S23 => lp_X1_reckon_77 fuel (iv (a + 1)) S23 := by
          rw [lp_X1_reckon_77, e3, if_neg (n_lt (a := to) (b := a) h4), s_isOpen ha, ob, iv_one]
          show (if (if s.1 31 (ix a) = -1 then (0 : Int32) else 1) = 0 then _ else _) = _
          by_cases c : s.1 31 (ix a) = -1
          · rw [if_pos c, if_pos rfl, if_pos c]
          · rw [if_neg c, if_neg (by decide), if_neg c]
        by_cases c : s.1 31 (ix a) = -1
        · have hz : ¬ 0 < nq V set w 0 a := fun z => ((opn s i1 a ha.1 ha.2).mpr z) c
          refine ⟨s, ?_, i1, i2, ?_⟩
          · show lp_X1_reckon_77 (fuel + 1) (iv a) s = lp_X1_reckon_77 fuel (iv (a + 1)) s
            rw [head, if_pos c]
          · rw [hS, Nq_0 (by omega), Nat.add_zero]
            refine i3.cg (fun a2 k2 b2 => ?_)
            constructor
            · rintro ⟨q, q2⟩
              exact ⟨by omega, q2⟩
            · rintro ⟨q, q2⟩
              refine ⟨?_, q2⟩
              rcases Int.lt_or_le a2 a with z | z
              · exact z
              · have e : a2 = a := by omega
                rw [e] at q2
                exact absurd q2.2.1 hz
        · have hz : 0 < nq V set w 0 a := (opn s i1 a ha.1 ha.2).mp c
          obtain ⟨s1, e1, f1, g1, g2⟩ := s_pushFrom hV hL hG ha i2 c i3
          refine ⟨s1, ?_, i1.tr f1, g1, ?_⟩
          · show lp_X1_reckon_77 (fuel + 1) (iv a) s = lp_X1_reckon_77 fuel (iv (a + 1)) s1
            rw [head, if_neg c, e1, ob]
          · rw [hS]
            refine Acc.cg g2 (fun a2 k2 b2 => ?_)
            constructor
            · rintro (⟨q, q2⟩ | ⟨rfl, q2, q3⟩)
              · exact ⟨by omega, q2⟩
              · exact ⟨by omega, ha, hz, q2, q3⟩
            · rintro ⟨q, q2⟩
              by_cases z : a2 = a
              · subst z
                exact Or.inr ⟨rfl, q2.2.2.1, q2.2.2.2⟩
              · exact Or.inl ⟨by omega, q2⟩)
      (to + 1 - bo).toNat FU bo S (by omega) (by omega) (by show _ < 1100; omega) ⟨Fr.rf, hM, by
        rw [smv_z (fun a h1 h2 => Nq_0 (by
          rcases Nat.eq_zero_or_pos (nq V set w 0 a) with z | z
          · exact z
          · have := inb a h1 (by omega) z
            omega))]
        refine hA.cg (fun a2 k2 b2 => ?_)
        constructor
        · exact False.elim
        · rintro ⟨q, q2, q3, -⟩
          have := inb a2 q2.1 q2.2 q3
          omega⟩
    obtain ⟨s1, f1, e1, i1, i2, i3⟩ := main
    refine ⟨s1, ?_, i1, i2, ?_⟩
    · have e2 : lp_X1_reckon_77 FU (iv bo) S = lp_X1_reckon_77 (f1 + 1) (iv (to + 1)) s1 := e1
      have e3 : s1.1 30 3 = iv to := by rw [i1.1 30 (by decide)]; exact b2
      rw [b1, e2, lp_X1_reckon_77, e3, if_pos (y_lt (a := to) (b := to + 1) (by omega))]
    · rw [← smv_up (v := to + 1) (by omega) (by omega) (fun a h1 h2 => Nq_0 (by
        rcases Nat.eq_zero_or_pos (nq V set w 0 a) with z | z
        · exact z
        · have := inb a (by omega) h2 z
          omega))]
      refine i3.cg (fun a2 k2 b2 => ?_)
      constructor
      · exact fun q => q.2
      · intro q
        have := inb a2 q.1.1 q.1.2 q.2.1
        exact ⟨by omega, q⟩
  · have no : ∀ a, -50 ≤ a → a ≤ 50 → nq V set w 0 a = 0 := fun a h1 h2 => by
      rcases Nat.eq_zero_or_pos (nq V set w 0 a) with z | z
      · exact z
      · have := inb a h1 h2 z
        omega
    refine ⟨S, ?_, Fr.rf, hM, ?_⟩
    · rw [b1, show FU = 1099 + 1 from rfl, lp_X1_reckon_77, b2, if_pos (y_lt (a := to) (b := bo) (by omega))]
    · have e : sm (Nq V set w L G) = 0 := smv_z (fun a h1 h2 => Nq_0 (no a h1 (by omega)))
      rw [e]
      refine hA.cg (fun a2 k2 b2 => ?_)
      constructor
      · exact False.elim
      · rintro ⟨q2, q3, -⟩
        rw [no a2 q2.1 q2.2] at q3
        omega
end
section
/-! FIRST is seen where AT is -/
theorem s_seeIn {V : Vw} (hV : VOk V) {set : Nat} {w : Int} {c k : Nat} {S : QS} (hc : CF V set w c k S) {v : Int} (hv : -50 ≤ v ∧ v ≤ 50) (hs : S.1 (k + 6) (ix v) = 1) {Q : Int → Prop} (hQ : ∀ f, -50 ≤ f → f ≤ 50 → Flag (S.1 (k + 3) (ix f)) (Q f)) :
    ∃ S1, lp_X0_seeFirsts_24 k (iv v) FU (iv (if 0 ≤ v then v else -v)) S = some S1 ∧ Fr [k + 3] S S1 ∧ ∀ f, -50 ≤ f → f ≤ 50 → Flag (S1.1 (k + 3) (ix f)) (Q f ∨ fq V set w c f v = true) := by
  have b1 := sL_b hV w c false
  have b3 := sH_b hV w c false
  obtain ⟨v0, hv0⟩ : ∃ v0, v0 = if 0 ≤ v then v else -v := ⟨_, rfl⟩
  have hv1 : 0 ≤ v0 ∧ v0 ≤ 50 ∧ v ≤ v0 ∧ -v ≤ v0 ∧ (v0 = v ∨ v0 = -v) := by rw [hv0]; split <;> omega
  rw [← hv0]
  have main := up_loop (fun fuel p (s : QS) => lp_X0_seeFirsts_24 k (iv v) fuel p s) (fun p s => Fr [k + 3] S s ∧ ∀ f, -50 ≤ f → f ≤ 50 → Flag (s.1 (k + 3) (ix f)) (Q f ∨ ∃ q, v0 ≤ q ∧ q < p ∧ fq V set w c (ff v q) v = true ∧ f = ff v q)) v0 50
    (fun fuel p s h3 h4 hI => by
      obtain ⟨i1, i2⟩ := hI
      have hpr : -50 ≤ p ∧ p ≤ 50 := by omega
      obtain ⟨c5, c6, -, -, -, cF⟩ := hc.fr (i1.1 k (by simp)) (i1.1 (k + 2) (by simp))
      have e6 : s.1 (k + 4 + 2) (ix v) = 1 := by rw [i1.1 (k + 4 + 2) (by simp)]; exact hs
      have hT := s_takenA (k := k) (S := s) hv hpr c5 c6 (by omega) (by omega)
      have hFQ := fq_hi (V := V) (set := set) (w := w) (c := c) (v := v) (p := p) (by omega) (by omega)
      have hff := ff_b (v := v) hpr
      have hFv := cF (ff v p) hff.1 hff.2
      have hpq := pq_le hV (3 * c) (ff v p)
      have head : lp_X0_seeFirsts_24 k (iv v) (fuel + 1) (iv p) s = if fq V set w c (ff v p) v = true then lp_X0_seeFirsts_24 k (iv v) fuel (iv (p + 1)) (setF (k + 1 + 2) (ix (ff v p)) 1 s) else lp_X0_seeFirsts_24 k (iv v) fuel (iv (p + 1)) s := by
        rw [lp_X0_seeFirsts_24, s_isSeen hv, e6, if_neg (by decide : ¬ (1 : Int32) = 0), ob, if_neg (by decide : ¬ (1 : Int32) = 0), if_neg (hi50 h4), hT, ob, iv_one]
        cases ht : (decide (sL V w c false ≤ 51 * (p * p - v * v)) && decide (51 * (p * p - v * v) ≤ sH V w c false)) with
        | false =>
          rw [if_pos (by decide), if_neg]
          rw [hFQ, ht, Bool.and_false]
          decide
        | true =>
          rw [if_neg (by decide), s_firstFor (by omega), ob, show (if 0 ≤ v then p else -p) = ff v p from rfl, s_isOpen hff, ob, show s.1 (k + 1 + 1) (ix (ff v p)) = s.1 (k + 2) (ix (ff v p)) from rfl, hFv, hFQ, ht, Bool.and_true]
          cases hl : lq V set (3 * c) (ff v p) with
          | false => rw [if_neg (by decide : ¬ (false = true)), if_pos rfl, if_pos rfl, if_neg (by decide : ¬ (false = true))]
          | true => rw [if_pos (rfl : true = true), if_neg (iv_nm1 (by omega)), if_neg (by decide), ob, s_see hff, ob, if_pos (rfl : true = true)]
      by_cases g : fq V set w c (ff v p) v = true
      · refine ⟨setF (k + 1 + 2) (ix (ff v p)) 1 s, ?_, i1.tr (Fr.set (by simp)), fun f h1 h2 => ?_⟩
        · show lp_X0_seeFirsts_24 k (iv v) (fuel + 1) (iv p) s = _
          rw [head, if_pos g]
        · by_cases e : f = ff v p
          · subst e
            exact Or.inl ⟨st_eq _ _ _ _, Or.inr ⟨p, h3, by omega, g, rfl⟩⟩
          · have e9 : (setF (k + 1 + 2) (ix (ff v p)) 1 s).1 (k + 3) (ix f) = s.1 (k + 3) (ix f) := st_nej (ix_ne h1 hff.1 e)
            rw [e9]
            refine (i2 f h1 h2).cg ?_
            constructor
            · rintro (q | ⟨q, q1, q2, q3, q4⟩)
              · exact Or.inl q
              · exact Or.inr ⟨q, q1, by omega, q3, q4⟩
            · rintro (q | ⟨q, q1, q2, q3, q4⟩)
              · exact Or.inl q
              · by_cases z : q = p
                · subst z
                  exact absurd q4 e
                · exact Or.inr ⟨q, q1, by omega, q3, q4⟩
      · refine ⟨s, ?_, i1, fun f h1 h2 => (i2 f h1 h2).cg ?_⟩
        · show lp_X0_seeFirsts_24 k (iv v) (fuel + 1) (iv p) s = _
          rw [head, if_neg g]
        · constructor
          · rintro (q | ⟨q, q1, q2, q3, q4⟩)
            · exact Or.inl q
            · exact Or.inr ⟨q, q1, by omega, q3, q4⟩
          · rintro (q | ⟨q, q1, q2, q3, q4⟩)
            · exact Or.inl q
            · by_cases z : q = p
              · subst z
                exact absurd q3 g
              · exact Or.inr ⟨q, q1, by omega, q3, q4⟩)
    (51 - v0).toNat FU v0 S (by omega) (by omega) (by show _ < 1100; omega) ⟨Fr.rf, fun f h1 h2 => (hQ f h1 h2).cg ⟨Or.inl, fun z => z.elim id (fun ⟨q, q1, q2, _⟩ => by omega)⟩⟩
  obtain ⟨s1, f1, e1, i1, i2⟩ := main
  refine ⟨s1, ?_, i1, fun f h1 h2 => (i2 f h1 h2).cg ?_⟩
  · have e2 : lp_X0_seeFirsts_24 k (iv v) FU (iv v0) S = lp_X0_seeFirsts_24 k (iv v) (f1 + 1) (iv (50 + 1)) s1 := e1
    have e6 : s1.1 (k + 4 + 2) (ix v) = 1 := by rw [i1.1 (k + 4 + 2) (by simp)]; exact hs
    rw [e2, show (50 : Int) + 1 = 51 by rfl, lp_X0_seeFirsts_24, s_isSeen hv, e6, if_neg (by decide : ¬ (1 : Int32) = 0), ob, if_neg (by decide : ¬ (1 : Int32) = 0), if_pos gt50]
  · constructor
    · rintro (q | ⟨q, q1, q2, q3, q4⟩)
      · exact Or.inl q
      · rw [q4]
        exact Or.inr q3
    · rintro (q | q)
      · exact Or.inl q
      · have hffi : ff v (ff v f) = f := by unfold ff; split <;> omega
        have hb := ff_b (v := v) (p := f) ⟨h1, h2⟩
        refine Or.inr ⟨ff v f, ?_, by omega, by rw [hffi]; exact q, hffi.symm⟩
        rcases Int.lt_or_le (ff v f) v0 with z | z
        · have := fq_low hV (set := set) (w := w) (c := c) hv hb.1 (p := ff v f) (by omega)
          rw [hffi, q] at this
          cases this
        · exact z
theorem s_seeFirsts {V : Vw} (hV : VOk V) {set : Nat} {w : Int} {c k : Nat} {S : QS} (hc : CF V set w c k S) {bo to : Int} (hb : S.1 (k + 4) 2 = iv bo) (ht : S.1 (k + 4) 3 = iv to) (b3 : -50 ≤ bo) (b4 : bo ≤ 51) (b5 : -51 ≤ to) (b6 : to ≤ 50) {P : Int → Prop}
    (hP : ∀ u, -50 ≤ u → u ≤ 50 → Flag (S.1 (k + 6) (ix u)) (P u)) (hin : ∀ u, -50 ≤ u → u ≤ 50 → P u → bo ≤ u ∧ u ≤ to) (h0 : ∀ f, -50 ≤ f → f ≤ 50 → S.1 (k + 3) (ix f) = 0) :
    ∃ S1, f_X0_seeFirsts k S = some S1 ∧ Fr [k + 3] S S1 ∧ ∀ f, -50 ≤ f → f ≤ 50 → Flag (S1.1 (k + 3) (ix f)) (∃ u, (-50 ≤ u ∧ u ≤ 50) ∧ P u ∧ fq V set w c f u = true) := by
  unfold f_X0_seeFirsts
  by_cases hle : bo ≤ to
  · have main := up_loop (fun fuel a (s : QS) => lp_X0_seeFirsts_8 k fuel a s) (fun a s => Fr [k + 3] S s ∧ ∀ f, -50 ≤ f → f ≤ 50 → Flag (s.1 (k + 3) (ix f)) (∃ u, ((-50 ≤ u ∧ u ≤ 50) ∧ u < a) ∧ P u ∧ fq V set w c f u = true)) bo to
      (fun fuel a s h3 h4 hI => by
        obtain ⟨i1, i2⟩ := hI
        have ha : -50 ≤ a ∧ a ≤ 50 := by omega
        have hc1 := hc.fr (i1.1 k (by simp)) (i1.1 (k + 2) (by simp))
        have e3 : s.1 (k + 4) 3 = iv to := by rw [i1.1 (k + 4) (by simp)]; exact ht
        have e6 : s.1 (k + 6) (ix a) = S.1 (k + 6) (ix a) := by rw [i1.1 (k + 6) (by simp)]
        rcases hP a ha.1 ha.2 with ⟨q1, q2⟩ | ⟨q1, q2⟩
        · obtain ⟨s1, e1, f1, g1⟩ := s_seeIn hV hc1 ha (by rw [e6]; exact q1) i2
          refine ⟨s1, ?_, i1.tr f1, fun f h1 h2 => (g1 f h1 h2).cg ?_⟩
          · show lp_X0_seeFirsts_8 k (fuel + 1) (iv a) s = lp_X0_seeFirsts_8 k fuel (iv (a + 1)) s1
            rw [lp_X0_seeFirsts_8, e3, if_neg (n_lt (a := to) (b := a) h4), iv_abs ha, e1, ob, iv_one]
          · constructor
            · rintro (⟨u, ⟨p1, p2⟩, p3, p4⟩ | p)
              · exact ⟨u, ⟨p1, by omega⟩, p3, p4⟩
              · exact ⟨a, ⟨ha, by omega⟩, q2, p⟩
            · rintro ⟨u, ⟨p1, p2⟩, p3, p4⟩
              by_cases z : u = a
              · subst z
                exact Or.inr p4
              · exact Or.inl ⟨u, ⟨p1, by omega⟩, p3, p4⟩
        · refine ⟨s, ?_, i1, fun f h1 h2 => (i2 f h1 h2).cg ?_⟩
          · show lp_X0_seeFirsts_8 k (fuel + 1) (iv a) s = lp_X0_seeFirsts_8 k fuel (iv (a + 1)) s
            have e7 : s.1 (k + 4 + 2) (ix a) = 0 := by rw [show s.1 (k + 4 + 2) (ix a) = s.1 (k + 6) (ix a) from rfl, e6]; exact q1
            have e8 : lp_X0_seeFirsts_24 k (iv a) FU (iv (if 0 ≤ a then a else -a)) s = some s := by
              rw [show FU = 1099 + 1 from rfl, lp_X0_seeFirsts_24, s_isSeen ha, e7, if_pos rfl, ob, if_pos rfl]
            rw [lp_X0_seeFirsts_8, e3, if_neg (n_lt (a := to) (b := a) h4), iv_abs ha, e8, ob, iv_one]
          · constructor
            · rintro ⟨u, ⟨p1, p2⟩, p3, p4⟩
              exact ⟨u, ⟨p1, by omega⟩, p3, p4⟩
            · rintro ⟨u, ⟨p1, p2⟩, p3, p4⟩
              by_cases z : u = a
              · subst z
                exact absurd p3 q2
              · exact ⟨u, ⟨p1, by omega⟩, p3, p4⟩)
      (to + 1 - bo).toNat FU bo S (by omega) (by omega) (by show _ < 1100; omega) ⟨Fr.rf, fun f h1 h2 => Or.inr ⟨h0 f h1 h2, fun ⟨u, ⟨p1, p2⟩, p3, _⟩ => by have := hin u p1.1 p1.2 p3; omega⟩⟩
    obtain ⟨s1, f1, e1, i1, i2⟩ := main
    refine ⟨s1, ?_, i1, fun f h1 h2 => (i2 f h1 h2).cg ?_⟩
    · have e2 : lp_X0_seeFirsts_8 k FU (iv bo) S = lp_X0_seeFirsts_8 k (f1 + 1) (iv (to + 1)) s1 := e1
      have e3 : s1.1 (k + 4) 3 = iv to := by rw [i1.1 (k + 4) (by simp)]; exact ht
      rw [hb, e2, lp_X0_seeFirsts_8, e3, if_pos (y_lt (a := to) (b := to + 1) (by omega))]
    · constructor
      · rintro ⟨u, ⟨p1, p2⟩, p3, p4⟩
        exact ⟨u, p1, p3, p4⟩
      · rintro ⟨u, p1, p3, p4⟩
        have := hin u p1.1 p1.2 p3
        exact ⟨u, ⟨p1, by omega⟩, p3, p4⟩
  · refine ⟨S, ?_, Fr.rf, fun f h1 h2 => Or.inr ⟨h0 f h1 h2, fun ⟨u, p1, p3, _⟩ => by have := hin u p1.1 p1.2 p3; omega⟩⟩
    rw [hb, show FU = 1099 + 1 from rfl, lp_X0_seeFirsts_8, ht, if_pos (y_lt (a := to) (b := bo) (by omega))]
end
section
/-! the meeting reckoned -/
def qL (V : Vw) : Int := (((vM V 1).toNat / Nat.gcd (vM V 1).toNat (vM V 0).toNat : Nat) : Int)
def qG (V : Vw) : Int := (((vM V 0).toNat / Nat.gcd (vM V 0).toNat (vM V 1).toNat : Nat) : Int)
theorem share_b {m o : Nat} (hm : 1 ≤ m ∧ m ≤ 100) : 1 ≤ ((m / Nat.gcd m o : Nat) : Int) ∧ ((m / Nat.gcd m o : Nat) : Int) ≤ 100 := by
  have h1 : Nat.gcd m o ∣ m := Nat.gcd_dvd_left m o
  have h2 : 0 < Nat.gcd m o := Nat.gcd_pos_of_pos_left o (by omega)
  have h3 : Nat.gcd m o ≤ m := Nat.le_of_dvd (by omega) h1
  have h4 : 1 ≤ m / Nat.gcd m o := (Nat.one_le_div_iff h2).mpr h3
  have h5 : m / Nat.gcd m o ≤ m := Nat.div_le_self _ _
  omega
/-- the prices and what is seen before the meeting is reckoned -/
def Ready (V : Vw) (set : Nat) (w : Int) (S : QS) : Prop := (S.1 26 0 = iv (vM V 0) ∧ S.1 37 0 = iv (vM V 1)) ∧ CF V set w 0 26 S ∧ CF V set w 1 37 S ∧
  (∀ v, -50 ≤ v → v ≤ 50 → (S.1 31 (ix v) = if lq V set 1 v then iv (pq V 1 v : Int) else -1) ∧ (S.1 34 (ix v) = if lq V set 2 v then iv (pq V 2 v : Int) else -1) ∧ (S.1 42 (ix v) = if lq V set 4 v then iv (pq V 4 v : Int) else -1) ∧ (S.1 45 (ix v) = if lq V set 5 v then iv (pq V 5 v : Int) else -1)) ∧
  ∀ k, k ∈ [29, 32, 35, 40, 43, 46] → ∀ v, -50 ≤ v → v ≤ 50 → S.1 k (ix v) = 0
/-- what the desk shows once it has reckoned -/
def Res (V : Vw) (set : Nat) (w : Int) (S : QS) : Prop := Acc V set w (qL V) (qG V) (TT V set w (qL V) (qG V)) (sm (Nq V set w (qL V) (qG V))) S ∧
  (∀ f, -50 ≤ f → f ≤ 50 → Flag (S.1 29 (ix f)) (∃ u, (-50 ≤ u ∧ u ≤ 50) ∧ (∃ k b, TT V set w (qL V) (qG V) u k b) ∧ fq V set w 0 f u = true)) ∧
  ∀ f, -50 ≤ f → f ≤ 50 → Flag (S.1 40 (ix f)) (∃ u, (-50 ≤ u ∧ u ≤ 50) ∧ (∃ a k, TT V set w (qL V) (qG V) a k u) ∧ fq V set w 1 f u = true)
theorem s_reckon1 {V : Vw} (hV : VOk V) {set : Nat} {w : Int} {S : QS} (hR : Ready V set w S) :
    ∃ S1, f_X1_reckon S = some S1 ∧ Fr [25, 29, 30, 31, 32, 33, 34, 35, 36, 40, 41, 42, 43, 44, 45, 46, 47] S S1 ∧ (∀ r, r < 6 → S1.1 (kp r) 0 = S.1 (kp r) 0 ∧ S1.1 (kp r) 1 = S.1 (kp r) 1) ∧ Res V set w S1 := by
  obtain ⟨⟨m0, m1⟩, hc0, hc1, hp, hz⟩ := hR
  have M0 := hV.1 0 (by decide)
  have M1 := hV.1 1 (by decide)
  obtain ⟨s0, hs0⟩ : ∃ s0, s0 = setF 25 5 (iv (qG V)) (setF 25 4 (iv (qL V)) (setF 25 3 (-1) (setL 25 0 S))) := ⟨_, rfl⟩
  have f0 : Fr [25] S s0 := by
    rw [hs0]
    exact (((Fr.setL (by simp)).tr (Fr.set (by simp))).tr (Fr.set (by simp))).tr (Fr.set (by simp))
  have k0 : ∀ j, j ≠ 25 → s0.1 j = S.1 j := fun j hj => f0.1 j (nm1 hj)
  have hL : 1 ≤ qL V ∧ qL V ≤ 100 := share_b (by omega)
  have hG : 1 ≤ qG V ∧ qG V ≤ 100 := share_b (by omega)
  obtain ⟨s1, e1, f1, g1, a1, bn1, bn2⟩ := s_settle hV (c := 0) (k := 26) (S := s0) (hc0.fr (k0 26 (by decide)) (k0 28 (by decide))) (fun v h1 h2 => by rw [k0 31 (by decide)]; exact (hp v h1 h2).1) (fun v h1 h2 => by rw [k0 34 (by decide)]; exact (hp v h1 h2).2.1)
  have k1 : ∀ j, j ∉ [30, 31, 33, 34, 36] → s1.1 j = s0.1 j := fun j hj => f1.1 j hj
  obtain ⟨s2, e2, f2, g2, a2, bn3, bn4⟩ := s_settle hV (c := 1) (k := 37) (S := s1) (hc1.fr (by rw [k1 37 (by decide), k0 37 (by decide)]) (by rw [k1 39 (by decide), k0 39 (by decide)])) (fun v h1 h2 => by rw [k1 42 (by decide), k0 42 (by decide)]; exact (hp v h1 h2).2.2.1) (fun v h1 h2 => by rw [k1 45 (by decide), k0 45 (by decide)]; exact (hp v h1 h2).2.2.2)
  have k2 : ∀ j, j ∉ [41, 42, 44, 45, 47] → s2.1 j = s1.1 j := fun j hj => f2.1 j hj
  have l2 : s2.2 25 = lN 0 := by rw [f2.2 25 (by decide), f1.2 25 (by decide), hs0]; rfl
  have c3 : s2.1 25 3 = -1 := by rw [k2 25 (by decide), k1 25 (by decide), hs0, st_nej (by decide), st_nej (by decide), st_eq]
  have c4 : s2.1 25 4 = iv (qL V) := by rw [k2 25 (by decide), k1 25 (by decide), hs0, st_nej (by decide), st_eq]
  have c5 : s2.1 25 5 = iv (qG V) := by rw [k2 25 (by decide), k1 25 (by decide), hs0, st_eq]
  have hM : Md V set w (qL V) (qG V) s2 := ⟨c4, c5, fun u h1 h2 => (a1 u h1 h2).fr (by rw [k2 (26 + 5) (by decide)]) (by rw [k2 (26 + 10) (by decide)]) (by rw [k2 (26 + 8) (by decide)]), a2, bn1.fr (k2 30 (by decide)) (k2 31 (by decide)), bn2.fr (k2 33 (by decide)) (k2 34 (by decide)), bn3, bn4⟩
  have z2 : ∀ k, k ∈ [29, 32, 35, 40, 43, 46] → ∀ v, -50 ≤ v → v ≤ 50 → s2.1 k (ix v) = 0 := fun k hk v h1 h2 => by
    have e : s2.1 k = S.1 k := by
      simp only [List.mem_cons, List.not_mem_nil, or_false] at hk
      rcases hk with rfl | rfl | rfl | rfl | rfl | rfl <;> rw [k2 _ (by decide), k1 _ (by decide), k0 _ (by decide)]
    rw [e]
    exact hz k hk v h1 h2
  have hA : Acc V set w (qL V) (qG V) (fun _ _ _ => False) 0 s2 := ⟨l2, by rw [c3]; exact MinP.none (fun x ⟨_, _, _, q, _⟩ => q), fun u h1 h2 => ⟨Or.inr ⟨z2 32 (by decide) u h1 h2, fun ⟨_, _, q⟩ => q⟩, Or.inr ⟨z2 35 (by decide) u h1 h2, fun ⟨_, _, _, q, _⟩ => q⟩, Or.inr ⟨z2 43 (by decide) u h1 h2, fun ⟨_, _, q⟩ => q⟩, Or.inr ⟨z2 46 (by decide) u h1 h2, fun ⟨_, _, _, q, _⟩ => q⟩⟩⟩
  obtain ⟨s3, e3, f3, hM3, hA3⟩ := s_mainloop hV hL hG hM hA
  have k3 : ∀ j, j ∉ [25, 32, 35, 43, 46] → s3.1 j = s2.1 j := fun j hj => f3.1 j hj
  obtain ⟨m4, m5, t0, t1, ⟨bo, to, b1, b2, b3, b4, b5, b6, b7⟩, -, ⟨bo2, to2, d1, d2, d3, d4, d5, d6, d7⟩, -⟩ := id hM3
  obtain ⟨s4, e4, f4, g4⟩ := s_seeFirsts hV (c := 0) (k := 26) (S := s3) (hc0.fr (by rw [k3 26 (by decide), k2 26 (by decide), k1 26 (by decide), k0 26 (by decide)]) (by rw [k3 28 (by decide), k2 28 (by decide), k1 28 (by decide), k0 28 (by decide)])) b1 b2 b3 b4 b5 b6
    (P := fun u => ∃ k b, TT V set w (qL V) (qG V) u k b) (fun u h1 h2 => (hA3.2.2 u h1 h2).1) (fun u h1 h2 ⟨k, b, q⟩ => b7 u h1 h2 ((t0 u h1 h2).1.ne.mpr (PA_ex.mpr q.2.1))) (fun f h1 h2 => by rw [show s3.1 (26 + 3) = s3.1 29 from rfl, k3 29 (by decide)]; exact z2 29 (by decide) f h1 h2)
  have k4 : ∀ j, j ≠ 29 → s4.1 j = s3.1 j := fun j hj => f4.1 j (nm1 hj)
  obtain ⟨s5, e5, f5, g5⟩ := s_seeFirsts hV (c := 1) (k := 37) (S := s4) (hc1.fr (by rw [k4 37 (by decide), k3 37 (by decide), k2 37 (by decide), k1 37 (by decide), k0 37 (by decide)]) (by rw [k4 39 (by decide), k3 39 (by decide), k2 39 (by decide), k1 39 (by decide), k0 39 (by decide)])) (by rw [k4 (37 + 4) (by decide)]; exact d1) (by rw [k4 (37 + 4) (by decide)]; exact d2) d3 d4 d5 d6
    (P := fun u => ∃ a k, TT V set w (qL V) (qG V) a k u) (fun u h1 h2 => by rw [k4 (37 + 6) (by decide)]; exact (hA3.2.2 u h1 h2).2.2.1) (fun u h1 h2 ⟨a, k, q⟩ => d7 u h1 h2 ((t1 u h1 h2).1.ne.mpr (PA_ex.mpr (by
      have h4 := q.2.2.2.2.2
      simp only [Bool.and_eq_true] at h4
      have h5 := h4.2
      unfold okq at h5
      simp only [Bool.and_eq_true, decide_eq_true_eq] at h5
      exact h5.1)))) (fun f h1 h2 => by rw [show s4.1 (37 + 3) = s4.1 40 from rfl, k4 40 (by decide), k3 40 (by decide)]; exact z2 40 (by decide) f h1 h2)
  have k5 : ∀ j, j ≠ 40 → s5.1 j = s4.1 j := fun j hj => f5.1 j (nm1 hj)
  have fl : ∀ j, j ≠ 29 → j ≠ 40 → s5.1 j = s3.1 j := fun j h1 h2 => by rw [k5 j h2, k4 j h1]
  refine ⟨s5, ?_, ?_, fun r hr => ?_, ⟨?_, ?_, fun f h1 h2 => ?_⟩, fun f h1 h2 => ?_, fun f h1 h2 => ?_⟩
  · unfold f_X1_reckon
    show (f_X1_lowestShare (S.1 37 0) (S.1 26 0)).bind _ = _
    have q1 : f_X1_lowestShare (iv (vM V 1)) (iv (vM V 0)) = some (iv (qL V)) := by
      have h := s_share (m := (vM V 1).toNat) (o := (vM V 0).toNat) (by omega) (by omega)
      rw [Int.toNat_of_nonneg (by omega), Int.toNat_of_nonneg (by omega)] at h
      exact h
    have q2 : f_X1_lowestShare (iv (vM V 0)) (iv (vM V 1)) = some (iv (qG V)) := by
      have h := s_share (m := (vM V 0).toNat) (o := (vM V 1).toNat) (by omega) (by omega)
      rw [Int.toNat_of_nonneg (by omega), Int.toNat_of_nonneg (by omega)] at h
      exact h
    rw [m0, m1, q1, ob]
    show (f_X1_lowestShare ((setF 25 4 (iv (qL V)) (setF 25 3 (-1) (setL 25 0 S))).1 26 0) ((setF 25 4 (iv (qL V)) (setF 25 3 (-1) (setL 25 0 S))).1 37 0)).bind _ = _
    rw [st_nek (by decide), st_nek (by decide), st_nek (by decide), st_nek (by decide), sl_1, m0, m1, q2, ob]
    show (f_X0_settle 26 (setF 25 5 (iv (qG V)) (setF 25 4 (iv (qL V)) (setF 25 3 (-1) (setL 25 0 S))))).bind _ = _
    rw [← hs0, e1, ob, e2, ob, e3, ob, e4, ob, e5, ob]
  · exact (((((f0.mono (by simp)).tr (f1.mono (by simp))).tr (f2.mono (by simp))).tr (f3.mono (by simp))).tr (f4.mono (by simp))).tr (f5.mono (by simp))
  · rcases (show r = 0 ∨ r = 1 ∨ r = 2 ∨ r = 3 ∨ r = 4 ∨ r = 5 by omega) with rfl | rfl | rfl | rfl | rfl | rfl
    · rw [show kp 0 = 27 from rfl, fl 27 (by decide) (by decide), k3 27 (by decide), k2 27 (by decide), k1 27 (by decide), k0 27 (by decide)]
      exact ⟨rfl, rfl⟩
    · rw [show kp 1 = 30 from rfl, fl 30 (by decide) (by decide), k3 30 (by decide), k2 30 (by decide), ← k0 30 (by decide)]
      exact ⟨g1.1, g1.2.1⟩
    · rw [show kp 2 = 33 from rfl, fl 33 (by decide) (by decide), k3 33 (by decide), k2 33 (by decide), ← k0 33 (by decide)]
      exact ⟨g1.2.2.1, g1.2.2.2⟩
    · rw [show kp 3 = 38 from rfl, fl 38 (by decide) (by decide), k3 38 (by decide), k2 38 (by decide), k1 38 (by decide), k0 38 (by decide)]
      exact ⟨rfl, rfl⟩
    · rw [show kp 4 = 41 from rfl, fl 41 (by decide) (by decide), k3 41 (by decide), ← k0 41 (by decide), ← k1 41 (by decide)]
      exact ⟨g2.1, g2.2.1⟩
    · rw [show kp 5 = 44 from rfl, fl 44 (by decide) (by decide), k3 44 (by decide), ← k0 44 (by decide), ← k1 44 (by decide)]
      exact ⟨g2.2.2.1, g2.2.2.2⟩
  · rw [f5.2 25 (by decide), f4.2 25 (by decide)]
    exact hA3.1
  · rw [fl 25 (by decide) (by decide)]
    exact hA3.2.1
  · rw [fl 32 (by decide) (by decide), fl 35 (by decide) (by decide), fl 43 (by decide) (by decide), fl 46 (by decide) (by decide)]
    exact hA3.2.2 f h1 h2
  · rw [k5 29 (by decide)]
    exact g4 f h1 h2
  · exact g5 f h1 h2
end
section
/-! the desk reckons -/
def rowOf (c j : Nat) : Nat := 3 * c + j / 3
theorem pz_0 {V : Vw} {set r : Nat} {S : QS} (h : ∀ u, -50 ≤ u → u ≤ 50 → S.1 (kp r + 1) (ix u) = if vLo V r ≤ u ∧ u ≤ vHi V r then 0 else -1) : Pz V set 0 r S := by
  intro u h1 h2
  rw [h u h1 h2]
  have e : ltN V set r u 0 = (decide (vLo V r ≤ u) && decide (u ≤ vHi V r)) := by
    unfold ltN
    rw [show allB (fun t => !(tB V r u t && set.testBit t)) 0 = true from rfl, Bool.and_true]
  rw [e]
  by_cases c : vLo V r ≤ u ∧ u ≤ vHi V r
  · rw [if_pos c, decide_eq_true c.1, decide_eq_true c.2, if_pos (by decide)]
    rfl
  · rw [if_neg c, if_neg]
    intro z
    simp only [Bool.and_eq_true, decide_eq_true_eq] at z
    exact c z
theorem cl_hyp {V : Vw} (hV : VOk V) {S : QS} (hD : DR V S) {c : Nat} (hc : c < 2) : (∀ j, -1000 ≤ (if j < 9 then vLo V (rowOf c j) else 0) ∧ (if j < 9 then vLo V (rowOf c j) else 0) ≤ 1000 ∧ -1000 ≤ (if j < 9 then vHi V (rowOf c j) else 0) ∧ (if j < 9 then vHi V (rowOf c j) else 0) ≤ 1000) ∧
    ∀ j, j = 1 ∨ j = 4 ∨ j = 7 → S.1 (26 + 11 * c + j) 0 = iv (if j < 9 then vLo V (rowOf c j) else 0) ∧ S.1 (26 + 11 * c + j) 1 = iv (if j < 9 then vHi V (rowOf c j) else 0) := by
  refine ⟨fun j => ?_, fun j hj => ?_⟩
  · by_cases h : j < 9
    · have := hV.2.1 (rowOf c j) (by unfold rowOf; omega)
      rw [if_pos h, if_pos h]
      omega
    · rw [if_neg h, if_neg h]
      omega
  · have h := hD.2.1 (rowOf c j) (by unfold rowOf; omega)
    have e : kp (rowOf c j) = 26 + 11 * c + j := by
      rcases (show c = 0 ∨ c = 1 by omega) with rfl | rfl <;> rcases hj with rfl | rfl | rfl <;> rfl
    rw [e] at h
    rw [if_pos (by omega), if_pos (by omega)]
    exact h
theorem s_ct {V : Vw} (hV : VOk V) {set : Nat} (hset : set < 1024) {w : Int} (hw : -1 ≤ w ∧ w ≤ 100) {S : QS} (hD : DR V S) :
    ∃ S1, ct_X5_reckon_24 (nI set) (iv w) S = some S1 ∧ Dk S S1 ∧ (∀ k, 48 ≤ k → S1.1 k = S.1 k ∧ S1.2 k = S.2 k) ∧ Res V set w S1 ∧ S1.1 0 5 = 1 ∧ S1.1 0 6 = nI set ∧ S1.1 0 7 = iv w := by
  obtain ⟨hb0, hs0⟩ := cl_hyp hV hD (c := 0) (by decide)
  obtain ⟨s1, e1, f1, g1, a5, a6, a7, a8, a9, p1⟩ := s_carclear (k := 26) (S := S) hb0 hs0
  have k1 : ∀ j, j ∉ [26, 28, 29, 31, 32, 34, 35] → s1.1 j = S.1 j := fun j hj => f1.1 j hj
  have d1 : Dk S s1 := Dk.of2 f1 (by decide) g1 (by rw [k1 37 (by decide)])
  obtain ⟨hb1, hs1⟩ := cl_hyp hV (hD.dk hV d1) (c := 1) (by decide)
  obtain ⟨s2, e2, f2, g2, b5, b6, b7, b8, b9, p2⟩ := s_carclear (k := 37) (S := s1) hb1 hs1
  have k2 : ∀ j, j ∉ [37, 39, 40, 42, 43, 45, 46] → s2.1 j = s1.1 j := fun j hj => f2.1 j hj
  have d2 : Dk s1 s2 := Dk.of2 f2 (by decide) (by rw [k2 26 (by decide)]) g2
  have hD2 := (hD.dk hV d1).dk hV d2
  have hPz : ∀ r, r < 6 → Pz V set 0 r s2 := fun r hr => pz_0 (fun u h1 h2 => by
    rcases (show r = 0 ∨ r = 1 ∨ r = 2 ∨ r = 3 ∨ r = 4 ∨ r = 5 by omega) with rfl | rfl | rfl | rfl | rfl | rfl
    · rw [show kp 0 + 1 = 28 from rfl, k2 28 (by decide)]; exact (p1 1 (by decide) u h1 h2).1
    · rw [show kp 1 + 1 = 31 from rfl, k2 31 (by decide)]; exact (p1 4 (by decide) u h1 h2).1
    · rw [show kp 2 + 1 = 34 from rfl, k2 34 (by decide)]; exact (p1 7 (by decide) u h1 h2).1
    · exact (p2 1 (by decide) u h1 h2).1
    · exact (p2 4 (by decide) u h1 h2).1
    · exact (p2 7 (by decide) u h1 h2).1)
  have hz2 : ∀ k, k ∈ [29, 32, 35, 40, 43, 46] → ∀ v, -50 ≤ v → v ≤ 50 → s2.1 k (ix v) = 0 := fun k hk v h1 h2 => by
    simp only [List.mem_cons, List.not_mem_nil, or_false] at hk
    rcases hk with rfl | rfl | rfl | rfl | rfl | rfl
    · rw [k2 29 (by decide)]; exact (p1 1 (by decide) v h1 h2).2
    · rw [k2 32 (by decide)]; exact (p1 4 (by decide) v h1 h2).2
    · rw [k2 35 (by decide)]; exact (p1 7 (by decide) v h1 h2).2
    · exact (p2 1 (by decide) v h1 h2).2
    · exact (p2 4 (by decide) v h1 h2).2
    · exact (p2 7 (by decide) v h1 h2).2
  obtain ⟨s3, e3, f3, hPz3⟩ := s_tales hV hset hD2 hPz
  have k3 : ∀ j, j ∉ [28, 31, 34, 39, 42, 45] → s3.1 j = s2.1 j := fun j hj => f3.1 j hj
  have d3 : Dk s2 s3 := Dk.of f3 (by decide)
  have hD3 := hD2.dk hV d3
  have ss0 : SS V w 0 26 0 s3 := by
    have e : s3.1 26 = s1.1 26 := by rw [k3 26 (by decide), k2 26 (by decide)]
    exact ⟨by rw [e]; exact a5, by rw [e]; exact a6, by rw [e]; exact a7, by rw [e]; exact a8, by rw [e]; exact a9⟩
  have ss1 : SS V w 1 37 0 s3 := by
    have e : s3.1 37 = s2.1 37 := by rw [k3 37 (by decide)]
    exact ⟨by rw [e]; exact b5, by rw [e]; exact b6, by rw [e]; exact b7, by rw [e]; exact b8, by rw [e]; exact b9⟩
  obtain ⟨s4, e4, f4, g4, h40, h41⟩ := s_skids hV hw hD3 ss0 ss1
  have k4 : ∀ j, j ∉ [26, 37] → s4.1 j = s3.1 j := fun j hj => f4.1 j hj
  have d4 : Dk s3 s4 := Dk.of2 f4 (by decide) g4.1 g4.2
  have hD4 := hD3.dk hV d4
  have price : ∀ r, r < 6 → ∀ u, -50 ≤ u → u ≤ 50 → s4.1 (kp r + 1) (ix u) = if lq V set r u then iv (pq V r u : Int) else -1 := fun r hr u h1 h2 => by
    rw [k4 (kp r + 1) (by have := kp_cases hr; simp <;> omega)]
    exact hPz3 r hr u h1 h2
  have hR : Ready V set w s4 := ⟨hD4.1, ⟨h40.1, h40.2.1, h40.2.2.1, h40.2.2.2.1, h40.2.2.2.2, fun f h1 h2 => price 0 (by decide) f h1 h2⟩, ⟨h41.1, h41.2.1, h41.2.2.1, h41.2.2.2.1, h41.2.2.2.2, fun f h1 h2 => price 3 (by decide) f h1 h2⟩,
    fun v h1 h2 => ⟨price 1 (by decide) v h1 h2, price 2 (by decide) v h1 h2, price 4 (by decide) v h1 h2, price 5 (by decide) v h1 h2⟩, fun k hk v h1 h2 => by
      have e : s4.1 k = s2.1 k := by
        simp only [List.mem_cons, List.not_mem_nil, or_false] at hk
        rcases hk with rfl | rfl | rfl | rfl | rfl | rfl <;> rw [k4 _ (by decide), k3 _ (by decide)]
      rw [e]
      exact hz2 k hk v h1 h2⟩
  obtain ⟨s5, e5, f5, g5, r5⟩ := s_reckon1 hV hR
  have k5 : ∀ j, j ∉ [25, 29, 30, 31, 32, 33, 34, 35, 36, 40, 41, 42, 43, 44, 45, 46, 47] → s5.1 j = s4.1 j := fun j hj => f5.1 j hj
  have d5 : Dk s4 s5 := ⟨by rw [k5 0 (by decide)], by rw [k5 0 (by decide)], fun k h1 h2 => f5.1 k (by simp <;> omega), ⟨by rw [k5 26 (by decide)], by rw [k5 37 (by decide)]⟩, g5⟩
  obtain ⟨s6, hs6⟩ : ∃ s6, s6 = setF 0 7 (iv w) (setF 0 6 (nI set) (setF 0 5 1 s5)) := ⟨_, rfl⟩
  have k6 : ∀ j, j ≠ 0 → s6.1 j = s5.1 j := fun j hj => by rw [hs6, st_nek hj, st_nek hj, st_nek hj]
  have l6 : s6.2 = s5.2 := by rw [hs6]; rfl
  have d6 : Dk s5 s6 := by
    refine ⟨by rw [hs6, st_nej (by decide), st_nej (by decide), st_nej (by decide)], by rw [hs6, st_nej (by decide), st_nej (by decide), st_nej (by decide)], fun k h1 h2 => k6 k (by omega), ⟨by rw [k6 26 (by decide)], by rw [k6 37 (by decide)]⟩, fun r hr => ?_⟩
    have := kp_cases hr
    rw [k6 (kp r) (by omega)]
    exact ⟨rfl, rfl⟩
  refine ⟨s6, ?_, ((((d1.tr d2).tr d3).tr d4).tr d5).tr d6, fun k hk => ⟨?_, ?_⟩, ⟨⟨?_, ?_, fun u h1 h2 => ?_⟩, fun f h1 h2 => ?_, fun f h1 h2 => ?_⟩, ?_, ?_, ?_⟩
  · unfold ct_X5_reckon_24
    rw [e1, ob, e2, ob, e3, ob, e4, ob, e5, ob, stZ_ok (Or.inr rfl), ob, hs6]
    rfl
  · rw [k6 k (by omega), f5.1 k (by simp <;> omega), f4.1 k (by simp <;> omega), f3.1 k (by simp <;> omega), f2.1 k (by simp <;> omega), f1.1 k (by simp <;> omega)]
  · rw [l6, f5.2 k (by simp <;> omega), f4.2 k (by simp <;> omega), f3.2 k (by simp <;> omega), f2.2 k (by simp <;> omega), f1.2 k (by simp <;> omega)]
  · rw [l6]
    exact r5.1.1
  · rw [k6 25 (by decide)]
    exact r5.1.2.1
  · rw [k6 32 (by decide), k6 35 (by decide), k6 43 (by decide), k6 46 (by decide)]
    exact r5.1.2.2 u h1 h2
  · rw [k6 29 (by decide)]
    exact r5.2.1 f h1 h2
  · rw [k6 40 (by decide)]
    exact r5.2.2 f h1 h2
  · rw [hs6, st_nej (by decide), st_nej (by decide), st_eq]
  · rw [hs6, st_nej (by decide), st_eq]
  · rw [hs6, st_eq]
end
section
/-! the desk reckons, or knows it still -/
def Cache (V : Vw) (S : QS) : Prop := S.1 0 5 = 0 ∨ (S.1 0 5 = 1 ∧ ∃ (set : Nat) (w : Int), set < 1024 ∧ (-1 ≤ w ∧ w ≤ 100) ∧ S.1 0 6 = nI set ∧ S.1 0 7 = iv w ∧ Res V set w S)
theorem s_reckon5 {V : Vw} (hV : VOk V) {set : Nat} (hset : set < 1024) {w : Int} (hw : -1 ≤ w ∧ w ≤ 100) {S : QS} (hD : DR V S) (hC : Cache V S) :
    ∃ S1, f_X5_reckon (nI set) (iv w) S = some S1 ∧ Dk S S1 ∧ (∀ k, 48 ≤ k → S1.1 k = S.1 k ∧ S1.2 k = S.2 k) ∧ Res V set w S1 ∧ Cache V S1 := by
  have anew : f_X5_reckon (nI set) (iv w) S = ct_X5_reckon_24 (nI set) (iv w) S → ∃ S1, f_X5_reckon (nI set) (iv w) S = some S1 ∧ Dk S S1 ∧ (∀ k, 48 ≤ k → S1.1 k = S.1 k ∧ S1.2 k = S.2 k) ∧ Res V set w S1 ∧ Cache V S1 := fun he => by
    obtain ⟨S1, e1, d1, k1, r1, c5, c6, c7⟩ := s_ct hV hset hw hD
    exact ⟨S1, he.trans e1, d1, k1, r1, Or.inr ⟨c5, set, w, hset, hw, c6, c7, r1⟩⟩
  rcases hC with h0 | ⟨h1, set2, w2, q1, q2, q3, q4, q5⟩
  · refine anew ?_
    unfold f_X5_reckon
    rw [if_pos h0]
  · by_cases e : set = set2
    · by_cases e2 : w = w2
      · subst e
        subst e2
        refine ⟨S, ?_, Dk.rf, fun _ _ => ⟨rfl, rfl⟩, q5, Or.inr ⟨h1, set, w, q1, q2, q3, q4, q5⟩⟩
        unfold f_X5_reckon
        rw [h1, if_neg (by decide), if_pos q3.symm, if_pos q4.symm]
      · refine anew ?_
        unfold f_X5_reckon
        rw [h1, if_neg (by decide), q4, if_neg (n_eq e2)]
        split <;> rfl
    · refine anew ?_
      unfold f_X5_reckon
      rw [h1, if_neg (by decide), q3, if_neg (fun z => e ((nI_eq (by omega) (by omega)).mp z))]
theorem DR.kept {V : Vw} (hV : VOk V) {S S1 : QS} (h : DR V S) (hk : ∀ k, k < 48 → S1.1 k = S.1 k) : DR V S1 := h.dk hV ⟨by rw [hk 0 (by omega)], by rw [hk 0 (by omega)], fun k h1 h2 => hk k (by omega), ⟨by rw [hk 26 (by omega)], by rw [hk 37 (by omega)]⟩, fun r hr => by
  have := kp_cases hr
  rw [hk (kp r) (by omega)]
  exact ⟨rfl, rfl⟩⟩
theorem Res.kept {V : Vw} {set : Nat} {w : Int} {S S1 : QS} (h : Res V set w S) (hk : ∀ k, k < 48 → S1.1 k = S.1 k) (hl : S1.2 25 = S.2 25) : Res V set w S1 := by
  unfold Res Acc at h ⊢
  rw [hk 25 (by omega), hk 29 (by omega), hk 32 (by omega), hk 35 (by omega), hk 40 (by omega), hk 43 (by omega), hk 46 (by omega), hl]
  exact h
theorem Cache.kept {V : Vw} {S S1 : QS} (h : Cache V S) (hk : ∀ k, k < 48 → S1.1 k = S.1 k) (hl : S1.2 25 = S.2 25) : Cache V S1 := by
  unfold Cache at h ⊢
  rw [hk 0 (by omega)]
  exact h.imp id (fun ⟨q1, set, w, q2, q3, q4, q5, q6⟩ => ⟨q1, set, w, q2, q3, q4, q5, q6.kept hk hl⟩)
end
section
/-! one push is one AFTER: the ways of the desk are those of the reference -/
theorem share_x {m o : Nat} (hm : 1 ≤ m) : m / Nat.gcd m o * o = o / Nat.gcd o m * m := by
  have hg : 0 < Nat.gcd m o := Nat.gcd_pos_of_pos_left o hm
  rw [Nat.gcd_comm o m]
  obtain ⟨x, hx⟩ := Nat.gcd_dvd_left m o
  obtain ⟨y, hy⟩ := Nat.gcd_dvd_right m o
  have e1 : m / Nat.gcd m o = x := Nat.div_eq_of_eq_mul_right hg hx
  have e2 : o / Nat.gcd m o = y := Nat.div_eq_of_eq_mul_right hg hy
  have h1 : x * o = x * (Nat.gcd m o * y) := congrArg (x * ·) hy
  have h2 : y * m = y * (Nat.gcd m o * x) := congrArg (y * ·) hx
  rw [e1, e2, h1, h2, Nat.mul_left_comm x, Nat.mul_left_comm y, Nat.mul_comm x y]
theorem share_d {m o x : Nat} (hm : 1 ≤ m) (h : m ∣ o * x) : m / Nat.gcd m o ∣ x := by
  have hg : 0 < Nat.gcd m o := Nat.gcd_pos_of_pos_left o hm
  have hc : Nat.Coprime (m / Nat.gcd m o) (o / Nat.gcd m o) := Nat.coprime_div_gcd_div_gcd hg
  have h2 : Nat.gcd m o * (m / Nat.gcd m o) ∣ Nat.gcd m o * (o / Nat.gcd m o * x) := by
    rw [Nat.mul_div_cancel' (Nat.gcd_dvd_left m o), ← Nat.mul_assoc, Nat.mul_div_cancel' (Nat.gcd_dvd_right m o)]
    exact h
  exact Nat.Coprime.dvd_of_dvd_mul_left hc (Nat.dvd_of_mul_dvd_mul_left hg h2)
theorem mul_sgn {c t : Int} (hc : 0 < c) : 0 ≤ c * t ↔ 0 ≤ t := by
  constructor
  · intro h
    refine Int.not_lt.mp (fun z => ?_)
    have h2 : c * t < 0 := Int.mul_neg_of_pos_of_neg hc z
    omega
  · exact fun h => Int.mul_nonneg (by omega) h
theorem q_pos {V : Vw} (hV : VOk V) : (1 ≤ qL V ∧ qL V ≤ 100) ∧ (1 ≤ qG V ∧ qG V ≤ 100) ∧ (1 ≤ vM V 0 ∧ vM V 0 ≤ 100) ∧ (1 ≤ vM V 1 ∧ vM V 1 ≤ 100) := by
  have M0 := hV.1 0 (by decide)
  have M1 := hV.1 1 (by decide)
  exact ⟨share_b (by omega), share_b (by omega), M0, M1⟩
theorem q_x {V : Vw} (hV : VOk V) : qL V * vM V 0 = qG V * vM V 1 := by
  have M0 := hV.1 0 (by decide)
  have M1 := hV.1 1 (by decide)
  have h := share_x (m := (vM V 1).toNat) (o := (vM V 0).toNat) (by omega)
  have h2 := congrArg (Nat.cast : Nat → Int) h
  rw [Int.natCast_mul, Int.natCast_mul, Int.toNat_of_nonneg (by omega), Int.toNat_of_nonneg (by omega)] at h2
  exact h2
theorem q_dvd {V : Vw} (hV : VOk V) {x y : Int} (hx : 0 ≤ x) (h : vM V 0 * x = vM V 1 * y) : ∃ k, x = k * qL V := by
  have M0 := hV.1 0 (by decide)
  have M1 := hV.1 1 (by decide)
  have hy : 0 ≤ y := by
    have h1 : 0 ≤ vM V 1 * y := by rw [← h]; exact Int.mul_nonneg (by omega) hx
    exact (mul_sgn (by omega)).mp h1
  have hn : (vM V 0).toNat * x.toNat = (vM V 1).toNat * y.toNat := by
    apply Int.ofNat_inj.mp
    rw [Int.natCast_mul, Int.natCast_mul, Int.toNat_of_nonneg hx, Int.toNat_of_nonneg hy, Int.toNat_of_nonneg (by omega), Int.toNat_of_nonneg (by omega)]
    exact h
  obtain ⟨k, hk⟩ := share_d (m := (vM V 1).toNat) (o := (vM V 0).toNat) (x := x.toNat) (by omega) ⟨_, hn⟩
  refine ⟨(k : Int), ?_⟩
  have h2 := congrArg (Nat.cast : Nat → Int) hk
  rw [Int.natCast_mul, Int.toNat_of_nonneg hx, Int.mul_comm] at h2
  exact h2
theorem qr_at {V : Vw} (hV : VOk V) (a b k : Int) : qr V a b (a - k * qL V) = (b + k * qG V) * vM V 1 := by
  have h := q_x hV
  unfold qr
  generalize qL V = L at h ⊢
  generalize qG V = G at h ⊢
  generalize vM V 0 = m0 at h ⊢
  generalize vM V 1 = m1 at h ⊢
  grind
theorem qv_at {V : Vw} (hV : VOk V) (a b k : Int) : qv V a b (a - k * qL V) = b + k * qG V := by
  have M1 := hV.1 1 (by decide)
  unfold qv
  rw [qr_at hV]
  exact Int.mul_tdiv_cancel _ (by omega)
theorem en_at {V : Vw} (hV : VOk V) {a b k : Int} (hk : 1 ≤ k) : vM V 0 * (a - k * qL V) * (a - k * qL V) + vM V 1 * (b + k * qG V) * (b + k * qG V) ≤ vM V 0 * a * a + vM V 1 * b * b ↔ k * (qL V + qG V) ≤ 2 * (a - b) := by
  obtain ⟨l1, g1, M0, M1⟩ := q_pos hV
  have h := q_x hV
  generalize qL V = L at h l1 ⊢
  generalize qG V = G at h g1 ⊢
  generalize vM V 0 = m0 at h M0 ⊢
  generalize vM V 1 = m1 at h M1 ⊢
  have e : m0 * a * a + m1 * b * b - (m0 * (a - k * L) * (a - k * L) + m1 * (b + k * G) * (b + k * G)) = (L * m0) * k * (2 * (a - b) - k * (L + G)) := by grind
  have hc : 0 < L * m0 * k := Int.mul_pos (Int.mul_pos (by omega) (by omega)) (by omega)
  have h2 := mul_sgn (t := 2 * (a - b) - k * (L + G)) hc
  rw [← e] at h2
  generalize m0 * (a - k * L) * (a - k * L) + m1 * (b + k * G) * (b + k * G) = y1 at h2 ⊢
  generalize m0 * a * a + m1 * b * b = y2 at h2 ⊢
  generalize k * (L + G) = y3 at h2 ⊢
  constructor
  · intro z
    have := h2.mp (by omega)
    omega
  · intro z
    have := h2.mpr (by omega)
    omega
/-- the pushes that lead from AT a, b to some AFTER -/
def pk (V : Vw) (set : Nat) (w a b k : Int) : Bool := rgq (qL V) (qG V) a k b && (aq V set w 0 (a - k * qL V) && aq V set w 1 (b + k * qG V))
theorem rg_iff {L G a k b : Int} : rgq L G a k b = true ↔ a - k * (L + G) ≤ b ∧ k * (L + G) ≤ 2 * (a - b) := by
  unfold rgq
  simp only [Bool.and_eq_true, decide_eq_true_eq]
theorem wq_at {V : Vw} (hV : VOk V) {set : Nat} {w a b k : Int} (hk : 1 ≤ k) : wq V set w a b (a - k * qL V) = true ↔ pk V set w a b k = true := by
  obtain ⟨l1, g1, M0, M1⟩ := q_pos hV
  unfold wq pk
  simp only [Bool.and_eq_true, decide_eq_true_eq]
  rw [rg_iff, qv_at hV, qr_at hV, en_at hV hk]
  have hm : 0 < k * (qL V + qG V) := Int.mul_pos (by omega) (by omega)
  have e : k * (qL V + qG V) = k * qL V + k * qG V := Int.mul_add _ _ _
  generalize k * (qL V + qG V) = y1 at hm e ⊢
  constructor
  · rintro ⟨h1, -, h3, h4, h5, h6⟩
    exact ⟨⟨by omega, h6⟩, h4, h5⟩
  · rintro ⟨⟨h1, h2⟩, h4, h5⟩
    exact ⟨by omega, rfl, by omega, h4, h5, h2⟩
theorem wq_k {V : Vw} (hV : VOk V) {set : Nat} {w a b p : Int} (ha : a ≤ 50) (hp : -50 ≤ p) (h : wq V set w a b p = true) : ∃ k, (1 ≤ k ∧ k ≤ 101) ∧ p = a - k * qL V ∧ pk V set w a b k = true := by
  obtain ⟨l1, g1, M0, M1⟩ := q_pos hV
  have h0 := h
  unfold wq at h
  simp only [Bool.and_eq_true, decide_eq_true_eq] at h
  obtain ⟨h1, h2, h3, -, -, -⟩ := h
  unfold qr at h2
  generalize qv V a b p = q at h2 h3
  have e : vM V 0 * (a - p) = vM V 1 * (q - b) := by
    generalize vM V 0 = m0 at h2 ⊢
    generalize vM V 1 = m1 at h2 ⊢
    grind
  have hx : 0 < a - p := by
    refine Int.not_le.mp (fun z => ?_)
    have e1 : 0 ≤ vM V 0 * (p - a) := Int.mul_nonneg (by omega) (by omega)
    have e2 : vM V 0 * (p - a) = vM V 1 * (b - q) := by
      generalize vM V 0 = m0 at e ⊢
      generalize vM V 1 = m1 at e ⊢
      grind
    rw [e2] at e1
    have e3 := (mul_sgn (by omega)).mp e1
    omega
  obtain ⟨k, hk⟩ := q_dvd hV (by omega) e
  have hk1 : 1 ≤ k := by
    refine Int.not_lt.mp (fun z => ?_)
    have e1 : 0 ≤ qL V * (-k) := Int.mul_nonneg (by omega) (by omega)
    rw [Int.mul_neg, Int.mul_comm, ← hk] at e1
    omega
  have hk2 : k ≤ 101 := by
    have e1 : 0 ≤ (qL V - 1) * k := Int.mul_nonneg (by omega) (by omega)
    rw [Int.sub_mul, Int.one_mul, Int.mul_comm, ← hk] at e1
    omega
  have hp : p = a - k * qL V := by omega
  subst hp
  exact ⟨k, ⟨hk1, hk2⟩, rfl, (wq_at hV hk1).mp h0⟩
/-- the ways: AT a, b and AFTER p of car 0 -/
def TW (V : Vw) (set : Nat) (w a b p : Int) : Prop := (-50 ≤ a ∧ a ≤ 50) ∧ (-50 ≤ b ∧ b ≤ 50) ∧ (-50 ≤ p ∧ p ≤ 50) ∧ wq V set w a b p = true ∧ 0 < nT V set w a b
theorem tt_pk {V : Vw} {set : Nat} {w a k b : Int} : TT V set w (qL V) (qG V) a k b ↔ (-50 ≤ a ∧ a ≤ 50) ∧ (-50 ≤ b ∧ b ≤ 50) ∧ (1 ≤ k ∧ k ≤ 101) ∧ pk V set w a b k = true ∧ 0 < nT V set w a b := by
  unfold TT Tq Mt pk okq nT
  simp only [Bool.and_eq_true, decide_eq_true_eq]
  constructor
  · rintro ⟨h1, h2, h3, h4, h5, h6, h7, h8⟩
    exact ⟨h1, h5, h3, ⟨h6, h4, h8⟩, Nat.mul_pos h2 h7⟩
  · rintro ⟨h1, h5, h3, ⟨h6, h4, h8⟩, hn⟩
    exact ⟨h1, Nat.pos_of_mul_pos_right hn, h3, h4, h5, h6, Nat.pos_of_mul_pos_left hn, h8⟩
theorem pk_50 {V : Vw} (hV : VOk V) {set : Nat} {w a b k : Int} (h : pk V set w a b k = true) : (-50 ≤ a - k * qL V ∧ a - k * qL V ≤ 50) ∧ (-50 ≤ b + k * qG V ∧ b + k * qG V ≤ 50) := by
  unfold pk at h
  simp only [Bool.and_eq_true] at h
  exact ⟨aq_50 hV h.2.1, lq_50q hV h.2.2⟩
theorem tt_tw {V : Vw} (hV : VOk V) {set : Nat} {w a k b : Int} (h : TT V set w (qL V) (qG V) a k b) : TW V set w a b (a - k * qL V) := by
  obtain ⟨h1, h2, h3, h4, h5⟩ := tt_pk.mp h
  exact ⟨h1, h2, (pk_50 hV h4).1, (wq_at hV h3.1).mpr h4, h5⟩
theorem tw_tt {V : Vw} (hV : VOk V) {set : Nat} {w a b p : Int} (h : TW V set w a b p) : ∃ k, TT V set w (qL V) (qG V) a k b ∧ p = a - k * qL V ∧ qv V a b p = b + k * qG V := by
  obtain ⟨h1, h2, h3, h4, h5⟩ := h
  obtain ⟨k, k1, k2, k3⟩ := wq_k hV h1.2 h3.1 h4
  exact ⟨k, tt_pk.mpr ⟨h1, h2, k1, k3, h5⟩, k2, by rw [k2]; exact qv_at hV a b k⟩
theorem b2n_mul (c : Bool) (n : Nat) : (if c then n else 0) = n * (if c then 1 else 0) := by cases c <;> simp
theorem pk_count {V : Vw} (hV : VOk V) {set : Nat} {w a b : Int} (ha : -50 ≤ a ∧ a ≤ 50) : fb_sm (fun i => if pk V set w a b ((i : Int) + 1) then 1 else 0) 101 = sm (fun p => if wq V set w a b p then 1 else 0) := by
  obtain ⟨l1, g1, M0, M1⟩ := q_pos hV
  have inj : ∀ k k2 : Int, a - k * qL V = a - k2 * qL V → k = k2 := fun k k2 h => by
    have e : (k - k2) * qL V = 0 := by rw [Int.sub_mul]; omega
    rcases Int.mul_eq_zero.mp e with z | z <;> omega
  refine fb_sm_match (m := 101) (n := 101) (P := fun i => pk V set w a b ((i : Int) + 1)) (Q := fun j => wq V set w a b ((j : Int) - 50)) (R := fun i j => pk V set w a b ((i : Int) + 1) && decide ((j : Int) - 50 = a - ((i : Int) + 1) * qL V)) (fun i hi hP => ?_) (fun i hi hP j hj => ?_) (fun j hj hQ => ?_) (fun j hj hQ i hi => ?_)
  · have hP : pk V set w a b ((i : Int) + 1) = true := hP
    have h5 : -50 ≤ a - ((i : Int) + 1) * qL V ∧ a - ((i : Int) + 1) * qL V ≤ 50 := (pk_50 hV hP).1
    refine ⟨(a - ((i : Int) + 1) * qL V + 50).toNat, by omega, fun j2 hj2 => ?_⟩
    simp only [Bool.and_eq_true, decide_eq_true_eq]
    constructor
    · rintro ⟨-, h⟩; omega
    · intro h; exact ⟨hP, by omega⟩
  · show (pk V set w a b ((i : Int) + 1) && _) = false
    rw [show pk V set w a b ((i : Int) + 1) = false from hP, Bool.false_and]
  · obtain ⟨k, k1, k2, k3⟩ := wq_k hV ha.2 (by omega) hQ
    refine ⟨(k - 1).toNat, by omega, fun i2 hi2 => ?_⟩
    simp only [Bool.and_eq_true, decide_eq_true_eq]
    constructor
    · rintro ⟨-, h⟩
      have := inj k ((i2 : Int) + 1) (by rw [← k2, h])
      omega
    · intro h
      have e : (i2 : Int) + 1 = k := by omega
      rw [e]
      exact ⟨k3, k2⟩
  · show (_ && decide _) = false
    cases hp : pk V set w a b ((i : Int) + 1) with
    | false => rfl
    | true =>
      rw [Bool.true_and, decide_eq_false_iff_not]
      intro z
      have h := (wq_at hV (k := (i : Int) + 1) (by omega)).mpr hp
      rw [← z] at h
      rw [show wq V set w a b ((j : Int) - 50) = false from hQ] at h
      cases h
theorem Nq_sum {V : Vw} {set : Nat} {w a : Int} : Nq V set w (qL V) (qG V) a = sm (fun b => nT V set w a b * fb_sm (fun i => if pk V set w a b ((i : Int) + 1) then 1 else 0) 101) := by
  have e1 : ∀ i : Nat, Hq V set w (qL V) (qG V) a ((i : Int) + 1) = sm (fun b => nT V set w a b * (if pk V set w a b ((i : Int) + 1) then 1 else 0)) := fun i => by
    unfold Hq
    cases h : aq V set w 0 (a - ((i : Int) + 1) * qL V) with
    | false =>
      rw [if_neg (by decide)]
      refine (smv_z (fun b _ _ => ?_)).symm
      rw [if_neg, Nat.mul_zero]
      unfold pk
      rw [h, Bool.false_and, Bool.and_false]
      decide
    | true =>
      rw [if_pos rfl, Nat.mul_comm, ← sm_mul]
      refine sm_cong (fun b _ _ => ?_)
      unfold mtq pk nT okq
      rw [h, Bool.true_and, ← b2n_mul]
      cases rgq (qL V) (qG V) a ((i : Int) + 1) b <;> cases aq V set w 1 (b + ((i : Int) + 1) * qG V) <;> rcases Nat.eq_zero_or_pos (nq V set w 1 b) with z | z <;> simp [z]
  unfold Nq
  rw [fb_sm_cong (fun i _ => e1 i)]
  show fb_sm (fun i => fb_sm (fun j => nT V set w a ((j : Int) - 50) * (if pk V set w a ((j : Int) - 50) ((i : Int) + 1) then 1 else 0)) 101) 101 = fb_sm (fun j => nT V set w a ((j : Int) - 50) * fb_sm (fun i => if pk V set w a ((j : Int) - 50) ((i : Int) + 1) then 1 else 0) 101) 101
  rw [fb_sm_swap]
  exact fb_sm_cong (fun j _ => fb_sm_mul _ _ _)
theorem nW_eq {V : Vw} (hV : VOk V) {set : Nat} {w : Int} : sm (Nq V set w (qL V) (qG V)) = nW V set w := by
  unfold nW
  refine sm_cong (fun a h1 h2 => ?_)
  rw [Nq_sum]
  refine sm_cong (fun b h3 h4 => ?_)
  rw [pk_count hV ⟨h1, h2⟩, ← sm_mul]
  exact sm_cong (fun p _ _ => (b2n_mul _ _).symm)
/-- a speed is this number by some way -/
def Sn (V : Vw) (set : Nat) (w : Int) (r : Nat) (u : Int) : Prop :=
  match r with
  | 0 => ∃ v, (-50 ≤ v ∧ v ≤ 50) ∧ (∃ b p, TW V set w v b p) ∧ fq V set w 0 u v = true
  | 1 => ∃ b p, TW V set w u b p
  | 2 => ∃ a b, TW V set w a b u
  | 3 => ∃ v, (-50 ≤ v ∧ v ≤ 50) ∧ (∃ a p, TW V set w a v p) ∧ fq V set w 1 u v = true
  | 4 => ∃ a p, TW V set w a u p
  | _ => ∃ a b p, TW V set w a b p ∧ u = qv V a b p
/-- what a way costs -/
def PW (V : Vw) (set : Nat) (w : Int) (x : Nat) : Prop := ∃ a b p, TW V set w a b p ∧ ∃ y z, PA V set w 1 b y ∧ PA V set w 0 a z ∧ x = y + pq V 5 (qv V a b p) + z + pq V 2 p
theorem res_at {V : Vw} (hV : VOk V) {set : Nat} {w : Int} {S : QS} (h : Res V set w S) : S.2 25 = lN (nW V set w) ∧ (∀ r, r < 6 → ∀ u, -50 ≤ u → u ≤ 50 → Flag (S.1 (kp r + 2) (ix u)) (Sn V set w r u)) ∧ MinP (S.1 25 3) (PW V set w) := by
  obtain ⟨⟨h1, h2, h3⟩, h4, h5⟩ := h
  have A0 : ∀ u, (∃ k b, TT V set w (qL V) (qG V) u k b) ↔ ∃ b p, TW V set w u b p := fun u => ⟨fun ⟨k, b, q⟩ => ⟨b, _, tt_tw hV q⟩, fun ⟨b, p, q⟩ => by
    obtain ⟨k, q1, -⟩ := tw_tt hV q
    exact ⟨k, b, q1⟩⟩
  have A1 : ∀ u, (∃ a k, TT V set w (qL V) (qG V) a k u) ↔ ∃ a p, TW V set w a u p := fun u => ⟨fun ⟨a, k, q⟩ => ⟨a, _, tt_tw hV q⟩, fun ⟨a, p, q⟩ => by
    obtain ⟨k, q1, -⟩ := tw_tt hV q
    exact ⟨a, k, q1⟩⟩
  refine ⟨by rw [h1, nW_eq hV], fun r hr u hu1 hu2 => ?_, h2.cg (fun x => ?_)⟩
  · rcases (show r = 0 ∨ r = 1 ∨ r = 2 ∨ r = 3 ∨ r = 4 ∨ r = 5 by omega) with rfl | rfl | rfl | rfl | rfl | rfl
    · refine (h4 u hu1 hu2).cg ?_
      exact ⟨fun ⟨v, q1, q2, q3⟩ => ⟨v, q1, (A0 v).mp q2, q3⟩, fun ⟨v, q1, q2, q3⟩ => ⟨v, q1, (A0 v).mpr q2, q3⟩⟩
    · exact (h3 u hu1 hu2).1.cg (A0 u)
    · refine (h3 u hu1 hu2).2.1.cg ?_
      constructor
      · rintro ⟨a, k, b, q, rfl⟩
        exact ⟨a, b, tt_tw hV q⟩
      · rintro ⟨a, b, q⟩
        obtain ⟨k, q1, q2, -⟩ := tw_tt hV q
        exact ⟨a, k, b, q1, q2⟩
    · refine (h5 u hu1 hu2).cg ?_
      exact ⟨fun ⟨v, q1, q2, q3⟩ => ⟨v, q1, (A1 v).mp q2, q3⟩, fun ⟨v, q1, q2, q3⟩ => ⟨v, q1, (A1 v).mpr q2, q3⟩⟩
    · exact (h3 u hu1 hu2).2.2.1.cg (A1 u)
    · refine (h3 u hu1 hu2).2.2.2.cg ?_
      constructor
      · rintro ⟨a, k, b, q, rfl⟩
        exact ⟨a, b, _, tt_tw hV q, (qv_at hV a b k).symm⟩
      · rintro ⟨a, b, p, q, rfl⟩
        obtain ⟨k, q1, -, q3⟩ := tw_tt hV q
        exact ⟨a, k, b, q1, q3⟩
  · constructor
    · rintro ⟨a, k, b, q, y, z, y1, z1, rfl⟩
      exact ⟨a, b, _, tt_tw hV q, y, z, y1, z1, by rw [qv_at hV]⟩
    · rintro ⟨a, b, p, q, y, z, y1, z1, rfl⟩
      obtain ⟨k, q1, q2, q3⟩ := tw_tt hV q
      exact ⟨a, k, b, q1, y, z, y1, z1, by rw [q3, ← q2]⟩
end
section
/-! THE REFERENCE: its small methods, which tales are not so, what a row lets -/
theorem r_in (a b c : Int32) : f_X6_in a b c = some (b2 (decide (b.toInt ≤ a.toInt) && decide (a.toInt ≤ c.toInt))) := by
  unfold f_X6_in
  simp only [fa_lt]
  by_cases h1 : a.toInt < b.toInt
  · rw [if_pos h1, decide_eq_false (show ¬ b.toInt ≤ a.toInt by omega), Bool.false_and]
    rfl
  · rw [if_neg h1, decide_eq_true (show b.toInt ≤ a.toInt by omega), Bool.true_and]
    by_cases h2 : c.toInt < a.toInt
    · rw [if_pos h2, decide_eq_false (show ¬ a.toInt ≤ c.toInt by omega)]
      rfl
    · rw [if_neg h2, decide_eq_true (show a.toInt ≤ c.toInt by omega)]
      rfl
theorem r_inv {v lo hi : Int} (hv : -2147483648 ≤ v ∧ v < 2147483648 := by omega) (h1 : -2147483648 ≤ lo ∧ lo < 2147483648 := by omega) (h2 : -2147483648 ≤ hi ∧ hi < 2147483648 := by omega) : f_X6_in (iv v) (iv lo) (iv hi) = some (b2 (decide (lo ≤ v) && decide (v ≤ hi))) := by
  rw [r_in, iv_to hv, iv_to h1, iv_to h2]
/-- the place of a number of a row -/
def cx (r : Nat) (v : Int) : Nat := 101 * r + ix v
theorem cx_lt {r : Nat} {v : Int} (hr : r < 6) (h : -50 ≤ v ∧ v ≤ 50) : cx r v < 606 := by
  have := ix_lt h
  unfold cx
  omega
theorem cx_ne {r r2 : Nat} {v v2 : Int} (h1 : -50 ≤ v ∧ v ≤ 50) (h2 : -50 ≤ v2 ∧ v2 ≤ 50) (h : r ≠ r2 ∨ v ≠ v2) : cx r v ≠ cx r2 v2 := by
  unfold cx ix
  omega
theorem cx_to {r : Nat} {v : Int} (h : -50 ≤ v ∧ v ≤ 50) : (101 * (r : Int) + v + 50).toNat = cx r v := by
  unfold cx ix
  omega
theorem r_cell {r : Nat} {v : Int} : f_X6_cell (iv (r : Int)) (iv v) = some (iv (101 * (r : Int) + v + 50)) := by
  unfold f_X6_cell
  rw [c_101, c_50, iv_mul, iv_add, iv_add]
theorem rdC {k r : Nat} {v : Int} {S : QS} (hr : r < 6) (h : -50 ≤ v ∧ v ≤ 50) : rdA k 606 (iv (101 * (r : Int) + v + 50)) S = some (S.1 k (cx r v)) := by
  rw [rd_iv (by omega), cx_to h]
theorem wzC {k r : Nat} {v : Int} {y : Int32} {S : QS} (hr : r < 6) (h : -50 ≤ v ∧ v ≤ 50) (hy : y = 0 ∨ y = 1) : wrZ k 606 (iv (101 * (r : Int) + v + 50)) y S = some (setF k (cx r v) y S) := by
  rw [wz_iv (by omega) hy, cx_to h]
theorem row0 {c : Nat} : 3 * iv (c : Int) = iv ((3 * c : Nat) : Int) := by
  rw [c_3, iv_mul]
  rfl
theorem row1 {c : Nat} : 3 * iv (c : Int) + 1 = iv ((3 * c + 1 : Nat) : Int) := by
  rw [c_3, c_1, iv_mul, iv_add]
  rfl
theorem row2 {c : Nat} : 3 * iv (c : Int) + 2 = iv ((3 * c + 2 : Nat) : Int) := by
  rw [c_3, c_2, iv_mul, iv_add]
  rfl
/-! what was told, in the reference -/
def MR (V : Vw) (S : QS) : Prop := (S.1 49 0 = iv (vM V 0) ∧ S.1 49 1 = iv (vM V 1)) ∧ (∀ r, r < 6 → S.1 55 r = iv (vLo V r) ∧ S.1 56 r = iv (vHi V r)) ∧ S.1 48 7 = iv (vNs V : Int) ∧ S.1 48 13 = iv (vNt V : Int) ∧
  (∀ s, s < vNs V → S.1 50 s = iv (kCar V s : Int) ∧ S.1 51 s = b2 (kBeh V s) ∧ S.1 52 s = iv (kLo V s) ∧ S.1 53 s = iv (kHi V s) ∧ S.1 54 s = b2 (!kOn V s)) ∧ (∀ s, vNs V ≤ s → s < 12 → S.1 54 s = 0) ∧
  ∀ t, t < vNt V → S.1 57 t = iv (tRow V t : Int) ∧ S.1 58 t = iv (tLo V t) ∧ S.1 59 t = iv (tHi V t)
theorem MR.kp {V : Vw} {S S1 : QS} (h : MR V S) (hk : ∀ k, 49 ≤ k → k ≤ 59 → S1.1 k = S.1 k) (h7 : S1.1 48 7 = S.1 48 7) (h13 : S1.1 48 13 = S.1 48 13) : MR V S1 := by
  unfold MR at h ⊢
  rw [hk 49 (by omega) (by omega), hk 50 (by omega) (by omega), hk 51 (by omega) (by omega), hk 52 (by omega) (by omega), hk 53 (by omega) (by omega), hk 54 (by omega) (by omega), hk 55 (by omega) (by omega), hk 56 (by omega) (by omega), hk 57 (by omega) (by omega), hk 58 (by omega) (by omega), hk 59 (by omega) (by omega), h7, h13]
  exact h
theorem MR.fr {V : Vw} {P : List Nat} {S S1 : QS} (h : MR V S) (hf : Fr P S S1) (hP : ∀ k, k ∈ P → k < 48 ∨ 60 ≤ k) : MR V S1 := by
  have hk : ∀ k, 48 ≤ k → k ≤ 59 → S1.1 k = S.1 k := fun k h1 h2 => hf.1 k (fun z => by have := hP k z; omega)
  exact h.kp (fun k h1 h2 => hk k (by omega) h2) (by rw [hk 48 (by omega) (by omega)]) (by rw [hk 48 (by omega) (by omega)])
/-! sets of bits as sums -/
def bN (p : Nat → Bool) (n : Nat) : Nat := fb_sm (fun t => if p t then 2 ^ t else 0) n
theorem bN_s (p : Nat → Bool) (n : Nat) : bN p (n + 1) = bN p n + (if p n then 2 ^ n else 0) := fb_sm_succ _ _
theorem bN_lt (p : Nat → Bool) : ∀ n, bN p n < 2 ^ n
  | 0 => by simp [bN, fb_sm]
  | n + 1 => by
    have h := bN_lt p n
    rw [bN_s, Nat.pow_succ]
    split <;> omega
theorem bN_bit (p : Nat → Bool) (t : Nat) : ∀ n, (bN p n).testBit t = (decide (t < n) && p t)
  | 0 => by simp [bN, fb_sm]
  | n + 1 => by
    have ih := bN_bit p t n
    have hl := bN_lt p n
    rw [bN_s]
    rcases Nat.lt_trichotomy t n with h | h | h
    · rw [decide_eq_true h] at ih
      rw [decide_eq_true (show t < n + 1 by omega), ← ih]
      cases p n with
      | false => rw [if_neg (by decide), Nat.add_zero]
      | true => rw [if_pos rfl, Nat.add_comm, Nat.testBit_two_pow_add_gt h]
    · subst h
      rw [decide_eq_false (Nat.lt_irrefl t), Bool.false_and] at ih
      rw [decide_eq_true (show t < t + 1 by omega), Bool.true_and]
      cases hp : p t with
      | false => rw [if_neg (by decide), Nat.add_zero, ih]
      | true => rw [if_pos rfl, Nat.add_comm, Nat.testBit_two_pow_add_eq, ih]; rfl
    · rw [decide_eq_false (show ¬ t < n + 1 by omega), Bool.false_and]
      apply Nat.testBit_lt_two_pow
      have h2 : (2 : Nat) ^ (n + 1) ≤ 2 ^ t := Nat.pow_le_pow_right (by decide) h
      have h3 : (2 : Nat) ^ (n + 1) = 2 ^ n + 2 ^ n := by rw [Nat.pow_succ]; omega
      split <;> omega
theorem bN_up {p : Nat → Bool} {x n : Nat} (hx : x < 2 ^ n) (h : ∀ t, t < n → x.testBit t = p t) : x = bN p n := by
  apply Nat.eq_of_testBit_eq
  intro t
  rw [bN_bit]
  by_cases c : t < n
  · rw [h t c, decide_eq_true c, Bool.true_and]
  · rw [decide_eq_false c, Bool.false_and]
    apply Nat.testBit_lt_two_pow
    exact Nat.lt_of_lt_of_le hx (Nat.pow_le_pow_right (by decide) (by omega))
theorem or_pow {x n : Nat} (h : x < 2 ^ n) : nI x ||| nI (2 ^ n) = nI (x + 2 ^ n) := by
  have h1 := Nat.two_pow_add_eq_or_of_lt h 1
  rw [Nat.mul_one] at h1
  rw [fa_or, Nat.or_comm, ← h1, Nat.add_comm]
theorem and_0 {x y : Nat} : x &&& y = 0 ↔ ∀ t, ¬ (x.testBit t = true ∧ y.testBit t = true) := by
  constructor
  · intro h t ⟨h1, h2⟩
    have h3 : (x &&& y).testBit t = false := by rw [h]; exact Nat.zero_testBit t
    rw [Nat.testBit_and, h1, h2] at h3
    cases h3
  · intro h
    apply Nat.eq_of_testBit_eq
    intro t
    rw [Nat.testBit_and, Nat.zero_testBit]
    have := h t
    cases h1 : x.testBit t <;> cases h2 : y.testBit t <;> simp_all
theorem nI_z {x : Nat} (h : x < 2 ^ 31) : nI x = 0 ↔ x = 0 := by
  constructor
  · intro z
    rcases Nat.eq_zero_or_pos x with q | q
    · exact q
    · exact absurd z (nI_ne0 q h)
  · rintro rfl
    exact nI_0
/-- the tales of a row that are not so at a number, as bits -/
def fl (V : Vw) (r : Nat) (v : Int) : Nat := bN (tB V r v) (vNt V)
theorem fl_lt {V : Vw} (hV : VOk V) (r : Nat) (v : Int) : fl V r v < 1024 := by
  have h := bN_lt (tB V r v) (vNt V)
  have h2 : (2 : Nat) ^ vNt V ≤ 2 ^ 10 := Nat.pow_le_pow_right (by decide) hV.2.2.2.2.1
  unfold fl
  omega
theorem fl_bit (V : Vw) (r : Nat) (v : Int) (t : Nat) : (fl V r v).testBit t = (decide (t < vNt V) && tB V r v t) := bN_bit _ _ _
theorem fl_and {V : Vw} (hV : VOk V) {set r : Nat} {v : Int} : nI (fl V r v) &&& nI set = 0 ↔ allB (fun t => !(tB V r v t && set.testBit t)) (vNt V) = true := by
  have hl := fl_lt hV r v
  have h2 : fl V r v &&& set ≤ fl V r v := Nat.and_le_left
  rw [fa_and, nI_z (by omega), and_0, allB_iff]
  constructor
  · intro h t ht
    have := h t
    rw [fl_bit, decide_eq_true ht, Bool.true_and] at this
    cases h1 : tB V r v t <;> cases h2 : set.testBit t <;> simp_all
  · intro h t ⟨h1, h2⟩
    rw [fl_bit] at h1
    simp only [Bool.and_eq_true, decide_eq_true_eq] at h1
    have := h t h1.1
    rw [h1.2, h2] at this
    cases this
theorem r_falses {V : Vw} (hV : VOk V) {S : QS} (hM : MR V S) {r : Nat} (hr : r < 6) {v : Int} (hv : -50 ≤ v ∧ v ≤ 50) : f_X6_falses (iv (r : Int)) (iv v) S = some (nI (fl V r v)) := by
  have hn := hV.2.2.2.2.1
  obtain ⟨-, -, -, h13, -, -, hT⟩ := hM
  have main := loopN (fun fuel t s => lp_X6_falses_5 (iv (r : Int)) (iv v) S fuel s t) id (fun n s => s = nI (bN (tB V r v) n)) (vNt V) (by omega)
    (fun fuel s hI => by
      show lp_X6_falses_5 (iv (r : Int)) (iv v) S (fuel + 1) s (iv (vNt V : Int)) = some s
      rw [lp_X6_falses_5, h13, if_pos (y_le (a := (vNt V : Int)) (b := (vNt V : Int)) (Int.le_refl _))])
    (fun fuel n s hlt hI => by
      have hI : s = nI (bN (tB V r v) n) := hI
      subst hI
      obtain ⟨t0, t1, t2⟩ := hT n hlt
      have hr2 := (hV.2.2.2.2.2 n hlt)
      refine ⟨nI (bN (tB V r v) (n + 1)), ?_, rfl⟩
      show lp_X6_falses_5 (iv (r : Int)) (iv v) S (fuel + 1) (nI (bN (tB V r v) n)) (iv (n : Int)) = lp_X6_falses_5 (iv (r : Int)) (iv v) S fuel (nI (bN (tB V r v) (n + 1))) (iv ((n + 1 : Nat) : Int))
      have hlt10 : n < 10 := by omega
      rw [lp_X6_falses_5, h13, if_neg (n_le (a := (vNt V : Int)) (b := (n : Int)) (by omega)), rd_iv (by omega), ob, Int.toNat_natCast, t0]
      have fin : ∀ (b : Bool) (q : Option Int32), tB V r v n = b → q = some (if b then nI (2 ^ n) else 0) → (q.bind fun q5 => lp_X6_falses_5 (iv (r : Int)) (iv v) S fuel (nI (bN (tB V r v) n) ||| q5) (iv (n : Int) + 1)) = lp_X6_falses_5 (iv (r : Int)) (iv v) S fuel (nI (bN (tB V r v) (n + 1))) (iv ((n + 1 : Nat) : Int)) := by
        rintro b q hb rfl
        rw [ob, bN_s, hb, iv_one]
        cases b with
        | false =>
          rw [if_neg (by decide), if_neg (by decide), Nat.add_zero, ← nI_0, fa_or, Nat.or_zero]
          rfl
        | true =>
          rw [if_pos rfl, if_pos rfl, or_pow (bN_lt _ _)]
          rfl
      by_cases hrow : tRow V n = r
      · have e : tB V r v n = !(decide (tLo V n ≤ v) && decide (v ≤ tHi V n)) := by unfold tB; rw [decide_eq_true hrow, Bool.true_and]
        rw [if_pos (by rw [hrow])]
        refine fin _ _ rfl ?_
        rw [rd_iv (by omega), ob, rd_iv (by omega), ob, Int.toNat_natCast, t1, t2, r_inv (by omega) (by omega) (by omega), ob, e, shl_iv (by omega)]
        cases (decide (tLo V n ≤ v) && decide (v ≤ tHi V n)) with
        | false => rw [if_pos (by decide), Bool.not_false, if_pos rfl]
        | true => rw [if_neg (by decide), Bool.not_true, if_neg (by decide)]
      · have e : tB V r v n = false := by unfold tB; rw [decide_eq_false hrow, Bool.false_and]
        rw [if_neg (n_eq (a := (tRow V n : Int)) (b := (r : Int)) (by omega))]
        exact fin _ _ rfl (by rw [e, if_neg (by decide)]))
    0 rfl
  obtain ⟨s1, e1, i1⟩ := main
  have i1 : s1 = nI (bN (tB V r v) (vNt V)) := i1
  subst i1
  unfold f_X6_falses
  rw [c_0]
  rw [c_0] at e1
  exact e1
theorem lq_eq (V : Vw) (set r : Nat) (v : Int) : lq V set r v = ((decide (vLo V r ≤ v) && decide (v ≤ vHi V r)) && allB (fun t => !(tB V r v t && set.testBit t)) (vNt V)) := rfl
theorem r_letsRow {V : Vw} (hV : VOk V) {set : Nat} {S : QS} (hM : MR V S) {r : Nat} (hr : r < 6) :
    ∃ S1, lp_X6_lets_11 (nI set) (iv (r : Int)) FU (-50) S = some S1 ∧ Fr [60, 61] S S1 ∧ (∀ u, -50 ≤ u → u ≤ 50 → S1.1 60 (cx r u) = b2 (lq V set r u) ∧ S1.1 61 (cx r u) = 0) ∧
      ∀ r2, r2 ≠ r → ∀ u, -50 ≤ u → u ≤ 50 → S1.1 60 (cx r2 u) = S.1 60 (cx r2 u) ∧ S1.1 61 (cx r2 u) = S.1 61 (cx r2 u) := by
  have main := loop50 (fun fuel v s => lp_X6_lets_11 (nI set) (iv (r : Int)) fuel v s) id (fun v s => Fr [60, 61] S s ∧ (∀ u, -50 ≤ u → u < v → u ≤ 50 → s.1 60 (cx r u) = b2 (lq V set r u) ∧ s.1 61 (cx r u) = 0) ∧
      ∀ r2, r2 ≠ r → ∀ u, -50 ≤ u → u ≤ 50 → s.1 60 (cx r2 u) = S.1 60 (cx r2 u) ∧ s.1 61 (cx r2 u) = S.1 61 (cx r2 u))
    (fun fuel s => by
      show lp_X6_lets_11 (nI set) (iv (r : Int)) (fuel + 1) (iv 51) s = some s
      rw [lp_X6_lets_11, if_pos gt50])
    (fun fuel v s h3 h4 hI => by
      obtain ⟨i1, i2, i3⟩ := hI
      have hM1 : MR V s := hM.fr i1 (by decide)
      obtain ⟨hlo, hhi⟩ := hM1.2.1 r hr
      have hb := hV.2.1 r hr
      have hv : -50 ≤ v ∧ v ≤ 50 := ⟨h3, h4⟩
      refine ⟨setF 61 (cx r v) 0 (setF 60 (cx r v) (b2 (lq V set r v)) s), ?_, ?_, ?_, ?_⟩
      · show lp_X6_lets_11 (nI set) (iv (r : Int)) (fuel + 1) (iv v) s = lp_X6_lets_11 (nI set) (iv (r : Int)) fuel (iv (v + 1)) _
        have q : (if b2 (decide (vLo V r ≤ v) && decide (v ≤ vHi V r)) = 0 then (some 0) else ((f_X6_falses (iv (r : Int)) (iv v) s).bind fun v16 => if (v16 &&& nI set) = 0 then (some 1) else (some 0))) = some (b2 (lq V set r v)) := by
          rw [lq_eq]
          cases (decide (vLo V r ≤ v) && decide (v ≤ vHi V r)) with
          | false => rw [if_pos (by decide), Bool.false_and]; rfl
          | true =>
            rw [if_neg (by decide), r_falses hV hM1 hr hv, ob, Bool.true_and]
            cases hall : allB (fun t => !(tB V r v t && set.testBit t)) (vNt V) with
            | true => rw [if_pos ((fl_and hV).mpr hall)]; rfl
            | false => rw [if_neg (fun z => by rw [(fl_and hV).mp z] at hall; cases hall)]; rfl
        rw [lp_X6_lets_11, if_neg (hi50 h4), r_cell, ob, rd_iv (by omega), ob, rd_iv (by omega), ob, Int.toNat_natCast, hlo, hhi, r_inv (by omega) (by omega) (by omega), ob, q, ob, wzC hr hv (b2_or _), ob, ob, wzC hr hv (Or.inl rfl), ob, iv_one]
      · exact (i1.tr (Fr.set (by decide))).tr (Fr.set (by decide))
      · intro u h5 h6 h7
        by_cases c : u = v
        · subst c
          exact ⟨by rw [st_nek (by decide), st_eq], st_eq _ _ _ _⟩
        · have hn : cx r u ≠ cx r v := cx_ne ⟨h5, h7⟩ hv (Or.inr c)
          obtain ⟨j1, j2⟩ := i2 u h5 (by omega) h7
          exact ⟨by rw [st_nek (by decide), st_nej hn]; exact j1, by rw [st_nej hn, st_nek (by decide)]; exact j2⟩
      · intro r2 hr2 u h5 h6
        have hn : cx r2 u ≠ cx r v := cx_ne ⟨h5, h6⟩ hv (Or.inl hr2)
        obtain ⟨j1, j2⟩ := i3 r2 hr2 u h5 h6
        exact ⟨by rw [st_nek (by decide), st_nej hn]; exact j1, by rw [st_nej hn, st_nek (by decide)]; exact j2⟩)
    S ⟨Fr.rf, fun u _ _ _ => by omega, fun _ _ _ _ _ => ⟨rfl, rfl⟩⟩
  obtain ⟨S1, e, i1, i2, i3⟩ := main
  exact ⟨S1, by rw [c_m50]; exact e, i1, fun u h1 h2 => i2 u h1 (by omega) h2, i3⟩
theorem r_lets {V : Vw} (hV : VOk V) {set : Nat} {S : QS} (hM : MR V S) :
    ∃ S1, f_X6_lets (nI set) S = some S1 ∧ Fr [60, 61] S S1 ∧ ∀ r, r < 6 → ∀ u, -50 ≤ u → u ≤ 50 → S1.1 60 (cx r u) = b2 (lq V set r u) ∧ S1.1 61 (cx r u) = 0 := by
  have main := loopN (fun fuel v s => lp_X6_lets_2 (nI set) fuel v s) id (fun n s => Fr [60, 61] S s ∧ ∀ r, r < n → ∀ u, -50 ≤ u → u ≤ 50 → s.1 60 (cx r u) = b2 (lq V set r u) ∧ s.1 61 (cx r u) = 0) 6 (by decide)
    (fun fuel s hI => by
      show lp_X6_lets_2 (nI set) (fuel + 1) (iv ((6 : Nat) : Int)) s = some s
      rw [lp_X6_lets_2, if_pos (by decide)])
    (fun fuel n s hlt hI => by
      obtain ⟨i1, i2⟩ := hI
      obtain ⟨s1, e1, f1, g1, g2⟩ := r_letsRow (set := set) hV (hM.fr i1 (by decide)) hlt
      refine ⟨s1, ?_, i1.tr f1, fun r hr u h1 h2 => ?_⟩
      · show lp_X6_lets_2 (nI set) (fuel + 1) (iv (n : Int)) s = lp_X6_lets_2 (nI set) fuel (iv ((n + 1 : Nat) : Int)) s1
        rw [lp_X6_lets_2, if_neg (by rw [c_6]; exact n_le (by omega)), e1, ob, iv_one]
        rfl
      · by_cases c : r = n
        · subst c
          exact g1 u h1 h2
        · obtain ⟨j1, j2⟩ := g2 r c u h1 h2
          rw [j1, j2]
          exact i2 r (by omega) u h1 h2)
    S ⟨Fr.rf, fun _ h => absurd h (Nat.not_lt_zero _)⟩
  obtain ⟨S1, e, i1, i2⟩ := main
  exact ⟨S1, by unfold f_X6_lets; rw [c_0]; exact e, i1, i2⟩
end
section
/-! THE REFERENCE: what skids take, FIRST that lead to AT, their counts -/
theorem sN_le (V : Vw) (w : Int) (c : Nat) (b : Bool) (n : Nat) : sNn V w c b n ≤ n := by
  have h := fb_sm_bound (f := fun s => if oq V w c b s then 1 else 0) (c := 1) (n := n) (fun k _ => by split <;> omega)
  unfold sNn
  omega
theorem r_takes {V : Vw} (hV : VOk V) {S : QS} (hM : MR V S) {c : Nat} (hc : c < 2) (b : Bool) {x w : Int} (hx : -1000000000 ≤ x ∧ x ≤ 1000000000) (hw : -1 ≤ w ∧ w ≤ 100) :
    f_X6_takes (iv (c : Int)) (b2 b) (iv x) (iv w) S = some (b2 (if b then tkB V w c x else tkA V w c x)) := by
  have hn := hV.2.2.1
  obtain ⟨-, -, h7, -, hS, -, -⟩ := hM
  have main := loopN (fun fuel t (s : Int32 × Int32 × Int32) => lp_X6_takes_12 (iv (c : Int)) (b2 b) (iv w) S fuel s.1 s.2.1 s.2.2 t) id (fun n s => s = (iv (sLn V w c b n), iv (sHn V w c b n), iv (sNn V w c b n : Int))) (vNs V) (by omega)
    (fun fuel s hI => by
      show lp_X6_takes_12 (iv (c : Int)) (b2 b) (iv w) S (fuel + 1) s.1 s.2.1 s.2.2 (iv (vNs V : Int)) = some s
      rw [lp_X6_takes_12, h7, if_pos (y_le (a := (vNs V : Int)) (b := (vNs V : Int)) (Int.le_refl _))])
    (fun fuel n s hlt hI => by
      have hI : s = (iv (sLn V w c b n), iv (sHn V w c b n), iv (sNn V w c b n : Int)) := hI
      subst hI
      obtain ⟨s0, s1, s2, s3, s4⟩ := hS n hlt
      have hk := hV.2.2.2.1 n hlt
      refine ⟨(iv (sLn V w c b (n + 1)), iv (sHn V w c b (n + 1)), iv (sNn V w c b (n + 1) : Int)), ?_, rfl⟩
      show lp_X6_takes_12 (iv (c : Int)) (b2 b) (iv w) S (fuel + 1) (iv (sLn V w c b n)) (iv (sHn V w c b n)) (iv (sNn V w c b n : Int)) (iv (n : Int)) = lp_X6_takes_12 (iv (c : Int)) (b2 b) (iv w) S fuel (iv (sLn V w c b (n + 1))) (iv (sHn V w c b (n + 1))) (iv (sNn V w c b (n + 1) : Int)) (iv ((n + 1 : Nat) : Int))
      have skip : oq V w c b n = false → lp_X6_takes_12 (iv (c : Int)) (b2 b) (iv w) S fuel (iv (sLn V w c b n)) (iv (sHn V w c b n)) (iv (sNn V w c b n : Int)) (iv (n : Int) + 1) = lp_X6_takes_12 (iv (c : Int)) (b2 b) (iv w) S fuel (iv (sLn V w c b (n + 1))) (iv (sHn V w c b (n + 1))) (iv (sNn V w c b (n + 1) : Int)) (iv ((n + 1 : Nat) : Int)) := fun h => by
        rw [sLn_s, sHn_s, sNn_s, h, if_neg (by decide), if_neg (by decide), if_neg (by decide), Int.add_zero, Int.add_zero, Nat.add_zero, iv_one]
        rfl
      rw [lp_X6_takes_12, h7, if_neg (n_le (a := (vNs V : Int)) (b := (n : Int)) (by omega)), rd_iv (by omega), ob, Int.toNat_natCast, s0]
      by_cases q1 : kCar V n = c
      · rw [if_pos (by rw [q1]), rd_iv (by omega), ob, Int.toNat_natCast, s1]
        by_cases q2 : kBeh V n = b
        · rw [if_pos (by rw [q2]), rd_iv (by omega), ob, Int.toNat_natCast, s4]
          cases q3 : kOn V n with
          | false =>
            rw [if_neg (by decide)]
            exact skip (by simp [oq, q3])
          | true =>
            rw [if_pos (by decide)]
            by_cases q4 : (n : Int) = w
            · rw [if_pos (by rw [q4])]
              exact skip (by simp [oq, q4])
            · have ho : oq V w c b n = true := by simp [oq, q1, q2, q3, q4]
              rw [if_neg (n_eq (a := (n : Int)) (b := w) q4), rd_iv (by omega), ob, rd_iv (by omega), ob, Int.toNat_natCast, s2, s3, sLn_s, sHn_s, sNn_s, ho, if_pos rfl, if_pos rfl, if_pos rfl, iv_add, iv_add, iv_one, iv_one]
              rfl
        · rw [if_neg (fun z => q2 (by cases h1 : kBeh V n <;> cases h2 : b <;> simp_all [b2]))]
          exact skip (by
            have e : (kBeh V n == b) = false := by cases h1 : kBeh V n <;> cases h2 : b <;> simp_all
            unfold oq
            rw [e, Bool.and_false, Bool.and_false, Bool.and_false])
      · rw [if_neg (n_eq (a := (kCar V n : Int)) (b := (c : Int)) (by omega))]
        exact skip (by
          have e : decide (kCar V n = c) = false := decide_eq_false q1
          unfold oq
          rw [e, Bool.false_and, Bool.and_false, Bool.and_false]))
    (0, 0, 0) rfl
  obtain ⟨s1, e1, i1⟩ := main
  have i1 : s1 = (iv (sL V w c b), iv (sH V w c b), iv (sN V w c b : Int)) := i1
  subst i1
  have b1 := sL_b hV w c b
  have b3 := sH_b hV w c b
  have b5 := sN_le V w c b (vNs V)
  have hct : ct_X6_takes_105 (iv x) (iv (sL V w c b), iv (sH V w c b), iv (sN V w c b : Int)) = some (b2 (decide (sL V w c b ≤ x) && decide (x ≤ sH V w c b))) := by
    unfold ct_X6_takes_105
    show (f_X6_in (iv x) (iv (sL V w c b)) (iv (sH V w c b))).bind _ = _
    rw [r_inv (by omega) (by omega) (by omega), ob]
    cases (decide (sL V w c b ≤ x) && decide (x ≤ sH V w c b)) with
    | false => rfl
    | true => rfl
  unfold f_X6_takes
  have e1 : lp_X6_takes_12 (iv (c : Int)) (b2 b) (iv w) S FU 0 0 0 0 = some (iv (sL V w c b), iv (sH V w c b), iv (sN V w c b : Int)) := e1
  rw [e1, ob]
  cases b with
  | false =>
    rw [if_pos (by decide), hct, if_neg (by decide)]
    rfl
  | true =>
    rw [if_neg (by decide), if_pos (rfl : true = true)]
    show (if iv (sN V w c true : Int) = 0 then some 1 else _) = _
    unfold tkB
    have b5 : sN V w c true ≤ vNs V := b5
    by_cases q : sN V w c true = 0
    · rw [if_pos (by rw [q]; rfl), decide_eq_true q, Bool.true_or]
      rfl
    · rw [if_neg (by rw [c_0]; exact n_eq (by omega)), hct, decide_eq_false q, Bool.false_or]
theorem r_isFirst {V : Vw} (hV : VOk V) {S : QS} (hM : MR V S) {c : Nat} (hc : c < 2) {f a w : Int} (hf : -50 ≤ f ∧ f ≤ 50) (ha : -50 ≤ a ∧ a ≤ 50) (hw : -1 ≤ w ∧ w ≤ 100) {set : Nat} (hl : S.1 60 (cx (3 * c) f) = b2 (lq V set (3 * c) f)) :
    f_X6_isFirst (iv (c : Int)) (iv f) (iv a) (iv w) S = some (b2 (fq V set w c f a)) := by
  have q : ((if iv a ≤ 0 then (if 0 ≤ iv a then (if iv f < 0 then (some 0) else (some 1)) else (if 0 ≤ iv f then (some 0) else (some 1))) else (if iv f ≤ 0 then (some 0) else (some 1))) : Option (Int32)) = some (b2 (sgq f a)) := by
    unfold sgq
    rw [c_0]
    by_cases h1 : 0 < a
    · rw [if_neg (n_le (a := a) (b := 0) h1), if_pos h1]
      by_cases h2 : 0 < f
      · rw [if_neg (n_le (a := f) (b := 0) h2), decide_eq_true h2]; rfl
      · rw [if_pos (y_le (a := f) (b := 0) (by omega)), decide_eq_false h2]; rfl
    · rw [if_pos (y_le (a := a) (b := 0) (by omega)), if_neg h1]
      by_cases h3 : a < 0
      · rw [if_neg (n_le (a := 0) (b := a) h3), if_pos h3]
        by_cases h2 : f < 0
        · rw [if_neg (n_le (a := 0) (b := f) h2), decide_eq_true h2]; rfl
        · rw [if_pos (y_le (a := 0) (b := f) (by omega)), decide_eq_false h2]; rfl
      · rw [if_pos (y_le (a := 0) (b := a) (by omega)), if_neg h3]
        by_cases h2 : f < 0
        · rw [if_pos (y_lt (a := f) (b := 0) h2), decide_eq_false (show ¬ 0 ≤ f by omega)]; rfl
        · rw [if_neg (n_lt (a := f) (b := 0) (by omega)), decide_eq_true (show 0 ≤ f by omega)]; rfl
  have sf := sq_b hf
  have sa := sq_b ha
  unfold f_X6_isFirst
  rw [q, ob]
  unfold fq
  cases sgq f a with
  | false => rw [if_pos (by decide), Bool.false_and]; rfl
  | true =>
    rw [if_neg (by decide), row0, r_cell, ob, rdC (by omega) hf, ob, hl, Bool.true_and]
    cases lq V set (3 * c) f with
    | false => rw [if_pos (by decide), Bool.false_and]; rfl
    | true =>
      have ht := r_takes hV hM hc false (x := 51 * (f * f - a * a)) (w := w) (by omega) hw
      rw [if_neg (by decide), c_51, iv_mul, iv_mul, iv_sub, iv_mul, show (0 : Int32) = b2 false from rfl, ht, ob, Bool.true_and, if_neg (by decide : ¬ (false = true))]
      cases tkA V w c (51 * (f * f - a * a)) with
      | false => rfl
      | true => rfl
theorem r_count {V : Vw} (hV : VOk V) {S : QS} (hM : MR V S) {c : Nat} (hc : c < 2) {a w : Int} (ha : -50 ≤ a ∧ a ≤ 50) (hw : -1 ≤ w ∧ w ≤ 100) {set : Nat} (hl0 : ∀ f, -50 ≤ f → f ≤ 50 → S.1 60 (cx (3 * c) f) = b2 (lq V set (3 * c) f)) (hl1 : S.1 60 (cx (3 * c + 1) a) = b2 (lq V set (3 * c + 1) a)) :
    lp_X6_counts_23 (iv w) (iv (c : Int)) (iv a) S FU 0 (-50) = some (iv (nq V set w c a : Int)) := by
  unfold nq
  cases hl : lq V set (3 * c + 1) a with
  | false =>
    show lp_X6_counts_23 (iv w) (iv (c : Int)) (iv a) S (1099 + 1) 0 (-50) = _
    rw [lp_X6_counts_23, if_neg (by decide), row1, r_cell, ob, rdC (by omega) ha, ob, hl1, hl, if_pos (by decide), if_neg (by decide)]
    rfl
  | true =>
    rw [if_pos (rfl : true = true)]
    have main := loop50 (fun fuel v s => lp_X6_counts_23 (iv w) (iv (c : Int)) (iv a) S fuel s v) id (fun v s => s = iv (smv (fun f => if fq V set w c f a then 1 else 0) v : Int))
      (fun fuel s => by
        show lp_X6_counts_23 (iv w) (iv (c : Int)) (iv a) S (fuel + 1) s (iv 51) = some s
        rw [lp_X6_counts_23, if_pos gt50])
      (fun fuel v s h3 h4 hI => by
        have hI : s = iv (smv (fun f => if fq V set w c f a then 1 else 0) v : Int) := hI
        subst hI
        refine ⟨iv (smv (fun f => if fq V set w c f a then 1 else 0) (v + 1) : Int), ?_, rfl⟩
        show lp_X6_counts_23 (iv w) (iv (c : Int)) (iv a) S (fuel + 1) (iv (smv (fun f => if fq V set w c f a then 1 else 0) v : Int)) (iv v) = lp_X6_counts_23 (iv w) (iv (c : Int)) (iv a) S fuel (iv (smv (fun f => if fq V set w c f a then 1 else 0) (v + 1) : Int)) (iv (v + 1))
        rw [lp_X6_counts_23, if_neg (hi50 h4), row1, r_cell, ob, rdC (by omega) ha, ob, hl1, hl, if_neg (by decide), r_isFirst hV hM hc ⟨h3, h4⟩ ha hw (hl0 v h3 h4), ob, smv_s _ h3, iv_one]
        cases fq V set w c v a with
        | false => rw [if_pos (by decide), ob, c_0, iv_add, if_neg (by decide)]; rfl
        | true => rw [if_neg (by decide), ob, c_1, iv_add, if_pos rfl]; rfl)
      0 rfl
    obtain ⟨s1, e1, i1⟩ := main
    have i1 : s1 = iv (sm (fun f => if fq V set w c f a then 1 else 0) : Int) := i1
    subst i1
    rw [c_m50]
    exact e1
/-- how far the counts are -/
def KC (V : Vw) (set : Nat) (w : Int) (c : Nat) (v : Int) (s : QS) : Prop := (∀ d, d < 2 → ∀ u, -50 ≤ u → u ≤ 50 → (d < c ∨ (d = c ∧ u < v)) → s.1 62 (cx d u) = iv (nq V set w d u : Int) ∧ s.1 60 (cx (3 * d + 2) u) = b2 (aq V set w d u)) ∧
  ∀ r, r < 6 → ∀ u, -50 ≤ u → u ≤ 50 → (r % 3 ≠ 2 ∨ ¬ (r / 3 < c ∨ (r / 3 = c ∧ u < v))) → s.1 60 (cx r u) = b2 (lq V set r u)
theorem r_countsCar {V : Vw} (hV : VOk V) {S : QS} (hM : MR V S) {c : Nat} (hc : c < 2) {w : Int} (hw : -1 ≤ w ∧ w ≤ 100) {set : Nat} (hK : KC V set w c (-50) S) :
    ∃ S1, lp_X6_counts_10 (iv w) (iv (c : Int)) FU (-50) S = some S1 ∧ Fr [60, 62] S S1 ∧ KC V set w (c + 1) (-50) S1 := by
  have main := loop50 (fun fuel v s => lp_X6_counts_10 (iv w) (iv (c : Int)) fuel v s) id (fun v s => Fr [60, 62] S s ∧ KC V set w c v s)
    (fun fuel s => by
      show lp_X6_counts_10 (iv w) (iv (c : Int)) (fuel + 1) (iv 51) s = some s
      rw [lp_X6_counts_10, if_pos gt50])
    (fun fuel v s h3 h4 hI => by
      obtain ⟨i1, i2, i3⟩ := hI
      have hv : -50 ≤ v ∧ v ≤ 50 := ⟨h3, h4⟩
      have hM1 : MR V s := hM.fr i1 (by decide)
      have hnq : nq V set w c v ≤ 101 := na_le
      have hsq := sq_b hv
      have e51 : 51 * v * v = 51 * (v * v) := Int.mul_assoc _ _ _
      obtain ⟨s1, hs1⟩ : ∃ s1, s1 = setF 62 (cx c v) (iv (nq V set w c v : Int)) s := ⟨_, rfl⟩
      have f1 : Fr [60, 62] s s1 := by rw [hs1]; exact Fr.set (by decide)
      have hM2 : MR V s1 := hM1.fr f1 (by decide)
      have e60 : s1.1 60 = s.1 60 := by rw [hs1, st_nek (by decide)]
      have hcnt := r_count (set := set) hV hM1 hc hv hw (fun f h1 h2 => i3 (3 * c) (by omega) f h1 h2 (by omega)) (i3 (3 * c + 1) (by omega) v h3 h4 (by omega))
      have hold := i3 (3 * c + 2) (by omega) v h3 h4 (by omega)
      refine ⟨setF 60 (cx (3 * c + 2) v) (b2 (aq V set w c v)) s1, ?_, (i1.tr f1).tr (Fr.set (by decide)), ?_, ?_⟩
      · show lp_X6_counts_10 (iv w) (iv (c : Int)) (fuel + 1) (iv v) s = lp_X6_counts_10 (iv w) (iv (c : Int)) fuel (iv (v + 1)) _
        have q : (if b2 (lq V set (3 * c + 2) v) = 0 then (some 0) else ((f_X6_takes (iv (c : Int)) 1 ((51 * iv v) * iv v) (iv w) s1).bind fun v24 => if v24 = 0 then (some 0) else (some 1))) = some (b2 (aq V set w c v)) := by
          unfold aq
          cases lq V set (3 * c + 2) v with
          | false => rw [if_pos (by decide), Bool.false_and]; rfl
          | true =>
            have ht := r_takes hV hM2 hc true (x := 51 * v * v) (w := w) (by omega) hw
            rw [if_neg (by decide), c_51, iv_mul, iv_mul, show (1 : Int32) = b2 true from rfl, ht, ob, Bool.true_and, if_pos (rfl : true = true)]
            cases tkB V w c (51 * v * v) with
            | false => rfl
            | true => rfl
        rw [lp_X6_counts_10, if_neg (hi50 h4), hcnt, ob, c_101, c_50, iv_mul, iv_add, iv_add, wr_iv (by omega), ob, cx_to hv, ← hs1, row2, r_cell, ob, rdC (by omega) hv, ob, e60, hold, q, ob, wzC (by omega) hv (b2_or _), ob, iv_one]
      · intro d hd u h1 h2 h5
        by_cases e : d = c ∧ u = v
        · obtain ⟨rfl, rfl⟩ := e
          exact ⟨by rw [st_nek (by decide), hs1, st_eq], st_eq _ _ _ _⟩
        · have n1 : cx d u ≠ cx c v := cx_ne ⟨h1, h2⟩ hv (by omega)
          have n2 : cx (3 * d + 2) u ≠ cx (3 * c + 2) v := cx_ne ⟨h1, h2⟩ hv (by omega)
          obtain ⟨j1, j2⟩ := i2 d hd u h1 h2 (by omega)
          exact ⟨by rw [st_nek (by decide), hs1, st_nej n1]; exact j1, by rw [st_nej n2, e60]; exact j2⟩
      · intro r hr u h1 h2 h5
        have n2 : cx r u ≠ cx (3 * c + 2) v := cx_ne ⟨h1, h2⟩ hv (by omega)
        rw [st_nej n2, e60]
        exact i3 r hr u h1 h2 (by omega))
    S ⟨Fr.rf, hK⟩
  obtain ⟨S1, e, i1, i2, i3⟩ := main
  exact ⟨S1, by rw [c_m50]; exact e, i1, fun d hd u h1 h2 h5 => i2 d hd u h1 h2 (by omega), fun r hr u h1 h2 h5 => i3 r hr u h1 h2 (by omega)⟩
theorem r_counts {V : Vw} (hV : VOk V) {S : QS} (hM : MR V S) {w : Int} (hw : -1 ≤ w ∧ w ≤ 100) {set : Nat} (hK : ∀ r, r < 6 → ∀ u, -50 ≤ u → u ≤ 50 → S.1 60 (cx r u) = b2 (lq V set r u)) :
    ∃ S1, f_X6_counts (iv w) S = some S1 ∧ Fr [60, 62] S S1 ∧ (∀ c, c < 2 → ∀ u, -50 ≤ u → u ≤ 50 → S1.1 62 (cx c u) = iv (nq V set w c u : Int) ∧ S1.1 60 (cx (3 * c + 2) u) = b2 (aq V set w c u)) ∧
      ∀ r, r < 6 → r % 3 ≠ 2 → ∀ u, -50 ≤ u → u ≤ 50 → S1.1 60 (cx r u) = b2 (lq V set r u) := by
  have k0 : KC V set w 0 (-50) S := ⟨fun d hd u h1 h2 h => by omega, fun r hr u h1 h2 _ => hK r hr u h1 h2⟩
  obtain ⟨s1, e1, f1, k1⟩ := r_countsCar hV hM (c := 0) (by decide) hw k0
  obtain ⟨s2, e2, f2, k2⟩ := r_countsCar hV (hM.fr f1 (by decide)) (c := 1) (by decide) hw k1
  refine ⟨s2, ?_, f1.tr f2, fun c hc u h1 h2 => k2.1 c hc u h1 h2 (by omega), fun r hr h3 u h1 h2 => k2.2 r hr u h1 h2 (Or.inl h3)⟩
  unfold f_X6_counts
  show lp_X6_counts_2 (iv w) (1099 + 1) 0 S = _
  rw [lp_X6_counts_2, if_neg (by decide), show (0 : Int32) = iv ((0 : Nat) : Int) from rfl, e1, ob]
  show lp_X6_counts_2 (iv w) (1098 + 1) (iv ((0 : Nat) : Int) + 1) s1 = _
  rw [lp_X6_counts_2, if_neg (by decide), show iv ((0 : Nat) : Int) + 1 = iv ((1 : Nat) : Int) from by decide, e2, ob]
  show lp_X6_counts_2 (iv w) (1097 + 1) (iv ((1 : Nat) : Int) + 1) s2 = _
  rw [lp_X6_counts_2, if_pos (by decide)]
end
section
/-! THE REFERENCE: masks of one pair of AT -/
/-- what FIRST and AT of a car make false together -/
def MD (V : Vw) (c : Nat) (v : Int) (m : Nat) : Prop := lq V 0 (3 * c + 1) v = true ∧ ∃ f, (-50 ≤ f ∧ f ≤ 50) ∧ fq V 0 (-1) c f v = true ∧ m = fl V (3 * c) f ||| fl V (3 * c + 1) v
theorem or_1024 {x y : Nat} (hx : x < 1024) (hy : y < 1024) : x ||| y < 1024 := Nat.or_lt_two_pow (n := 10) hx hy
theorem MD_lt {V : Vw} (hV : VOk V) {c : Nat} {v : Int} {m : Nat} (h : MD V c v m) : m < 1024 := by
  obtain ⟨-, f, -, -, rfl⟩ := h
  exact or_1024 (fl_lt hV _ _) (fl_lt hV _ _)
def MkAt (V : Vw) (S : QS) (c : Nat) (v : Int) : Prop := ∃ n : Nat, n ≤ 101 ∧ S.1 66 (cx c v) = iv (n : Int) ∧ (∀ i, i < n → ∃ m, MD V c v m ∧ S.1 65 (101 * cx c v + i) = nI m) ∧ ∀ m, MD V c v m → ∃ i, i < n ∧ S.1 65 (101 * cx c v + i) = nI m
theorem MkAt.fr {V : Vw} {S S1 : QS} {c : Nat} {v : Int} (h : MkAt V S c v) (h66 : S1.1 66 (cx c v) = S.1 66 (cx c v)) (h65 : ∀ i, i < 101 → S1.1 65 (101 * cx c v + i) = S.1 65 (101 * cx c v + i)) : MkAt V S1 c v := by
  obtain ⟨n, h1, h2, h3, h4⟩ := h
  refine ⟨n, h1, by rw [h66]; exact h2, fun i hi => ?_, fun m hm => ?_⟩
  · rw [h65 i (by omega)]
    exact h3 i hi
  · obtain ⟨i, hi, q⟩ := h4 m hm
    exact ⟨i, hi, by rw [h65 i (by omega)]; exact q⟩
def MkOk (V : Vw) (S : QS) : Prop := ∀ c, c < 2 → ∀ v, -50 ≤ v → v ≤ 50 → MkAt V S c v
theorem MkOk.fr {V : Vw} {S S1 : QS} (h : MkOk V S) (h65 : S1.1 65 = S.1 65) (h66 : S1.1 66 = S.1 66) : MkOk V S1 := fun c hc v h1 h2 => (h c hc v h1 h2).fr (by rw [h66]) (fun i _ => by rw [h65])
theorem r_masks {V : Vw} (hV : VOk V) {S : QS} (hk : MkOk V S) {a b : Int} (ha : -50 ≤ a ∧ a ≤ 50) (hb : -50 ≤ b ∧ b ≤ 50) {more : Nat} (hm : more < 1024) {Q : Nat → Prop} (hQ : ∀ m, m < 1024 → Flag (S.1 63 m) (Q m)) :
    ∃ S1, f_X6_masks (iv a) (iv b) (nI more) S = some S1 ∧ Fr [63] S S1 ∧ ∀ m, m < 1024 → Flag (S1.1 63 m) (Q m ∨ ∃ x y, MD V 0 a x ∧ MD V 1 b y ∧ m = (x ||| y) ||| more) := by
  obtain ⟨n0, hn0, e66a, g0, g0'⟩ := hk 0 (by decide) a ha.1 ha.2
  obtain ⟨n1, hn1, e66b, g1, g1'⟩ := hk 1 (by decide) b hb.1 hb.2
  have ia : (a + 50).toNat = cx 0 a := by unfold cx ix; omega
  have ib : (101 + b + 50).toNat = cx 1 b := by unfold cx ix; omega
  have la : cx 0 a ≤ 100 := by unfold cx ix; omega
  have lb : cx 1 b ≤ 201 := by unfold cx ix; omega
  have row : ∀ (i : Nat), i < n0 → ∀ (S : QS), MkOk V S → S.1 66 (cx 1 b) = iv (n1 : Int) → (∀ j, j < n1 → ∃ m, MD V 1 b m ∧ S.1 65 (101 * cx 1 b + j) = nI m) → (∀ m, MD V 1 b m → ∃ j, j < n1 ∧ S.1 65 (101 * cx 1 b + j) = nI m) →
      ∀ (x : Nat), x < 1024 → S.1 65 (101 * cx 0 a + i) = nI x → ∀ (Q : Nat → Prop), (∀ m, m < 1024 → Flag (S.1 63 m) (Q m)) →
      ∃ S1, lp_X6_masks_33 (iv a) (iv b) (nI more) (iv (i : Int)) FU 0 S = some S1 ∧ Fr [63] S S1 ∧ ∀ m, m < 1024 → Flag (S1.1 63 m) (Q m ∨ ∃ y, MD V 1 b y ∧ m = (x ||| y) ||| more) := by
    intro i hi S hkS e66 h1 h1' x hx ex Q hQ
    have main := loopN (fun fuel v s => lp_X6_masks_33 (iv a) (iv b) (nI more) (iv (i : Int)) fuel v s) id (fun n s => Fr [63] S s ∧ ∀ m, m < 1024 → Flag (s.1 63 m) (Q m ∨ ∃ j, j < n ∧ ∃ y, MD V 1 b y ∧ S.1 65 (101 * cx 1 b + j) = nI y ∧ m = (x ||| y) ||| more)) n1 (by omega)
      (fun fuel s hI => by
        show lp_X6_masks_33 (iv a) (iv b) (nI more) (iv (i : Int)) (fuel + 1) (iv (n1 : Int)) s = some s
        rw [lp_X6_masks_33, c_101, c_50, iv_add, iv_add, rd_iv (by omega), ob, ib, hI.1.1 66 (by decide), e66, if_pos (y_le (a := (n1 : Int)) (b := (n1 : Int)) (Int.le_refl _))])
      (fun fuel j s hlt hI => by
        obtain ⟨i1, i2⟩ := hI
        obtain ⟨y, y1, y2⟩ := h1 j hlt
        have hy := MD_lt hV y1
        have hz : (x ||| y) ||| more < 1024 := or_1024 (or_1024 hx hy) hm
        refine ⟨setF 63 ((x ||| y) ||| more) 1 s, ?_, i1.tr (Fr.set (by decide)), fun m hm2 => ?_⟩
        · show lp_X6_masks_33 (iv a) (iv b) (nI more) (iv (i : Int)) (fuel + 1) (iv (j : Int)) s = lp_X6_masks_33 (iv a) (iv b) (nI more) (iv (i : Int)) fuel (iv ((j + 1 : Nat) : Int)) _
          have p1 : (101 * (a + 50) + (i : Int)).toNat = 101 * cx 0 a + i := by unfold cx ix; omega
          have p2 : (101 * (101 + b + 50) + (j : Int)).toNat = 101 * cx 1 b + j := by unfold cx ix; omega
          rw [lp_X6_masks_33, c_101, c_50, iv_add, iv_add, rd_iv (by omega), ob, ib, i1.1 66 (by decide), e66, if_neg (n_le (a := (n1 : Int)) (b := (j : Int)) (by omega)), iv_add, iv_mul, iv_add, rd_iv (by omega), ob, iv_mul, iv_add, rd_iv (by omega), ob, p1, p2, i1.1 65 (by decide), ex, y2, fa_or, fa_or, iv_nI, wz_iv (by omega) (Or.inr rfl), ob, Int.toNat_natCast, iv_one]
          rfl
        · refine (Flag.set (i2 m hm2) (c := m = (x ||| y) ||| more) inferInstance (y := (setF 63 ((x ||| y) ||| more) 1 s).1 63 m) ?_ (Q := m = (x ||| y) ||| more) Iff.rfl).cg ?_
          · rw [st_1]
            by_cases c : m = (x ||| y) ||| more
            · rw [if_pos ⟨rfl, c⟩, if_pos c]
            · rw [if_neg (fun z => c z.2), if_neg c]
          · constructor
            · rintro ((q | ⟨j2, q1, q2⟩) | q)
              · exact Or.inl q
              · exact Or.inr ⟨j2, by omega, q2⟩
              · exact Or.inr ⟨j, by omega, y, y1, y2, q⟩
            · rintro (q | ⟨j2, q1, y3, q2, q3, q4⟩)
              · exact Or.inl (Or.inl q)
              · by_cases c : j2 = j
                · subst c
                  have e : y3 = y := by
                    have h3 := MD_lt hV q2
                    rw [q3] at y2
                    exact (nI_eq (by omega) (by omega)).mp y2
                  subst e
                  exact Or.inr q4
                · exact Or.inl (Or.inr ⟨j2, by omega, y3, q2, q3, q4⟩))
      S ⟨Fr.rf, fun m hm2 => (hQ m hm2).cg ⟨Or.inl, fun z => z.elim id (fun ⟨j, q, _⟩ => absurd q (Nat.not_lt_zero _))⟩⟩
    obtain ⟨S1, e, i1, i2⟩ := main
    refine ⟨S1, by rw [c_0]; exact e, i1, fun m hm2 => (i2 m hm2).cg ?_⟩
    constructor
    · rintro (q | ⟨j, q1, y, q2, q3, q4⟩)
      · exact Or.inl q
      · exact Or.inr ⟨y, q2, q4⟩
    · rintro (q | ⟨y, q1, q2⟩)
      · exact Or.inl q
      · obtain ⟨j, j1, j2⟩ := h1' y q1
        exact Or.inr ⟨j, j1, y, q1, j2, q2⟩
  have main := loopN (fun fuel v s => lp_X6_masks_18 (iv a) (iv b) (nI more) fuel v s) id (fun n s => Fr [63] S s ∧ ∀ m, m < 1024 → Flag (s.1 63 m) (Q m ∨ ∃ i, i < n ∧ ∃ x, MD V 0 a x ∧ S.1 65 (101 * cx 0 a + i) = nI x ∧ ∃ y, MD V 1 b y ∧ m = (x ||| y) ||| more)) n0 (by omega)
    (fun fuel s hI => by
      show lp_X6_masks_18 (iv a) (iv b) (nI more) (fuel + 1) (iv (n0 : Int)) s = some s
      rw [lp_X6_masks_18, c_50, iv_add, rd_iv (by omega), ob, ia, hI.1.1 66 (by decide), e66a, if_pos (y_le (a := (n0 : Int)) (b := (n0 : Int)) (Int.le_refl _))])
    (fun fuel i s hlt hI => by
      obtain ⟨i1, i2⟩ := hI
      obtain ⟨x, x1, x2⟩ := g0 i hlt
      have e65 : s.1 65 = S.1 65 := i1.1 65 (by decide)
      have e66 : s.1 66 = S.1 66 := i1.1 66 (by decide)
      obtain ⟨s1, e1, f1, h1⟩ := row i hlt s (hk.fr e65 e66) (by rw [e66]; exact e66b) (by rw [e65]; exact g1) (by rw [e65]; exact g1') x (MD_lt hV x1) (by rw [e65]; exact x2) _ i2
      refine ⟨s1, ?_, i1.tr f1, fun m hm2 => (h1 m hm2).cg ?_⟩
      · show lp_X6_masks_18 (iv a) (iv b) (nI more) (fuel + 1) (iv (i : Int)) s = lp_X6_masks_18 (iv a) (iv b) (nI more) fuel (iv ((i + 1 : Nat) : Int)) s1
        rw [lp_X6_masks_18, c_50, iv_add, rd_iv (by omega), ob, ia, e66, e66a, if_neg (n_le (a := (n0 : Int)) (b := (i : Int)) (by omega)), e1, ob, iv_one]
        rfl
      · constructor
        · rintro ((q | ⟨i2, q1, q2⟩) | ⟨y, q1, q2⟩)
          · exact Or.inl q
          · exact Or.inr ⟨i2, by omega, q2⟩
          · exact Or.inr ⟨i, by omega, x, x1, x2, y, q1, q2⟩
        · rintro (q | ⟨i2, q1, x3, q2, q3, y, q4, q5⟩)
          · exact Or.inl (Or.inl q)
          · by_cases c : i2 = i
            · subst c
              have e : x3 = x := by
                have h3 := MD_lt hV q2
                have h4 := MD_lt hV x1
                rw [q3] at x2
                exact (nI_eq (by omega) (by omega)).mp x2
              subst e
              exact Or.inr ⟨y, q4, q5⟩
            · exact Or.inl (Or.inr ⟨i2, by omega, x3, q2, q3, y, q4, q5⟩))
    S ⟨Fr.rf, fun m hm2 => (hQ m hm2).cg ⟨Or.inl, fun z => z.elim id (fun ⟨j, q, _⟩ => absurd q (Nat.not_lt_zero _))⟩⟩
  obtain ⟨S1, e, i1, i2⟩ := main
  refine ⟨S1, by unfold f_X6_masks; rw [c_0]; exact e, i1, fun m hm2 => (i2 m hm2).cg ?_⟩
  constructor
  · rintro (q | ⟨i, q1, x, q2, q3, y, q4, q5⟩)
    · exact Or.inl q
    · exact Or.inr ⟨x, y, q2, q4, q5⟩
  · rintro (q | ⟨x, y, q1, q2, q3⟩)
    · exact Or.inl q
    · obtain ⟨i, j1, j2⟩ := g0' x q1
      exact Or.inr ⟨i, j1, x, q1, j2, y, q2, q3⟩
end
section
/-! THE REFERENCE: all ways walked through -/
theorem prod_b {m x : Int} (hm : 1 ≤ m ∧ m ≤ 100) (hx : -50 ≤ x ∧ x ≤ 50) : 0 ≤ m * x * x ∧ m * x * x ≤ 250000 := by
  have h := sq_b hx
  have e : m * x * x = m * (x * x) := Int.mul_assoc _ _ _
  have h1 : 0 ≤ m * (x * x) := Int.mul_nonneg (by omega) h.1
  have h2 : 0 ≤ (100 - m) * (x * x) := Int.mul_nonneg (by omega) h.1
  rw [Int.sub_mul] at h2
  omega
theorem lin_b {m x : Int} (hm : 1 ≤ m ∧ m ≤ 100) (hx : -100 ≤ x ∧ x ≤ 100) : -10000 ≤ m * x ∧ m * x ≤ 10000 := by
  have h1 : 0 ≤ m * (100 - x) := Int.mul_nonneg (by omega) (by omega)
  have h2 : 0 ≤ m * (100 + x) := Int.mul_nonneg (by omega) (by omega)
  rw [Int.mul_sub] at h1
  rw [Int.mul_add] at h2
  omega
theorem qr_b {V : Vw} (hV : VOk V) {a b p : Int} (ha : -50 ≤ a ∧ a ≤ 50) (hb : -50 ≤ b ∧ b ≤ 50) (hp : -50 ≤ p ∧ p ≤ 50) : -20000 ≤ qr V a b p ∧ qr V a b p ≤ 20000 := by
  have h1 := lin_b (hV.1 0 (by decide)) (x := a - p) (by omega)
  have h2 := lin_b (hV.1 1 (by decide)) (x := b) (by omega)
  unfold qr
  omega
theorem tdiv_b {x m : Int} (hx : -20000 ≤ x ∧ x ≤ 20000) : -20000 ≤ x.tdiv m ∧ x.tdiv m ≤ 20000 := by
  have h : (x.tdiv m).natAbs = x.natAbs / m.natAbs := Int.natAbs_tdiv x m
  have h2 : x.natAbs / m.natAbs ≤ x.natAbs := Nat.div_le_self _ _
  omega
theorem rdM0 {V : Vw} {S : QS} (hM : MR V S) : rdA 49 2 0 S = some (iv (vM V 0)) := by
  rw [c_0, rd_iv (by decide)]
  exact congrArg some hM.1.1
theorem rdM1 {V : Vw} {S : QS} (hM : MR V S) : rdA 49 2 1 S = some (iv (vM V 1)) := by
  rw [c_1, rd_iv (by decide)]
  exact congrArg some hM.1.2
/-- places 61 and 63 alone, and one long -/
def Fg (S S1 : QS) : Prop := (∀ k, k ≠ 61 → k ≠ 63 → S1.1 k = S.1 k) ∧ ∀ k, k ≠ 48 → k ≠ 63 → S1.2 k = S.2 k
theorem Fg.rf {S : QS} : Fg S S := ⟨fun _ _ _ => rfl, fun _ _ _ => rfl⟩
theorem Fg.tr {S S1 S2 : QS} (h : Fg S S1) (h2 : Fg S1 S2) : Fg S S2 := ⟨fun k a b => (h2.1 k a b).trans (h.1 k a b), fun k a b => (h2.2 k a b).trans (h.2 k a b)⟩
theorem Fg.of63 {S S1 : QS} (h : Fr [63] S S1) : Fg S S1 := ⟨fun k _ b => h.1 k (nm1 b), fun k _ b => h.2 k (nm1 b)⟩
theorem MR.fg {V : Vw} {S S1 : QS} (h : MR V S) (hf : Fg S S1) : MR V S1 := h.kp (fun k h1 h2 => hf.1 k (by omega) (by omega)) (by rw [hf.1 48 (by decide) (by decide)]) (by rw [hf.1 48 (by decide) (by decide)])
/-- the reference before it walks -/
def GM (V : Vw) (set : Nat) (w : Int) (wd : Bool) (s : QS) : Prop := MR V s ∧ (∀ c, c < 2 → ∀ u, -50 ≤ u → u ≤ 50 → s.1 62 (cx c u) = iv (nq V set w c u : Int) ∧ s.1 60 (cx (3 * c + 2) u) = b2 (aq V set w c u)) ∧ s.1 48 18 = b2 wd ∧ (wd = true → MkOk V s)
theorem GM.fg {V : Vw} {set : Nat} {w : Int} {wd : Bool} {S S1 : QS} (h : GM V set w wd S) (hf : Fg S S1) : GM V set w wd S1 := by
  obtain ⟨h1, h2, h3, h4⟩ := h
  refine ⟨h1.fg hf, ?_, by rw [hf.1 48 (by decide) (by decide)]; exact h3, fun z => (h4 z).fr (hf.1 65 (by decide) (by decide)) (hf.1 66 (by decide) (by decide))⟩
  rw [hf.1 62 (by decide) (by decide), hf.1 60 (by decide) (by decide)]
  exact h2
/-- what one way makes false: a mask -/
def KM (V : Vw) (a b p : Int) (m : Nat) : Prop := ∃ x y, MD V 0 a x ∧ MD V 1 b y ∧ m = (x ||| y) ||| (fl V 2 p ||| fl V 5 (qv V a b p))
def AccM (V : Vw) (wd : Bool) (T : Int → Int → Int → Prop) (n : Nat) (s : QS) : Prop := s.2 48 = lN n ∧
  (∀ u, -50 ≤ u → u ≤ 50 → Flag (s.1 61 (cx 1 u)) (∃ b p, T u b p) ∧ Flag (s.1 61 (cx 4 u)) (∃ a p, T a u p) ∧ Flag (s.1 61 (cx 2 u)) (∃ a b, T a b u) ∧ Flag (s.1 61 (cx 5 u)) (∃ a b p, T a b p ∧ u = qv V a b p) ∧ s.1 61 (cx 0 u) = 0 ∧ s.1 61 (cx 3 u) = 0) ∧
  (wd = true → ∀ m, m < 1024 → Flag (s.1 63 m) (∃ a b p, T a b p ∧ KM V a b p m))
theorem AccM.cg {V : Vw} {wd : Bool} {T T2 : Int → Int → Int → Prop} {n : Nat} {S : QS} (h : AccM V wd T n S) (e : ∀ a b p, T a b p ↔ T2 a b p) : AccM V wd T2 n S := by
  have : T = T2 := funext fun a => funext fun k => funext fun b => propext (e a k b)
  rw [← this]
  exact h
theorem cx_iff {r r2 : Nat} {v v2 : Int} (h1 : -50 ≤ v ∧ v ≤ 50) (h2 : -50 ≤ v2 ∧ v2 ≤ 50) : cx r v = cx r2 v2 ↔ r = r2 ∧ v = v2 := by
  unfold cx ix
  omega
def flg (V : Vw) (a b p : Int) (s : QS) : QS := setF 61 (cx 5 (qv V a b p)) 1 (setF 61 (cx 2 p) 1 (setF 61 (cx 4 b) 1 (setF 61 (cx 1 a) 1 s)))
theorem flg_at {V : Vw} {a b p : Int} (ha : -50 ≤ a ∧ a ≤ 50) (hb : -50 ≤ b ∧ b ≤ 50) (hp : -50 ≤ p ∧ p ≤ 50) (hq : -50 ≤ qv V a b p ∧ qv V a b p ≤ 50) {s : QS} {r : Nat} {u : Int} (hu : -50 ≤ u ∧ u ≤ 50) :
    (flg V a b p s).1 61 (cx r u) = if r = 5 ∧ u = qv V a b p then 1 else if r = 2 ∧ u = p then 1 else if r = 4 ∧ u = b then 1 else if r = 1 ∧ u = a then 1 else s.1 61 (cx r u) := by
  unfold flg
  rw [st_1, st_1, st_1, st_1]
  simp only [cx_iff hu hq, cx_iff hu hp, cx_iff hu hb, cx_iff hu ha, true_and]
theorem flg_ne {V : Vw} {a b p : Int} {s : QS} {k : Nat} (h : k ≠ 61) : (flg V a b p s).1 k = s.1 k := by
  unfold flg
  rw [st_nek h, st_nek h, st_nek h, st_nek h]
/-- one way more -/
theorem acc_way {V : Vw} {wd : Bool} {T : Int → Int → Int → Prop} {n d : Nat} {s : QS} (h : AccM V wd T n s) {a b p : Int} (ha : -50 ≤ a ∧ a ≤ 50) (hb : -50 ≤ b ∧ b ≤ 50) (hp : -50 ≤ p ∧ p ≤ 50) (hq : -50 ≤ qv V a b p ∧ qv V a b p ≤ 50)
    {s1 : QS} (h2 : s1.2 48 = lN (n + d)) (h61 : s1.1 61 = (flg V a b p s).1 61) (h63 : wd = true → ∀ m, m < 1024 → Flag (s1.1 63 m) ((∃ a b p, T a b p ∧ KM V a b p m) ∨ KM V a b p m)) :
    AccM V wd (fun a2 b2 p2 => T a2 b2 p2 ∨ (a2 = a ∧ b2 = b ∧ p2 = p)) (n + d) s1 := by
  obtain ⟨-, g, -⟩ := h
  refine ⟨h2, fun u hu1 hu2 => ?_, fun z m hm => (h63 z m hm).cg ?_⟩
  · obtain ⟨g1, g4, g2, g5, g0, g3⟩ := g u hu1 hu2
    have at61 : ∀ r, s1.1 61 (cx r u) = if r = 5 ∧ u = qv V a b p then 1 else if r = 2 ∧ u = p then 1 else if r = 4 ∧ u = b then 1 else if r = 1 ∧ u = a then 1 else s.1 61 (cx r u) := fun r => by
      rw [h61]
      exact flg_at ha hb hp hq ⟨hu1, hu2⟩
    refine ⟨(g1.set (c := u = a) inferInstance (y := s1.1 61 (cx 1 u)) ?_ (Q := u = a) Iff.rfl).cg ?_, (g4.set (c := u = b) inferInstance (y := s1.1 61 (cx 4 u)) ?_ (Q := u = b) Iff.rfl).cg ?_, (g2.set (c := u = p) inferInstance (y := s1.1 61 (cx 2 u)) ?_ (Q := u = p) Iff.rfl).cg ?_, (g5.set (c := u = qv V a b p) inferInstance (y := s1.1 61 (cx 5 u)) ?_ (Q := u = qv V a b p) Iff.rfl).cg ?_, ?_, ?_⟩
    · rw [at61 1, if_neg (fun z => by omega), if_neg (fun z => by omega), if_neg (fun z => by omega)]
      by_cases c : u = a
      · rw [if_pos ⟨rfl, c⟩, if_pos c]
      · rw [if_neg (fun z => c z.2), if_neg c]
    · constructor
      · rintro (⟨b2, p2, q⟩ | rfl)
        · exact ⟨b2, p2, Or.inl q⟩
        · exact ⟨b, p, Or.inr ⟨rfl, rfl, rfl⟩⟩
      · rintro ⟨b2, p2, q | ⟨q, -, -⟩⟩
        · exact Or.inl ⟨b2, p2, q⟩
        · exact Or.inr q
    · rw [at61 4, if_neg (fun z => by omega), if_neg (fun z => by omega)]
      by_cases c : u = b
      · rw [if_pos ⟨rfl, c⟩, if_pos c]
      · rw [if_neg (fun z => c z.2), if_neg (fun z => by omega), if_neg c]
    · constructor
      · rintro (⟨b2, p2, q⟩ | rfl)
        · exact ⟨b2, p2, Or.inl q⟩
        · exact ⟨a, p, Or.inr ⟨rfl, rfl, rfl⟩⟩
      · rintro ⟨b2, p2, q | ⟨-, q, -⟩⟩
        · exact Or.inl ⟨b2, p2, q⟩
        · exact Or.inr q
    · rw [at61 2, if_neg (fun z => by omega)]
      by_cases c : u = p
      · rw [if_pos ⟨rfl, c⟩, if_pos c]
      · rw [if_neg (fun z => c z.2), if_neg (fun z => by omega), if_neg (fun z => by omega), if_neg c]
    · constructor
      · rintro (⟨b2, p2, q⟩ | rfl)
        · exact ⟨b2, p2, Or.inl q⟩
        · exact ⟨a, b, Or.inr ⟨rfl, rfl, rfl⟩⟩
      · rintro ⟨b2, p2, q | ⟨-, -, q⟩⟩
        · exact Or.inl ⟨b2, p2, q⟩
        · exact Or.inr q
    · rw [at61 5]
      by_cases c : u = qv V a b p
      · rw [if_pos ⟨rfl, c⟩, if_pos c]
      · rw [if_neg (fun z => c z.2), if_neg (fun z => by omega), if_neg (fun z => by omega), if_neg (fun z => by omega), if_neg c]
    · constructor
      · rintro (⟨a2, b2, p2, q, q2⟩ | q)
        · exact ⟨a2, b2, p2, Or.inl q, q2⟩
        · exact ⟨a, b, p, Or.inr ⟨rfl, rfl, rfl⟩, q⟩
      · rintro ⟨a2, b2, p2, q | ⟨rfl, rfl, rfl⟩, q2⟩
        · exact Or.inl ⟨a2, b2, p2, q, q2⟩
        · exact Or.inr q2
    · rw [at61 0, if_neg (fun z => by omega), if_neg (fun z => by omega), if_neg (fun z => by omega), if_neg (fun z => by omega)]
      exact g0
    · rw [at61 3, if_neg (fun z => by omega), if_neg (fun z => by omega), if_neg (fun z => by omega), if_neg (fun z => by omega)]
      exact g3
  · constructor
    · rintro (⟨a2, b2, p2, q, q2⟩ | q)
      · exact ⟨a2, b2, p2, Or.inl q, q2⟩
      · exact ⟨a, b, p, Or.inr ⟨rfl, rfl, rfl⟩, q⟩
    · rintro ⟨a2, b2, p2, q | ⟨rfl, rfl, rfl⟩, q2⟩
      · exact Or.inl ⟨a2, b2, p2, q, q2⟩
      · exact Or.inr q2
/-- one AFTER of car 0 looked at -/
theorem r_step75 {V : Vw} (hV : VOk V) {set : Nat} {w : Int} {wd : Bool} {s : QS} (hG : GM V set w wd s) {a b p : Int} (ha : -50 ≤ a ∧ a ≤ 50) (hb : -50 ≤ b ∧ b ≤ 50) (hba : b < a) (hp : -50 ≤ p ∧ p ≤ 50) {n0 n1 : Nat} (hn0 : n0 ≤ 101) (hn1 : n1 ≤ 101) (fuel : Nat) :
    (wq V set w a b p = false → lp_X6_goes_75 (iv a) (iv b) (iv (n0 : Int)) (iv (n1 : Int)) (fuel + 1) (iv p) s = lp_X6_goes_75 (iv a) (iv b) (iv (n0 : Int)) (iv (n1 : Int)) fuel (iv (p + 1)) s) ∧
    (wq V set w a b p = true → lp_X6_goes_75 (iv a) (iv b) (iv (n0 : Int)) (iv (n1 : Int)) (fuel + 1) (iv p) s = if s.1 48 18 = 0 then lp_X6_goes_75 (iv a) (iv b) (iv (n0 : Int)) (iv (n1 : Int)) fuel (iv (p + 1)) (flg V a b p (setL 48 (s.2 48 + lN (n0 * n1)) s)) else
      (f_X6_masks (iv a) (iv b) (nI (fl V 2 p ||| fl V 5 (qv V a b p))) (flg V a b p (setL 48 (s.2 48 + lN (n0 * n1)) s))).bind fun S68 => lp_X6_goes_75 (iv a) (iv b) (iv (n0 : Int)) (iv (n1 : Int)) fuel (iv (p + 1)) S68) := by
  obtain ⟨hM, hC, -, -⟩ := hG
  have M0 := hV.1 0 (by decide)
  have M1 := hV.1 1 (by decide)
  have hr := qr_b hV ha hb hp
  have hqb : -20000 ≤ qv V a b p ∧ qv V a b p ≤ 20000 := tdiv_b hr
  have l1 := lin_b M0 (x := a - p) (by omega)
  have l2 := lin_b M1 (x := b) (by omega)
  have hqm : -2000000 ≤ qv V a b p * vM V 1 ∧ qv V a b p * vM V 1 ≤ 2000000 := by
    have h1 : 0 ≤ (20000 - qv V a b p) * vM V 1 := Int.mul_nonneg (by omega) (by omega)
    have h2 : 0 ≤ (20000 + qv V a b p) * vM V 1 := Int.mul_nonneg (by omega) (by omega)
    rw [Int.sub_mul] at h1
    rw [Int.add_mul] at h2
    omega
  have aft : ∀ u, -50 ≤ u → u ≤ 50 → s.1 60 (cx 2 u) = b2 (aq V set w 0 u) ∧ s.1 60 (cx 5 u) = b2 (aq V set w 1 u) := fun u h1 h2 => ⟨(hC 0 (by decide) u h1 h2).2, (hC 1 (by decide) u h1 h2).2⟩
  have eqr : iv (vM V 0) * (iv a - iv p) + iv (vM V 1) * iv b = iv (qr V a b p) := by
    rw [iv_sub, iv_mul, iv_mul, iv_add]
    rfl
  have cell2 : f_X6_cell 2 (iv p) = some (iv (101 * ((2 : Nat) : Int) + p + 50)) := r_cell
  have cell5 : ∀ q : Int, f_X6_cell 5 (iv q) = some (iv (101 * ((5 : Nat) : Int) + q + 50)) := fun q => r_cell
  have cell1 : f_X6_cell 1 (iv a) = some (iv (101 * ((1 : Nat) : Int) + a + 50)) := r_cell
  have cell4 : f_X6_cell 4 (iv b) = some (iv (101 * ((4 : Nat) : Int) + b + 50)) := r_cell
  have head : ∀ X : Option QS, (if iv (qv V a b p) * iv (vM V 1) = iv (qr V a b p) then (if iv (qv V a b p) < iv p then lp_X6_goes_75 (iv a) (iv b) (iv (n0 : Int)) (iv (n1 : Int)) fuel (iv (p + 1)) s
      else (if 50 < iv (qv V a b p) then lp_X6_goes_75 (iv a) (iv b) (iv (n0 : Int)) (iv (n1 : Int)) fuel (iv (p + 1)) s
      else (if b2 (aq V set w 0 p) = 0 then lp_X6_goes_75 (iv a) (iv b) (iv (n0 : Int)) (iv (n1 : Int)) fuel (iv (p + 1)) s
      else ((rdA 60 606 (iv (101 * ((5 : Nat) : Int) + qv V a b p + 50)) s).bind fun v35 => if v35 = 0 then lp_X6_goes_75 (iv a) (iv b) (iv (n0 : Int)) (iv (n1 : Int)) fuel (iv (p + 1)) s
      else (if iv (vM V 0 * p * p + vM V 1 * qv V a b p * qv V a b p) ≤ iv (vM V 0 * a * a + vM V 1 * b * b) then
        (wrZ 61 606 (iv (101 * ((5 : Nat) : Int) + qv V a b p + 50)) 1 (setF 61 (cx 2 p) 1 (setF 61 (cx 4 b) 1 (setF 61 (cx 1 a) 1 (setL 48 (s.2 48 + lN (n0 * n1)) s))))).bind fun S61 => if (S61.1 48 18) = 0 then (lp_X6_goes_75 (iv a) (iv b) (iv (n0 : Int)) (iv (n1 : Int)) fuel (iv (p + 1)) S61)
          else ((f_X6_falses 2 (iv p) S61).bind fun v64 => (f_X6_falses 5 (iv (qv V a b p)) S61).bind fun v66 => (f_X6_masks (iv a) (iv b) (v64 ||| v66) S61).bind fun S68 => lp_X6_goes_75 (iv a) (iv b) (iv (n0 : Int)) (iv (n1 : Int)) fuel (iv (p + 1)) S68)
        else lp_X6_goes_75 (iv a) (iv b) (iv (n0 : Int)) (iv (n1 : Int)) fuel (iv (p + 1)) s))))) else lp_X6_goes_75 (iv a) (iv b) (iv (n0 : Int)) (iv (n1 : Int)) fuel (iv (p + 1)) s) = X → lp_X6_goes_75 (iv a) (iv b) (iv (n0 : Int)) (iv (n1 : Int)) (fuel + 1) (iv p) s = X := by
    rintro X rfl
    rw [lp_X6_goes_75, if_neg (hi50 hp.2)]
    simp only [rdM0 hM, rdM1 hM, ob, eqr]
    rw [dv_iv (by omega) (by omega), ob, show (qr V a b p).tdiv (vM V 1) = qv V a b p from rfl]
    simp only [cell2, cell5, cell1, cell4, ob, rdC (show 2 < 6 by decide) hp, (aft p hp.1 hp.2).1, iv_one, stL, wzC (show 1 < 6 by decide) ha (Or.inr rfl), wzC (show 4 < 6 by decide) hb (Or.inr rfl), wzC (show 2 < 6 by decide) hp (Or.inr rfl), iv_mul, iv_add, iv_long (x := (n0 : Int)) (by omega), iv_long (x := (n1 : Int)) (by omega), Int.toNat_natCast, lN_mul]
  have ewq : wq V set w a b p = (decide (qv V a b p * vM V 1 = qr V a b p) && (decide (p ≤ qv V a b p) && (aq V set w 0 p && (aq V set w 1 (qv V a b p) && decide (vM V 0 * p * p + vM V 1 * qv V a b p * qv V a b p ≤ vM V 0 * a * a + vM V 1 * b * b))))) := by
    unfold wq
    rw [decide_eq_true hba, Bool.true_and]
  rw [ewq]
  by_cases c1 : qv V a b p * vM V 1 = qr V a b p
  · rw [decide_eq_true c1, Bool.true_and]
    by_cases c2 : p ≤ qv V a b p
    · rw [decide_eq_true c2, Bool.true_and]
      by_cases c3 : qv V a b p ≤ 50
      · have hq : -50 ≤ qv V a b p ∧ qv V a b p ≤ 50 := by omega
        have e0 := prod_b M0 ha
        have e1 := prod_b M1 hb
        have e2 := prod_b M0 hp
        have e3 := prod_b M1 hq
        cases c4 : aq V set w 0 p with
        | false =>
          refine ⟨fun _ => head _ ?_, fun z => by rw [Bool.false_and] at z; cases z⟩
          rw [iv_mul, if_pos (by rw [c1]), if_neg (n_lt (a := qv V a b p) (b := p) c2), if_neg (hi50 c3), c4, if_pos (by decide)]
        | true =>
          cases c5 : aq V set w 1 (qv V a b p) with
          | false =>
            refine ⟨fun _ => head _ ?_, fun z => by rw [Bool.false_and, Bool.and_false] at z; cases z⟩
            rw [iv_mul, if_pos (by rw [c1]), if_neg (n_lt (a := qv V a b p) (b := p) c2), if_neg (hi50 c3), c4, if_neg (by decide), rdC (by decide) hq, ob, (aft _ hq.1 hq.2).2, c5, if_pos (by decide)]
          | true =>
            by_cases c6 : vM V 0 * p * p + vM V 1 * qv V a b p * qv V a b p ≤ vM V 0 * a * a + vM V 1 * b * b
            · refine ⟨fun z => (by rw [decide_eq_true c6] at z; cases z), fun _ => head _ ?_⟩
              have hMf : MR V (flg V a b p (setL 48 (s.2 48 + lN (n0 * n1)) s)) := hM.kp (fun k h1 h2 => by rw [flg_ne (by omega), sl_1]) (by rw [flg_ne (by omega), sl_1]) (by rw [flg_ne (by omega), sl_1])
              rw [iv_mul, if_pos (by rw [c1]), if_neg (n_lt (a := qv V a b p) (b := p) c2), if_neg (hi50 c3), c4, if_neg (by decide), rdC (by decide) hq, ob, (aft _ hq.1 hq.2).2, c5, if_neg (by decide), if_pos (y_le c6 (by omega) (by omega)), wzC (by decide) hq (Or.inr rfl), ob]
              show (if (flg V a b p (setL 48 (s.2 48 + lN (n0 * n1)) s)).1 48 18 = 0 then _ else ((f_X6_falses (iv ((2 : Nat) : Int)) (iv p) (flg V a b p (setL 48 (s.2 48 + lN (n0 * n1)) s))).bind fun v64 => (f_X6_falses (iv ((5 : Nat) : Int)) (iv (qv V a b p)) (flg V a b p (setL 48 (s.2 48 + lN (n0 * n1)) s))).bind fun v66 => _)) = _
              rw [r_falses hV hMf (by decide) hp, ob, r_falses hV hMf (by decide) hq, ob, fa_or, flg_ne (by decide), sl_1]
              rfl
            · refine ⟨fun _ => head _ ?_, fun z => by rw [decide_eq_false c6] at z; cases z⟩
              rw [iv_mul, if_pos (by rw [c1]), if_neg (n_lt (a := qv V a b p) (b := p) c2), if_neg (hi50 c3), c4, if_neg (by decide), rdC (by decide) hq, ob, (aft _ hq.1 hq.2).2, c5, if_neg (by decide), if_neg (n_le (by omega) (by omega) (by omega))]
      · have c5 : aq V set w 1 (qv V a b p) = false := by
          cases h : aq V set w 1 (qv V a b p) with
          | false => rfl
          | true => exact absurd (lq_50q hV h).2 c3
        refine ⟨fun _ => head _ ?_, fun z => by rw [c5, Bool.false_and, Bool.and_false] at z; cases z⟩
        rw [iv_mul, if_pos (by rw [c1]), if_neg (n_lt (a := qv V a b p) (b := p) c2), if_pos (by rw [c_50]; exact y_lt (a := 50) (b := qv V a b p) (by omega))]
    · refine ⟨fun _ => head _ ?_, fun z => by rw [decide_eq_false c2, Bool.false_and] at z; cases z⟩
      rw [iv_mul, if_pos (by rw [c1]), if_pos (y_lt (a := qv V a b p) (b := p) (by omega))]
  · refine ⟨fun _ => head _ ?_, fun z => by rw [decide_eq_false c1, Bool.false_and] at z; cases z⟩
    rw [iv_mul, if_neg (n_eq c1)]
end
section
/-! THE REFERENCE: the three loops -/
theorem r_loopP {V : Vw} (hV : VOk V) {set : Nat} {w : Int} {wd : Bool} {S : QS} (hG : GM V set w wd S) {a b : Int} (ha : -50 ≤ a ∧ a ≤ 50) (hb : -50 ≤ b ∧ b ≤ 50) (hba : b < a) {T : Int → Int → Int → Prop} {n : Nat} (hA : AccM V wd T n S) :
    ∃ S1, lp_X6_goes_75 (iv a) (iv b) (iv (nq V set w 0 a : Int)) (iv (nq V set w 1 b : Int)) FU (-50) S = some S1 ∧ Fg S S1 ∧ AccM V wd (fun a2 b2 p2 => T a2 b2 p2 ∨ (a2 = a ∧ b2 = b ∧ (-50 ≤ p2 ∧ p2 ≤ 50) ∧ wq V set w a b p2 = true)) (n + sm (fun p => if wq V set w a b p then nT V set w a b else 0)) S1 := by
  have main := loop50 (fun fuel v s => lp_X6_goes_75 (iv a) (iv b) (iv (nq V set w 0 a : Int)) (iv (nq V set w 1 b : Int)) fuel v s) id
    (fun p s => Fg S s ∧ AccM V wd (fun a2 b2 p2 => T a2 b2 p2 ∨ (a2 = a ∧ b2 = b ∧ (-50 ≤ p2 ∧ p2 ≤ 50 ∧ p2 < p) ∧ wq V set w a b p2 = true)) (n + smv (fun p => if wq V set w a b p then nT V set w a b else 0) p) s)
    (fun fuel s => by
      show lp_X6_goes_75 (iv a) (iv b) (iv (nq V set w 0 a : Int)) (iv (nq V set w 1 b : Int)) (fuel + 1) (iv 51) s = some s
      rw [lp_X6_goes_75, if_pos gt50])
    (fun fuel p s h3 h4 hI => by
      obtain ⟨i1, i2⟩ := hI
      have hG1 := hG.fg i1
      have hp : -50 ≤ p ∧ p ≤ 50 := ⟨h3, h4⟩
      obtain ⟨st0, st1⟩ := r_step75 hV hG1 ha hb hba hp (na_le (V := V) (set := set) (w := w) (c := 0) (a := a)) (na_le (V := V) (set := set) (w := w) (c := 1) (a := b)) fuel
      have hS := smv_s (fun p => if wq V set w a b p then nT V set w a b else 0) h3
      cases hw : wq V set w a b p with
      | false =>
        refine ⟨s, st0 hw, i1, ?_⟩
        rw [hS, hw, if_neg (by decide), Nat.add_zero]
        refine i2.cg (fun a2 b2 p2 => ?_)
        constructor
        · rintro (q | ⟨q1, q2, q3, q4⟩)
          · exact Or.inl q
          · exact Or.inr ⟨q1, q2, ⟨q3.1, q3.2.1, by omega⟩, q4⟩
        · rintro (q | ⟨q1, q2, q3, q4⟩)
          · exact Or.inl q
          · have : p2 ≠ p := fun z => by rw [z, hw] at q4; cases q4
            exact Or.inr ⟨q1, q2, ⟨q3.1, q3.2.1, by omega⟩, q4⟩
      | true =>
        have hq : -50 ≤ qv V a b p ∧ qv V a b p ≤ 50 := by
          have h := hw
          unfold wq at h
          simp only [Bool.and_eq_true, decide_eq_true_eq] at h
          exact lq_50q hV h.2.2.2.2.1
        have fin : ∀ T2 : Int → Int → Int → Prop, ∀ m s1, AccM V wd (fun a2 b2 p2 => (T a2 b2 p2 ∨ (a2 = a ∧ b2 = b ∧ (-50 ≤ p2 ∧ p2 ≤ 50 ∧ p2 < p) ∧ wq V set w a b p2 = true)) ∨ (a2 = a ∧ b2 = b ∧ p2 = p)) m s1 → AccM V wd (fun a2 b2 p2 => T a2 b2 p2 ∨ (a2 = a ∧ b2 = b ∧ (-50 ≤ p2 ∧ p2 ≤ 50 ∧ p2 < p + 1) ∧ wq V set w a b p2 = true)) m s1 := fun T2 m s1 h => h.cg (fun a2 b2 p2 => by
          constructor
          · rintro ((q | ⟨q1, q2, q3, q4⟩) | ⟨q1, q2, q3⟩)
            · exact Or.inl q
            · exact Or.inr ⟨q1, q2, ⟨q3.1, q3.2.1, by omega⟩, q4⟩
            · subst q3
              exact Or.inr ⟨q1, q2, ⟨h3, h4, by omega⟩, hw⟩
          · rintro (q | ⟨q1, q2, q3, q4⟩)
            · exact Or.inl (Or.inl q)
            · by_cases c : p2 = p
              · exact Or.inr ⟨q1, q2, c⟩
              · exact Or.inl (Or.inr ⟨q1, q2, ⟨q3.1, q3.2.1, by omega⟩, q4⟩))
        have en : n + smv (fun p => if wq V set w a b p then nT V set w a b else 0) (p + 1) = n + smv (fun p => if wq V set w a b p then nT V set w a b else 0) p + nq V set w 0 a * nq V set w 1 b := by
          rw [hS, hw, if_pos rfl]
          exact (Nat.add_assoc _ _ _).symm
        obtain ⟨s1, hs1⟩ : ∃ s1, s1 = flg V a b p (setL 48 (s.2 48 + lN (nq V set w 0 a * nq V set w 1 b)) s) := ⟨_, rfl⟩
        have f1 : Fg s s1 := ⟨fun k k1 k2 => by rw [hs1, flg_ne k1, sl_1], fun k k1 _ => by rw [hs1]; exact sl_ne k1⟩
        have l1 : s1.2 48 = lN (n + smv (fun p => if wq V set w a b p then nT V set w a b else 0) p + nq V set w 0 a * nq V set w 1 b) := by
          rw [hs1, ← lN_add, ← i2.1]
          exact sl_eq 48 (s.2 48 + lN (nq V set w 0 a * nq V set w 1 b)) s
        have h61 : s1.1 61 = (flg V a b p s).1 61 := by rw [hs1]; rfl
        have e := st1 hw
        rw [hG1.2.2.1] at e
        cases wd with
        | false =>
          rw [if_pos (by decide)] at e
          refine ⟨s1, by rw [hs1]; exact e, i1.tr f1, ?_⟩
          rw [en]
          exact fin T _ _ (acc_way i2 ha hb hp hq l1 h61 (fun z => by cases z))
        | true =>
          rw [if_neg (by decide), ← hs1] at e
          obtain ⟨s2, e2, f2, g2⟩ := r_masks hV ((hG1.fg f1).2.2.2 rfl) ha hb (or_1024 (fl_lt hV 2 p) (fl_lt hV 5 (qv V a b p))) (Q := fun m => ∃ a2 b2 p2, (T a2 b2 p2 ∨ (a2 = a ∧ b2 = b ∧ (-50 ≤ p2 ∧ p2 ≤ 50 ∧ p2 < p) ∧ wq V set w a b p2 = true)) ∧ KM V a2 b2 p2 m) (fun m hm => by
            have h63 : s1.1 63 = s.1 63 := by rw [hs1, flg_ne (by decide), sl_1]
            rw [h63]
            exact i2.2.2 rfl m hm)
          rw [e2, ob] at e
          refine ⟨s2, e, (i1.tr f1).tr (Fg.of63 f2), ?_⟩
          rw [en]
          exact fin T _ _ (acc_way i2 ha hb hp hq (by rw [f2.2 48 (by decide)]; exact l1) (by rw [f2.1 61 (by decide)]; exact h61) (fun _ m hm => g2 m hm)))
    S ⟨Fg.rf, by
      rw [smv_0, Nat.add_zero]
      exact hA.cg (fun a2 b2 p2 => ⟨Or.inl, fun z => z.elim id (fun q => by omega)⟩)⟩
  obtain ⟨S1, e, i1, i2⟩ := main
  refine ⟨S1, by rw [c_m50]; exact e, i1, i2.cg (fun a2 b2 p2 => ?_)⟩
  constructor
  · rintro (q | ⟨q1, q2, q3, q4⟩)
    · exact Or.inl q
    · exact Or.inr ⟨q1, q2, ⟨q3.1, q3.2.1⟩, q4⟩
  · rintro (q | ⟨q1, q2, q3, q4⟩)
    · exact Or.inl q
    · exact Or.inr ⟨q1, q2, ⟨q3.1, q3.2, by omega⟩, q4⟩
theorem nT_le {V : Vw} {set : Nat} {w a b : Int} : nT V set w a b ≤ 10201 := by
  have h := Nat.mul_le_mul (na_le (V := V) (set := set) (w := w) (c := 0) (a := a)) (na_le (V := V) (set := set) (w := w) (c := 1) (a := b))
  unfold nT
  omega
theorem wq_lt {V : Vw} {set : Nat} {w a b p : Int} (h : ¬ b < a) : wq V set w a b p = false := by
  unfold wq
  rw [decide_eq_false h, Bool.false_and]
theorem r_loopB {V : Vw} (hV : VOk V) {set : Nat} {w : Int} {wd : Bool} {S : QS} (hG : GM V set w wd S) {a : Int} (ha : -50 ≤ a ∧ a ≤ 50) {T : Int → Int → Int → Prop} {n : Nat} (hA : AccM V wd T n S) :
    ∃ S1, lp_X6_goes_28 (iv a) FU (-50) S = some S1 ∧ Fg S S1 ∧ AccM V wd (fun a2 b2 p2 => T a2 b2 p2 ∨ (a2 = a ∧ TW V set w a b2 p2)) (n + sm (fun b => sm (fun p => if wq V set w a b p then nT V set w a b else 0))) S1 := by
  have main := up_loop (fun fuel v s => lp_X6_goes_28 (iv a) fuel v s) (fun b s => Fg S s ∧ AccM V wd (fun a2 b2 p2 => T a2 b2 p2 ∨ (a2 = a ∧ b2 < b ∧ TW V set w a b2 p2)) (n + smv (fun b => sm (fun p => if wq V set w a b p then nT V set w a b else 0)) b) s) (-50) (a - 1)
    (fun fuel b s h3 h4 hI => by
      obtain ⟨i1, i2⟩ := hI
      have hG1 := hG.fg i1
      have hb : -50 ≤ b ∧ b ≤ 50 := by omega
      have hS := smv_s (fun b => sm (fun p => if wq V set w a b p then nT V set w a b else 0)) h3
      have hl := nT_le (V := V) (set := set) (w := w) (a := a) (b := b)
      have b0 := na_le (V := V) (set := set) (w := w) (c := 0) (a := a)
      have b1 := na_le (V := V) (set := set) (w := w) (c := 1) (a := b)
      have e0 : s.1 62 (cx 0 a) = iv (nq V set w 0 a : Int) := (hG1.2.1 0 (by decide) a ha.1 ha.2).1
      have e1 : s.1 62 (cx 1 b) = iv (nq V set w 1 b : Int) := (hG1.2.1 1 (by decide) b hb.1 hb.2).1
      have ia : (a + 50).toNat = cx 0 a := by unfold cx ix; omega
      have ib : (101 + b + 50).toNat = cx 1 b := by unfold cx ix; omega
      have head : lp_X6_goes_28 (iv a) (fuel + 1) (iv b) s = if nT V set w a b = 0 then lp_X6_goes_28 (iv a) fuel (iv (b + 1)) s else (lp_X6_goes_75 (iv a) (iv b) (iv (nq V set w 0 a : Int)) (iv (nq V set w 1 b : Int)) FU (-50) s).bind fun q19 => lp_X6_goes_28 (iv a) fuel (iv (b + 1)) q19 := by
        rw [lp_X6_goes_28, if_neg (n_le (a := a) (b := b) (by omega)), c_50, iv_add, rd_iv (by omega), ob, c_101, iv_add, iv_add, rd_iv (by omega), ob, ia, ib, e0, e1, iv_long (x := (nq V set w 0 a : Int)) (by omega), iv_long (x := (nq V set w 1 b : Int)) (by omega), Int.toNat_natCast, Int.toNat_natCast, lN_mul, iv_one]
        show (if lg_cmp (lN (nT V set w a b)) 0 = 0 then _ else _) = _
        by_cases c : nT V set w a b = 0
        · rw [if_pos ((lN_eq0 (by omega)).mpr c), if_pos c]
        · rw [if_neg (fun z => c ((lN_eq0 (by omega)).mp z)), if_neg c]
      by_cases c : nT V set w a b = 0
      · refine ⟨s, by rw [head, if_pos c], i1, ?_⟩
        have z : sm (fun p => if wq V set w a b p then nT V set w a b else 0) = 0 := smv_z (fun p _ _ => by rw [c]; split <;> rfl)
        rw [hS, z, Nat.add_zero]
        refine i2.cg (fun a2 b2 p2 => ?_)
        constructor
        · rintro (q | ⟨q1, q2, q3⟩)
          · exact Or.inl q
          · exact Or.inr ⟨q1, by omega, q3⟩
        · rintro (q | ⟨q1, q2, q3⟩)
          · exact Or.inl q
          · have : b2 ≠ b := fun z => by
              have h := q3.2.2.2.2
              rw [z, c] at h
              exact absurd h (Nat.lt_irrefl 0)
            exact Or.inr ⟨q1, by omega, q3⟩
      · obtain ⟨s1, e2, f2, A2⟩ := r_loopP hV hG1 ha hb (by omega) i2
        refine ⟨s1, by rw [head, if_neg c, e2, ob], i1.tr f2, ?_⟩
        rw [hS, ← Nat.add_assoc]
        refine A2.cg (fun a2 b2 p2 => ?_)
        constructor
        · rintro ((q | ⟨q1, q2, q3⟩) | ⟨q1, q2, q3, q4⟩)
          · exact Or.inl q
          · exact Or.inr ⟨q1, by omega, q3⟩
          · subst q2
            exact Or.inr ⟨q1, by omega, ha, hb, q3, q4, Nat.pos_of_ne_zero c⟩
        · rintro (q | ⟨q1, q2, q3⟩)
          · exact Or.inl (Or.inl q)
          · by_cases cb : b2 = b
            · subst cb
              exact Or.inr ⟨q1, rfl, q3.2.2.1, q3.2.2.2.1⟩
            · exact Or.inl (Or.inr ⟨q1, by omega, q3⟩))
    (a + 50).toNat FU (-50) S (by omega) (by omega) (by show (a + 50).toNat < 1100; omega) ⟨Fg.rf, by
      rw [smv_0, Nat.add_zero]
      exact hA.cg (fun a2 b2 p2 => ⟨Or.inl, fun z => z.elim id (fun q => by have := q.2.2.2.1; omega)⟩)⟩
  obtain ⟨S1, f1, e, i1, i2⟩ := main
  refine ⟨S1, ?_, i1, ?_⟩
  · rw [c_m50]
    refine Eq.trans e ?_
    show lp_X6_goes_28 (iv a) (f1 + 1) (iv (a - 1 + 1)) S1 = some S1
    rw [lp_X6_goes_28, if_pos (y_le (a := a) (b := a - 1 + 1) (by omega))]
  · have e2 : smv (fun b => sm (fun p => if wq V set w a b p then nT V set w a b else 0)) (a - 1 + 1) = sm (fun b => sm (fun p => if wq V set w a b p then nT V set w a b else 0)) := smv_up (by omega) (by omega) (fun b h1 _ => smv_z (fun p _ _ => by rw [wq_lt (by omega), if_neg (by decide)]))
    rw [e2] at i2
    refine i2.cg (fun a2 b2 p2 => ?_)
    constructor
    · rintro (q | ⟨q1, q2, q3⟩)
      · exact Or.inl q
      · exact Or.inr ⟨q1, q3⟩
    · rintro (q | ⟨q1, q3⟩)
      · exact Or.inl q
      · refine Or.inr ⟨q1, ?_, q3⟩
        have h := q3.2.2.2.1
        refine Decidable.byContradiction (fun z => ?_)
        rw [wq_lt (by omega)] at h
        cases h
theorem r_loopA {V : Vw} (hV : VOk V) {set : Nat} {w : Int} {wd : Bool} {S : QS} (hG : GM V set w wd S) (hA : AccM V wd (fun _ _ _ => False) 0 S) :
    ∃ S1, lp_X6_goes_18 FU (-50) S = some S1 ∧ Fg S S1 ∧ AccM V wd (TW V set w) (nW V set w) S1 := by
  have main := loop50 (fun fuel v s => lp_X6_goes_18 fuel v s) id (fun a s => Fg S s ∧ AccM V wd (fun a2 b2 p2 => a2 < a ∧ TW V set w a2 b2 p2) (smv (fun a => sm (fun b => sm (fun p => if wq V set w a b p then nT V set w a b else 0))) a) s)
    (fun fuel s => by
      show lp_X6_goes_18 (fuel + 1) (iv 51) s = some s
      rw [lp_X6_goes_18, if_pos gt50])
    (fun fuel a s h3 h4 hI => by
      obtain ⟨i1, i2⟩ := hI
      obtain ⟨s1, e1, f1, A1⟩ := r_loopB hV (hG.fg i1) ⟨h3, h4⟩ i2
      refine ⟨s1, ?_, i1.tr f1, ?_⟩
      · show lp_X6_goes_18 (fuel + 1) (iv a) s = lp_X6_goes_18 fuel (iv (a + 1)) s1
        rw [lp_X6_goes_18, if_neg (hi50 h4), e1, ob, iv_one]
      · rw [smv_s _ h3]
        refine A1.cg (fun a2 b2 p2 => ?_)
        constructor
        · rintro (⟨q1, q2⟩ | ⟨q1, q2⟩)
          · exact ⟨by omega, q2⟩
          · subst q1
            exact ⟨by omega, q2⟩
        · rintro ⟨q1, q2⟩
          by_cases c : a2 = a
          · subst c
            exact Or.inr ⟨rfl, q2⟩
          · exact Or.inl ⟨by omega, q2⟩)
    S ⟨Fg.rf, by
      rw [smv_0]
      exact hA.cg (fun a2 b2 p2 => ⟨fun z => z.elim, fun q => by have := q.2.1; omega⟩)⟩
  obtain ⟨S1, e, i1, i2⟩ := main
  exact ⟨S1, by rw [c_m50]; exact e, i1, i2.cg (fun a2 b2 p2 => ⟨fun q => q.2, fun q => ⟨by have := q.1; omega, q⟩⟩)⟩
/-! FIRST are there where AT is -/
theorem r_firstsIn {V : Vw} (hV : VOk V) {set : Nat} {w : Int} (hw : -1 ≤ w ∧ w ≤ 100) {S : QS} (hM : MR V S) {c : Nat} (hc : c < 2) (hl : ∀ f, -50 ≤ f → f ≤ 50 → S.1 60 (cx (3 * c) f) = b2 (lq V set (3 * c) f)) {v : Int} (hv : -50 ≤ v ∧ v ≤ 50) {Q : Int → Prop} (hQ : ∀ f, -50 ≤ f → f ≤ 50 → Flag (S.1 61 (cx (3 * c) f)) (Q f)) :
    ∃ S1, lp_X6_goes_377 (iv w) (iv (c : Int)) (iv v) FU (-50) S = some S1 ∧ Fr [61] S S1 ∧ (∀ f, -50 ≤ f → f ≤ 50 → Flag (S1.1 61 (cx (3 * c) f)) (Q f ∨ fq V set w c f v = true)) ∧ ∀ r, r ≠ 3 * c → ∀ u, -50 ≤ u → u ≤ 50 → S1.1 61 (cx r u) = S.1 61 (cx r u) := by
  have main := loop50 (fun fuel f s => lp_X6_goes_377 (iv w) (iv (c : Int)) (iv v) fuel f s) id (fun g s => Fr [61] S s ∧ (∀ f, -50 ≤ f → f ≤ 50 → Flag (s.1 61 (cx (3 * c) f)) (Q f ∨ (f < g ∧ fq V set w c f v = true))) ∧ ∀ r, r ≠ 3 * c → ∀ u, -50 ≤ u → u ≤ 50 → s.1 61 (cx r u) = S.1 61 (cx r u))
    (fun fuel s => by
      show lp_X6_goes_377 (iv w) (iv (c : Int)) (iv v) (fuel + 1) (iv 51) s = some s
      rw [lp_X6_goes_377, if_pos gt50])
    (fun fuel g s h3 h4 hI => by
      obtain ⟨i1, i2, i3⟩ := hI
      have hg : -50 ≤ g ∧ g ≤ 50 := ⟨h3, h4⟩
      have hf := r_isFirst (w := w) (set := set) hV (hM.fr i1 (by decide)) hc hg hv hw (by rw [i1.1 60 (by decide)]; exact hl g h3 h4)
      cases hq : fq V set w c g v with
      | false =>
        refine ⟨s, ?_, i1, fun f h1 h2 => (i2 f h1 h2).cg ?_, i3⟩
        · show lp_X6_goes_377 (iv w) (iv (c : Int)) (iv v) (fuel + 1) (iv g) s = lp_X6_goes_377 (iv w) (iv (c : Int)) (iv v) fuel (iv (g + 1)) s
          rw [lp_X6_goes_377, if_neg (hi50 h4), hf, ob, hq, if_pos (by decide), iv_one]
        · constructor
          · rintro (q | ⟨q1, q2⟩)
            · exact Or.inl q
            · exact Or.inr ⟨by omega, q2⟩
          · rintro (q | ⟨q1, q2⟩)
            · exact Or.inl q
            · have : f ≠ g := fun z => by rw [z, hq] at q2; cases q2
              exact Or.inr ⟨by omega, q2⟩
      | true =>
        refine ⟨setF 61 (cx (3 * c) g) 1 s, ?_, i1.tr (Fr.set (by decide)), fun f h1 h2 => ((i2 f h1 h2).set (c := f = g) inferInstance (y := (setF 61 (cx (3 * c) g) 1 s).1 61 (cx (3 * c) f)) ?_ (Q := f = g) Iff.rfl).cg ?_, fun r hr u h1 h2 => ?_⟩
        · show lp_X6_goes_377 (iv w) (iv (c : Int)) (iv v) (fuel + 1) (iv g) s = lp_X6_goes_377 (iv w) (iv (c : Int)) (iv v) fuel (iv (g + 1)) _
          rw [lp_X6_goes_377, if_neg (hi50 h4), hf, ob, hq, if_neg (by decide), row0, r_cell, ob, wzC (by omega) hg (Or.inr rfl), ob, iv_one]
        · rw [st_1]
          by_cases c1 : f = g
          · rw [if_pos ⟨rfl, by rw [c1]⟩, if_pos c1]
          · rw [if_neg (fun z => c1 ((cx_iff ⟨h1, h2⟩ hg).mp z.2).2), if_neg c1]
        · constructor
          · rintro ((q | ⟨q1, q2⟩) | q)
            · exact Or.inl q
            · exact Or.inr ⟨by omega, q2⟩
            · subst q
              exact Or.inr ⟨by omega, hq⟩
          · rintro (q | ⟨q1, q2⟩)
            · exact Or.inl (Or.inl q)
            · by_cases c1 : f = g
              · exact Or.inr c1
              · exact Or.inl (Or.inr ⟨by omega, q2⟩)
        · rw [st_nej (cx_ne ⟨h1, h2⟩ hg (Or.inl hr))]
          exact i3 r hr u h1 h2)
    S ⟨Fr.rf, fun f h1 h2 => (hQ f h1 h2).cg ⟨Or.inl, fun z => z.elim id (fun q => by omega)⟩, fun _ _ _ _ _ => rfl⟩
  obtain ⟨S1, e, i1, i2, i3⟩ := main
  refine ⟨S1, by rw [c_m50]; exact e, i1, fun f h1 h2 => (i2 f h1 h2).cg ?_, i3⟩
  exact ⟨fun z => z.imp id (fun q => q.2), fun z => z.imp id (fun q => ⟨by omega, q⟩)⟩
theorem r_firstsCar {V : Vw} (hV : VOk V) {set : Nat} {w : Int} (hw : -1 ≤ w ∧ w ≤ 100) {S : QS} (hM : MR V S) {c : Nat} (hc : c < 2) (hl : ∀ f, -50 ≤ f → f ≤ 50 → S.1 60 (cx (3 * c) f) = b2 (lq V set (3 * c) f)) {P : Int → Prop} (hP : ∀ v, -50 ≤ v → v ≤ 50 → Flag (S.1 61 (cx (3 * c + 1) v)) (P v)) (h0 : ∀ f, -50 ≤ f → f ≤ 50 → S.1 61 (cx (3 * c) f) = 0) :
    ∃ S1, lp_X6_goes_345 (iv w) (iv (c : Int)) FU (-50) S = some S1 ∧ Fr [61] S S1 ∧ (∀ f, -50 ≤ f → f ≤ 50 → Flag (S1.1 61 (cx (3 * c) f)) (∃ v, (-50 ≤ v ∧ v ≤ 50) ∧ P v ∧ fq V set w c f v = true)) ∧ ∀ r, r ≠ 3 * c → ∀ u, -50 ≤ u → u ≤ 50 → S1.1 61 (cx r u) = S.1 61 (cx r u) := by
  have main := loop50 (fun fuel v s => lp_X6_goes_345 (iv w) (iv (c : Int)) fuel v s) id (fun v s => Fr [61] S s ∧ (∀ f, -50 ≤ f → f ≤ 50 → Flag (s.1 61 (cx (3 * c) f)) (∃ v2, (-50 ≤ v2 ∧ v2 ≤ 50) ∧ v2 < v ∧ P v2 ∧ fq V set w c f v2 = true)) ∧ ∀ r, r ≠ 3 * c → ∀ u, -50 ≤ u → u ≤ 50 → s.1 61 (cx r u) = S.1 61 (cx r u))
    (fun fuel s => by
      show lp_X6_goes_345 (iv w) (iv (c : Int)) (fuel + 1) (iv 51) s = some s
      rw [lp_X6_goes_345, if_pos gt50])
    (fun fuel v s h3 h4 hI => by
      obtain ⟨i1, i2, i3⟩ := hI
      have hv : -50 ≤ v ∧ v ≤ 50 := ⟨h3, h4⟩
      have hPv := hP v h3 h4
      rw [← i3 (3 * c + 1) (by omega) v h3 h4] at hPv
      have head : lp_X6_goes_345 (iv w) (iv (c : Int)) (fuel + 1) (iv v) s = if s.1 61 (cx (3 * c + 1) v) = 0 then lp_X6_goes_345 (iv w) (iv (c : Int)) fuel (iv (v + 1)) s else (lp_X6_goes_377 (iv w) (iv (c : Int)) (iv v) FU (-50) s).bind fun q82 => lp_X6_goes_345 (iv w) (iv (c : Int)) fuel (iv (v + 1)) q82 := by
        rw [lp_X6_goes_345, if_neg (hi50 h4), row1, r_cell, ob, rdC (by omega) hv, ob, iv_one]
      rcases hPv with ⟨e1, p1⟩ | ⟨e0, p0⟩
      · obtain ⟨s1, e2, f2, g2, g3⟩ := r_firstsIn (set := set) hV hw (hM.fr i1 (by decide)) hc (fun f h1 h2 => by rw [i1.1 60 (by decide)]; exact hl f h1 h2) hv i2
        refine ⟨s1, ?_, i1.tr f2, fun f h1 h2 => (g2 f h1 h2).cg ?_, fun r hr u h1 h2 => (g3 r hr u h1 h2).trans (i3 r hr u h1 h2)⟩
        · show lp_X6_goes_345 (iv w) (iv (c : Int)) (fuel + 1) (iv v) s = lp_X6_goes_345 (iv w) (iv (c : Int)) fuel (iv (v + 1)) s1
          rw [head, e1, if_neg (by decide), e2, ob]
        · constructor
          · rintro (⟨v2, q1, q2, q3⟩ | q)
            · exact ⟨v2, q1, by omega, q3⟩
            · exact ⟨v, hv, by omega, p1, q⟩
          · rintro ⟨v2, q1, q2, q3, q4⟩
            by_cases cv : v2 = v
            · subst cv
              exact Or.inr q4
            · exact Or.inl ⟨v2, q1, by omega, q3, q4⟩
      · refine ⟨s, ?_, i1, fun f h1 h2 => (i2 f h1 h2).cg ?_, i3⟩
        · show lp_X6_goes_345 (iv w) (iv (c : Int)) (fuel + 1) (iv v) s = lp_X6_goes_345 (iv w) (iv (c : Int)) fuel (iv (v + 1)) s
          rw [head, e0, if_pos rfl]
        · constructor
          · rintro ⟨v2, q1, q2, q3⟩
            exact ⟨v2, q1, by omega, q3⟩
          · rintro ⟨v2, q1, q2, q3, q4⟩
            have : v2 ≠ v := fun z => p0 (z ▸ q3)
            exact ⟨v2, q1, by omega, q3, q4⟩)
    S ⟨Fr.rf, fun f h1 h2 => Or.inr ⟨h0 f h1 h2, fun ⟨v2, q1, q2, _⟩ => by omega⟩, fun _ _ _ _ _ => rfl⟩
  obtain ⟨S1, e, i1, i2, i3⟩ := main
  refine ⟨S1, by rw [c_m50]; exact e, i1, fun f h1 h2 => (i2 f h1 h2).cg ?_, i3⟩
  exact ⟨fun ⟨v2, q1, q2, q3⟩ => ⟨v2, q1, q3⟩, fun ⟨v2, q1, q3⟩ => ⟨v2, q1, by omega, q3⟩⟩
theorem nW_lt {V : Vw} {set : Nat} {w : Int} : nW V set w ≤ 101 * (101 * (101 * 10201)) := sm_le (fun a _ _ => sm_le (fun b _ _ => sm_le (fun p _ _ => by
  have := nT_le (V := V) (set := set) (w := w) (a := a) (b := b)
  split <;> omega)))
/-- what the reference's reckoning may change -/
def Fh (S S1 : QS) : Prop := (∀ k, k ∉ [60, 61, 62, 63] → S1.1 k = S.1 k) ∧ ∀ k, k ∉ [48, 60, 61, 62, 63] → S1.2 k = S.2 k
theorem r_goes {V : Vw} (hV : VOk V) {set : Nat} {w : Int} (hw : -1 ≤ w ∧ w ≤ 100) {wd : Bool} {S : QS} (hM : MR V S) (h18 : S.1 48 18 = b2 wd) (hk : wd = true → MkOk V S ∧ ∀ m, m < 1024 → S.1 63 m = 0) :
    ∃ S1, f_X6_goes (nI set) (iv w) S = some (b2 (decide (0 < nW V set w)), S1) ∧ Fh S S1 ∧ S1.2 48 = lN (nW V set w) ∧ (∀ r, r < 6 → ∀ u, -50 ≤ u → u ≤ 50 → Flag (S1.1 61 (cx r u)) (Sn V set w r u)) ∧ (wd = true → ∀ m, m < 1024 → Flag (S1.1 63 m) (∃ a b p, TW V set w a b p ∧ KM V a b p m)) := by
  obtain ⟨s1, e1, f1, g1⟩ := r_lets (set := set) hV hM
  have hM1 := hM.fr f1 (by decide)
  obtain ⟨s2, e2, f2, g2, g3⟩ := r_counts (set := set) (w := w) hV hM1 hw (fun r hr u h1 h2 => (g1 r hr u h1 h2).1)
  have hM2 := hM1.fr f2 (by decide)
  obtain ⟨s3, hs3⟩ : ∃ s3, s3 = setL 48 0 s2 := ⟨_, rfl⟩
  have e3 : s3.1 = s2.1 := by rw [hs3]; rfl
  have k12 : ∀ k, k ∉ [60, 61, 62] → s2.1 k = S.1 k := fun k hk2 => by
    simp only [List.mem_cons, List.not_mem_nil, or_false, not_or] at hk2
    rw [f2.1 k (by simp; omega), f1.1 k (by simp; omega)]
  have hG : GM V set w wd s3 := by
    refine ⟨hM2.kp (fun k _ _ => by rw [e3]) (by rw [e3]) (by rw [e3]), ?_, ?_, fun z => ?_⟩
    · rw [e3]; exact g2
    · rw [e3, k12 48 (by decide)]; exact h18
    · exact (hk z).1.fr (by rw [e3, k12 65 (by decide)]) (by rw [e3, k12 66 (by decide)])
  have e61 : s3.1 61 = s1.1 61 := by rw [e3, f2.1 61 (by decide)]
  have hA : AccM V wd (fun _ _ _ => False) 0 s3 := by
    refine ⟨by rw [hs3]; exact sl_eq _ _ _, fun u h1 h2 => ?_, fun z m hm => ?_⟩
    · rw [e61]
      exact ⟨Or.inr ⟨(g1 1 (by decide) u h1 h2).2, fun ⟨_, _, q⟩ => q⟩, Or.inr ⟨(g1 4 (by decide) u h1 h2).2, fun ⟨_, _, q⟩ => q⟩, Or.inr ⟨(g1 2 (by decide) u h1 h2).2, fun ⟨_, _, q⟩ => q⟩, Or.inr ⟨(g1 5 (by decide) u h1 h2).2, fun ⟨_, _, _, q, _⟩ => q⟩, (g1 0 (by decide) u h1 h2).2, (g1 3 (by decide) u h1 h2).2⟩
    · refine Or.inr ⟨?_, fun ⟨_, _, _, q, _⟩ => q⟩
      rw [e3, k12 63 (by decide)]
      exact (hk z).2 m hm
  obtain ⟨s4, e4, f4, A4⟩ := r_loopA hV hG hA
  have hM4 : MR V s4 := hG.1.fg f4
  have e60 : s4.1 60 = s2.1 60 := by rw [f4.1 60 (by decide) (by decide), e3]
  obtain ⟨s5, e5, f5, g5, g5'⟩ := r_firstsCar (set := set) (c := 0) hV hw hM4 (by decide) (fun f h1 h2 => by rw [e60]; exact g3 0 (by decide) (by decide) f h1 h2) (P := fun v => ∃ b p, TW V set w v b p) (fun v h1 h2 => (A4.2.1 v h1 h2).1) (fun f h1 h2 => (A4.2.1 f h1 h2).2.2.2.2.1)
  obtain ⟨s6, e6, f6, g6, g6'⟩ := r_firstsCar (set := set) (c := 1) hV hw (hM4.fr f5 (by decide)) (by decide) (fun f h1 h2 => by rw [f5.1 60 (by decide), e60]; exact g3 3 (by decide) (by decide) f h1 h2) (P := fun v => ∃ a p, TW V set w a v p) (fun v h1 h2 => by rw [g5' 4 (by decide) v h1 h2]; exact (A4.2.1 v h1 h2).2.1) (fun f h1 h2 => by rw [g5' 3 (by decide) f h1 h2]; exact (A4.2.1 f h1 h2).2.2.2.2.2)
  have l6 : s6.2 48 = lN (nW V set w) := by rw [f6.2 48 (by decide), f5.2 48 (by decide)]; exact A4.1
  have hnl := nW_lt (V := V) (set := set) (w := w)
  refine ⟨s6, ?_, ⟨fun k hk2 => ?_, fun k hk2 => ?_⟩, l6, fun r hr u h1 h2 => ?_, fun z m hm => ?_⟩
  · have e7 : lp_X6_goes_336 (iv w) FU 0 s4 = some s6 := by
      show lp_X6_goes_336 (iv w) (1099 + 1) 0 s4 = _
      rw [lp_X6_goes_336, if_neg (by decide), show (0 : Int32) = iv ((0 : Nat) : Int) from rfl, e5, ob]
      show lp_X6_goes_336 (iv w) (1098 + 1) (iv ((0 : Nat) : Int) + 1) s5 = _
      rw [lp_X6_goes_336, if_neg (by decide), show iv ((0 : Nat) : Int) + 1 = iv ((1 : Nat) : Int) from by decide, e6, ob]
      show lp_X6_goes_336 (iv w) (1097 + 1) (iv ((1 : Nat) : Int) + 1) s6 = _
      rw [lp_X6_goes_336, if_pos (by decide)]
    unfold f_X6_goes
    rw [e1, ob, e2, ob]
    show (lp_X6_goes_18 FU (-50) (setL 48 0 s2)).bind _ = _
    rw [← hs3, e4, ob, e7, ob, l6]
    by_cases c : nW V set w = 0
    · rw [if_pos ((lN_le0 (by omega)).mpr c), c]
      rfl
    · rw [if_neg (fun z => c ((lN_le0 (by omega)).mp z)), decide_eq_true (Nat.pos_of_ne_zero c)]
      rfl
  · simp only [List.mem_cons, List.not_mem_nil, or_false, not_or] at hk2
    rw [f6.1 k (by simp; omega), f5.1 k (by simp; omega), f4.1 k (by omega) (by omega), e3]
    exact k12 k (by simp; omega)
  · simp only [List.mem_cons, List.not_mem_nil, or_false, not_or] at hk2
    rw [f6.2 k (by simp; omega), f5.2 k (by simp; omega), f4.2 k (by omega) (by omega), hs3, sl_ne (by omega), f2.2 k (by simp; omega), f1.2 k (by simp; omega)]
  · rcases (show r = 0 ∨ r = 1 ∨ r = 2 ∨ r = 3 ∨ r = 4 ∨ r = 5 by omega) with rfl | rfl | rfl | rfl | rfl | rfl
    · rw [g6' 0 (by decide) u h1 h2]
      exact g5 u h1 h2
    · rw [g6' 1 (by decide) u h1 h2, g5' 1 (by decide) u h1 h2]
      exact (A4.2.1 u h1 h2).1
    · rw [g6' 2 (by decide) u h1 h2, g5' 2 (by decide) u h1 h2]
      exact (A4.2.1 u h1 h2).2.2.1
    · exact g6 u h1 h2
    · rw [g6' 4 (by decide) u h1 h2, g5' 4 (by decide) u h1 h2]
      exact (A4.2.1 u h1 h2).2.1
    · rw [g6' 5 (by decide) u h1 h2, g5' 5 (by decide) u h1 h2]
      exact (A4.2.1 u h1 h2).2.2.2.1
  · rw [f6.1 63 (by decide), f5.1 63 (by decide)]
    exact A4.2.2 z m hm
end
section
/-! THE REFERENCE: which sets FIRST and AT of a car make false -/
theorem shl10 {k : Nat} (h : k < 202) : iv (k : Int) <<< (10 &&& 31) = iv ((1024 * k : Nat) : Int) := (show ∀ k : Nat, k < 202 → iv (k : Int) <<< (10 &&& 31) = iv ((1024 * k : Nat) : Int) by decide +kernel) k h
theorem pow_le10 {V : Vw} (hV : VOk V) : (2 : Nat) ^ vNt V ≤ 1024 := by
  have h2 : (2 : Nat) ^ vNt V ≤ 2 ^ 10 := Nat.pow_le_pow_right (by decide) hV.2.2.2.2.1
  omega
theorem fl_lt2 (V : Vw) (r : Nat) (v : Int) : fl V r v < 2 ^ vNt V := bN_lt _ _
theorem iv_k {c : Nat} {v : Int} (h : -50 ≤ v ∧ v ≤ 50) : ((101 * iv (c : Int)) + iv v) + 50 = iv (cx c v : Int) := by
  rw [c_101, c_50, iv_mul, iv_add, iv_add]
  congr 1
  unfold cx ix
  omega
theorem cx_lt2 {c : Nat} {v : Int} (hc : c < 2) (h : -50 ≤ v ∧ v ≤ 50) : cx c v < 202 := by
  unfold cx ix
  omega
theorem r_wipe {V : Vw} (hV : VOk V) {S : QS} (hM : MR V S) {c : Nat} (hc : c < 2) {v : Int} (hv : -50 ≤ v ∧ v ≤ 50) :
    ∃ S1, lp_X6_makes_41 (iv (c : Int)) (iv v) FU 0 S = some S1 ∧ Fr [64] S S1 ∧ ∀ m, m < 2 ^ vNt V → S1.1 64 (1024 * cx c v + m) = 0 := by
  have hk := cx_lt2 hc hv
  have hp := pow_le10 hV
  have hn := hV.2.2.2.2.1
  have main := loopN (fun fuel v1 s => lp_X6_makes_41 (iv (c : Int)) (iv v) fuel v1 s) id (fun n s => Fr [64] S s ∧ ∀ m, m < n → s.1 64 (1024 * cx c v + m) = 0) (2 ^ vNt V) (by omega)
    (fun fuel s hI => by
      show lp_X6_makes_41 (iv (c : Int)) (iv v) (fuel + 1) (iv ((2 ^ vNt V : Nat) : Int)) s = some s
      rw [lp_X6_makes_41, hI.1.1 48 (by decide), hM.2.2.2.1, shl_iv (by omega), if_pos (by rw [iv_nI]; exact (fa_le _ _).mpr (Int.le_refl _))])
    (fun fuel n s hlt hI => by
      obtain ⟨i1, i2⟩ := hI
      refine ⟨setF 64 (1024 * cx c v + n) 0 s, ?_, i1.tr (Fr.set (by decide)), fun m hm => ?_⟩
      · show lp_X6_makes_41 (iv (c : Int)) (iv v) (fuel + 1) (iv (n : Int)) s = lp_X6_makes_41 (iv (c : Int)) (iv v) fuel (iv ((n + 1 : Nat) : Int)) _
        rw [lp_X6_makes_41, i1.1 48 (by decide), hM.2.2.2.1, shl_iv (by omega), if_neg (by rw [iv_nI]; exact n_le (by omega)), iv_k hv, shl10 hk, iv_add, wz_iv (by omega) (Or.inl rfl), ob, iv_one, show (((1024 * cx c v : Nat) : Int) + (n : Int)).toNat = 1024 * cx c v + n by omega]
        rfl
      · by_cases c1 : m = n
        · subst c1
          exact st_eq _ _ _ _
        · rw [st_nej (by omega)]
          exact i2 m (by omega))
    S ⟨Fr.rf, fun _ h => absurd h (Nat.not_lt_zero _)⟩
  obtain ⟨S1, e, i1, i2⟩ := main
  exact ⟨S1, by rw [c_0]; exact e, i1, i2⟩
/-- what FIRST below g make -/
def MDf (V : Vw) (c : Nat) (v g : Int) (m : Nat) : Prop := lq V 0 (3 * c + 1) v = true ∧ ∃ f, (-50 ≤ f ∧ f ≤ 50) ∧ f < g ∧ fq V 0 (-1) c f v = true ∧ m = fl V (3 * c) f ||| fl V (3 * c + 1) v
theorem MDf_lt {V : Vw} {c : Nat} {v g : Int} {m : Nat} (h : MDf V c v g m) : m < 2 ^ vNt V := by
  obtain ⟨-, f, -, -, -, rfl⟩ := h
  exact Nat.or_lt_two_pow (fl_lt2 V _ _) (fl_lt2 V _ _)
/-- the loop over FIRST -/
def MI (V : Vw) (S : QS) (c : Nat) (v g : Int) (s : QS) : Prop := Fr [64, 65, 66] S s ∧ (∀ j, j ≠ cx c v → s.1 66 j = S.1 66 j) ∧ (∀ j, (j < 101 * cx c v ∨ 101 * cx c v + 101 ≤ j) → s.1 65 j = S.1 65 j) ∧
  ∃ n : Nat, (n : Int) ≤ g + 50 ∧ s.1 66 (cx c v) = iv (n : Int) ∧ (∀ i, i < n → ∃ m, MDf V c v g m ∧ s.1 65 (101 * cx c v + i) = nI m) ∧ (∀ m, MDf V c v g m → ∃ i, i < n ∧ s.1 65 (101 * cx c v + i) = nI m) ∧ ∀ m, m < 2 ^ vNt V → Flag (s.1 64 (1024 * cx c v + m)) (MDf V c v g m)
theorem MI.same {V : Vw} {S : QS} {c : Nat} {v g : Int} {s : QS} (h : MI V S c v g s) (e : ∀ m, MDf V c v (g + 1) m ↔ MDf V c v g m) : MI V S c v (g + 1) s := by
  obtain ⟨h1, h2, h3, n, h4, h5, h6, h7, h8⟩ := h
  refine ⟨h1, h2, h3, n, by omega, h5, fun i hi => ?_, fun m hm => h7 m ((e m).mp hm), fun m hm => (h8 m hm).cg (e m).symm⟩
  obtain ⟨m, q1, q2⟩ := h6 i hi
  exact ⟨m, (e m).mpr q1, q2⟩
theorem r_makeFs {V : Vw} (hV : VOk V) {S : QS} (hM : MR V S) {c : Nat} (hc : c < 2) {v : Int} (hv : -50 ≤ v ∧ v ≤ 50) (hl : ∀ r, r < 6 → ∀ u, -50 ≤ u → u ≤ 50 → S.1 60 (cx r u) = b2 (lq V 0 r u)) (h66 : S.1 66 (cx c v) = 0) (h64 : ∀ m, m < 2 ^ vNt V → S.1 64 (1024 * cx c v + m) = 0) :
    ∃ S1, lp_X6_makes_75 (iv (c : Int)) (iv v) FU (-50) S = some S1 ∧ MI V S c v 51 S1 := by
  have hk := cx_lt2 hc hv
  have hp := pow_le10 hV
  have main := loop50 (fun fuel f s => lp_X6_makes_75 (iv (c : Int)) (iv v) fuel f s) id (fun g s => MI V S c v g s)
    (fun fuel s => by
      show lp_X6_makes_75 (iv (c : Int)) (iv v) (fuel + 1) (iv 51) s = some s
      rw [lp_X6_makes_75, if_pos gt50])
    (fun fuel g s h3 h4 hI => by
      have hg : -50 ≤ g ∧ g ≤ 50 := ⟨h3, h4⟩
      have i1 := hI.1
      have hM1 : MR V s := hM.fr i1 (by decide)
      have e60 : s.1 60 = S.1 60 := i1.1 60 (by decide)
      have hlet : s.1 60 (cx (3 * c + 1) v) = b2 (lq V 0 (3 * c + 1) v) := by rw [e60]; exact hl (3 * c + 1) (by omega) v hv.1 hv.2
      have hF := r_isFirst (w := -1) (set := 0) hV hM1 hc hg hv (by omega) (by rw [e60]; exact hl (3 * c) (by omega) g h3 h4)
      have no : lq V 0 (3 * c + 1) v = false ∨ fq V 0 (-1) c g v = false → ∀ m, MDf V c v (g + 1) m ↔ MDf V c v g m := fun hno m => by
        constructor
        · rintro ⟨q1, f, q2, q3, q4, q5⟩
          have : f ≠ g := fun z => by
            subst z
            rcases hno with h | h
            · rw [h] at q1; cases q1
            · rw [h] at q4; cases q4
          exact ⟨q1, f, q2, by omega, q4, q5⟩
        · rintro ⟨q1, f, q2, q3, q4, q5⟩
          exact ⟨q1, f, q2, by omega, q4, q5⟩
      cases hlq : lq V 0 (3 * c + 1) v with
      | false =>
        refine ⟨s, ?_, hI.same (no (Or.inl hlq))⟩
        show lp_X6_makes_75 (iv (c : Int)) (iv v) (fuel + 1) (iv g) s = lp_X6_makes_75 (iv (c : Int)) (iv v) fuel (iv (g + 1)) s
        rw [lp_X6_makes_75, if_neg (hi50 h4), row1, r_cell, ob, rdC (by omega) hv, ob, hlet, hlq, if_pos (by decide), iv_one]
      | true =>
        cases hfq : fq V 0 (-1) c g v with
        | false =>
          refine ⟨s, ?_, hI.same (no (Or.inr hfq))⟩
          show lp_X6_makes_75 (iv (c : Int)) (iv v) (fuel + 1) (iv g) s = lp_X6_makes_75 (iv (c : Int)) (iv v) fuel (iv (g + 1)) s
          rw [lp_X6_makes_75, if_neg (hi50 h4), row1, r_cell, ob, rdC (by omega) hv, ob, hlet, hlq, if_neg (by decide), c_m1, hF, ob, hfq, if_pos (by decide), iv_one]
        | true =>
          obtain ⟨-, h2, h3', n, g1, g2, g3, g4, g5⟩ := hI
          obtain ⟨m, hm⟩ : ∃ m, m = fl V (3 * c) g ||| fl V (3 * c + 1) v := ⟨_, rfl⟩
          have hmlt : m < 2 ^ vNt V := by rw [hm]; exact Nat.or_lt_two_pow (fl_lt2 V _ _) (fl_lt2 V _ _)
          have more : ∀ x, MDf V c v (g + 1) x ↔ (MDf V c v g x ∨ x = m) := fun x => by
            constructor
            · rintro ⟨q1, f, q2, q3, q4, q5⟩
              by_cases cf : f = g
              · subst cf
                exact Or.inr (q5.trans hm.symm)
              · exact Or.inl ⟨q1, f, q2, by omega, q4, q5⟩
            · rintro (⟨q1, f, q2, q3, q4, q5⟩ | q)
              · exact ⟨q1, f, q2, by omega, q4, q5⟩
              · exact ⟨hlq, g, hg, by omega, hfq, q.trans hm⟩
          have head : lp_X6_makes_75 (iv (c : Int)) (iv v) (fuel + 1) (iv g) s = if s.1 64 (1024 * cx c v + m) = 0 then lp_X6_makes_75 (iv (c : Int)) (iv v) fuel (iv (g + 1)) (setF 66 (cx c v) (iv (n : Int) + 1) (setF 65 (101 * cx c v + n) (nI m) (setF 64 (1024 * cx c v + m) 1 s))) else lp_X6_makes_75 (iv (c : Int)) (iv v) fuel (iv (g + 1)) s := by
            have i64 : (((1024 * cx c v : Nat) : Int) + (m : Int)).toNat = 1024 * cx c v + m := by omega
            have i65 : (((101 : Int) * (cx c v : Int)) + (n : Int)).toNat = 101 * cx c v + n := by omega
            rw [lp_X6_makes_75, if_neg (hi50 h4), row1, r_cell, ob, rdC (by omega) hv, ob, hlet, hlq, if_neg (by decide), c_m1, hF, ob, hfq, if_neg (by decide), row0, r_falses hV hM1 (by omega) hg, ob, r_falses hV hM1 (by omega) hv, ob, fa_or, ← hm, iv_k hv, shl10 hk, iv_nI, iv_add, rd_iv (by omega), ob, i64, iv_one]
            by_cases c0 : s.1 64 (1024 * cx c v + m) = 0
            · rw [if_pos c0, if_pos c0, wz_iv (by omega) (Or.inr rfl), ob, i64, rd_iv (by omega), ob, Int.toNat_natCast, st_nek (by decide), g2, c_101, iv_mul, iv_add, wr_iv (by omega), ob, i65, rd_iv (by omega), ob, Int.toNat_natCast, st_nek (by decide), st_nek (by decide), g2, wr_iv (by omega), ob, Int.toNat_natCast]
            · rw [if_neg c0, if_neg c0]
          rcases g5 m hmlt with ⟨e1, p1⟩ | ⟨e0, p0⟩
          · have same : ∀ x, MDf V c v (g + 1) x ↔ MDf V c v g x := fun x => (more x).trans ⟨fun z => z.elim id (fun q => by rw [q]; exact p1), Or.inl⟩
            refine ⟨s, ?_, MI.same ⟨i1, h2, h3', n, g1, g2, g3, g4, g5⟩ same⟩
            show lp_X6_makes_75 (iv (c : Int)) (iv v) (fuel + 1) (iv g) s = _
            rw [head, if_neg (by rw [e1]; decide)]
          · refine ⟨_, by show lp_X6_makes_75 (iv (c : Int)) (iv v) (fuel + 1) (iv g) s = _; rw [head, if_pos e0], ?_, ?_, ?_, n + 1, by omega, ?_, ?_, ?_, ?_⟩
            · exact ((i1.tr (Fr.set (by decide))).tr (Fr.set (by decide))).tr (Fr.set (by decide))
            · intro j hj
              rw [st_nej hj, st_nek (by decide), st_nek (by decide)]
              exact h2 j hj
            · intro j hj
              rw [st_nek (by decide), st_nej (by omega), st_nek (by decide)]
              exact h3' j hj
            · rw [st_eq, iv_one]
              rfl
            · intro i hi
              rw [st_nek (by decide)]
              by_cases ci : i = n
              · subst ci
                exact ⟨m, (more m).mpr (Or.inr rfl), st_eq _ _ _ _⟩
              · obtain ⟨x, q1, q2⟩ := g3 i (by omega)
                exact ⟨x, (more x).mpr (Or.inl q1), by rw [st_nej (by omega), st_nek (by decide)]; exact q2⟩
            · intro x hx
              rw [st_nek (by decide)]
              rcases (more x).mp hx with q | q
              · obtain ⟨i, q1, q2⟩ := g4 x q
                exact ⟨i, by omega, by rw [st_nej (by omega), st_nek (by decide)]; exact q2⟩
              · exact ⟨n, by omega, by rw [st_eq, q]⟩
            · intro x hx
              rw [st_nek (by decide), st_nek (by decide)]
              refine (Flag.set (g5 x hx) (c := x = m) inferInstance (y := (setF 64 (1024 * cx c v + m) 1 s).1 64 (1024 * cx c v + x)) ?_ (Q := x = m) Iff.rfl).cg (more x).symm
              rw [st_1]
              by_cases cm : x = m
              · rw [if_pos ⟨rfl, by rw [cm]⟩, if_pos cm]
              · rw [if_neg (fun z => cm (by omega)), if_neg cm])
    S ⟨Fr.rf, fun _ _ => rfl, fun _ _ => rfl, 0, by omega, h66, fun i hi => absurd hi (Nat.not_lt_zero _), fun m ⟨_, f, q1, q2, _⟩ => by omega, fun m hm => Or.inr ⟨h64 m hm, fun ⟨_, f, q1, q2, _⟩ => by omega⟩⟩
  obtain ⟨S1, e, i1⟩ := main
  exact ⟨S1, by rw [c_m50]; exact e, i1⟩
/-- how far they are made -/
def MK (V : Vw) (c : Nat) (v : Int) (s : QS) : Prop := ∀ d, d < 2 → ∀ u, -50 ≤ u → u ≤ 50 → (d < c ∨ (d = c ∧ u < v)) → MkAt V s d u
theorem r_makesCar {V : Vw} (hV : VOk V) {S : QS} (hM : MR V S) {c : Nat} (hc : c < 2) (hl : ∀ r, r < 6 → ∀ u, -50 ≤ u → u ≤ 50 → S.1 60 (cx r u) = b2 (lq V 0 r u)) (hK : MK V c (-50) S) :
    ∃ S1, lp_X6_makes_15 (iv (c : Int)) FU (-50) S = some S1 ∧ Fr [64, 65, 66] S S1 ∧ MK V (c + 1) (-50) S1 := by
  have main := loop50 (fun fuel v s => lp_X6_makes_15 (iv (c : Int)) fuel v s) id (fun v s => Fr [64, 65, 66] S s ∧ MK V c v s)
    (fun fuel s => by
      show lp_X6_makes_15 (iv (c : Int)) (fuel + 1) (iv 51) s = some s
      rw [lp_X6_makes_15, if_pos gt50])
    (fun fuel v s h3 h4 hI => by
      obtain ⟨i1, i2⟩ := hI
      have hv : -50 ≤ v ∧ v ≤ 50 := ⟨h3, h4⟩
      have hk := cx_lt2 hc hv
      have hM1 : MR V s := hM.fr i1 (by decide)
      obtain ⟨s1, hs1⟩ : ∃ s1, s1 = setF 66 (cx c v) 0 s := ⟨_, rfl⟩
      have f1 : Fr [66] s s1 := by rw [hs1]; exact Fr.set (by decide)
      have hM2 := hM1.fr f1 (by decide)
      obtain ⟨s2, e2, f2, z2⟩ := r_wipe hV hM2 hc hv
      have hM3 := hM2.fr f2 (by decide)
      obtain ⟨s3, e3, f3, u3, w3, n, g1, g2, g3, g4, -⟩ := r_makeFs hV hM3 hc hv (fun r hr u h1 h2 => by rw [f2.1 60 (by decide), f1.1 60 (by decide), i1.1 60 (by decide)]; exact hl r hr u h1 h2) (by rw [f2.1 66 (by decide), hs1]; exact st_eq _ _ _ _) z2
      have n101 : n ≤ 101 := by omega
      have ff : ∀ m, MDf V c v 51 m ↔ MD V c v m := fun m => ⟨fun ⟨q1, f, q2, _, q3⟩ => ⟨q1, f, q2, q3⟩, fun ⟨q1, f, q2, q3⟩ => ⟨q1, f, q2, by omega, q3⟩⟩
      refine ⟨s3, ?_, ((i1.tr (f1.mono (by simp))).tr (f2.mono (by simp))).tr f3, fun d hd u h1 h2 hdu => ?_⟩
      · show lp_X6_makes_15 (iv (c : Int)) (fuel + 1) (iv v) s = lp_X6_makes_15 (iv (c : Int)) fuel (iv (v + 1)) s3
        rw [lp_X6_makes_15, if_neg (hi50 h4), iv_k hv, wr_iv (by omega), ob, Int.toNat_natCast, ← hs1, e2, ob, e3, ob, iv_one]
      · by_cases cd : d = c ∧ u = v
        · obtain ⟨rfl, rfl⟩ := cd
          refine ⟨n, n101, g2, fun i hi => ?_, fun m hm => g4 m ((ff m).mpr hm)⟩
          obtain ⟨m, q1, q2⟩ := g3 i hi
          exact ⟨m, (ff m).mp q1, q2⟩
        · have hne : cx d u ≠ cx c v := cx_ne ⟨h1, h2⟩ hv (by omega)
          refine (i2 d hd u h1 h2 (by omega)).fr ?_ (fun i hi => ?_)
          · rw [u3 _ hne, f2.1 66 (by decide), hs1, st_nej hne]
          · rw [w3 _ (by omega), f2.1 65 (by decide), f1.1 65 (by decide)])
    S ⟨Fr.rf, hK⟩
  obtain ⟨S1, e, i1, i2⟩ := main
  exact ⟨S1, by rw [c_m50]; exact e, i1, fun d hd u h1 h2 h5 => i2 d hd u h1 h2 (by omega)⟩
theorem r_makes {V : Vw} (hV : VOk V) {S : QS} (hM : MR V S) : ∃ S1, f_X6_makes S = some S1 ∧ Fr [60, 61, 64, 65, 66] S S1 ∧ MkOk V S1 := by
  obtain ⟨s0, e0, f0, g0⟩ := r_lets (set := 0) hV hM
  have hM0 := hM.fr f0 (by decide)
  have hl0 : ∀ r, r < 6 → ∀ u, -50 ≤ u → u ≤ 50 → s0.1 60 (cx r u) = b2 (lq V 0 r u) := fun r hr u h1 h2 => (g0 r hr u h1 h2).1
  have k0 : MK V 0 (-50) s0 := fun d hd u h1 h2 h => by omega
  obtain ⟨s1, e1, f1, k1⟩ := r_makesCar hV hM0 (c := 0) (by decide) hl0 k0
  obtain ⟨s2, e2, f2, k2⟩ := r_makesCar hV (hM0.fr f1 (by decide)) (c := 1) (by decide) (fun r hr u h1 h2 => by rw [f1.1 60 (by decide)]; exact hl0 r hr u h1 h2) k1
  refine ⟨s2, ?_, (f0.mono (by simp)).tr ((f1.mono (by simp)).tr (f2.mono (by simp))), fun c hc u h1 h2 => k2 c hc u h1 h2 (by omega)⟩
  unfold f_X6_makes
  rw [show (0 : Int32) = nI 0 from rfl, e0, ob]
  show lp_X6_makes_7 (1099 + 1) 0 s0 = _
  rw [lp_X6_makes_7, if_neg (by decide), show (0 : Int32) = iv ((0 : Nat) : Int) from rfl, e1, ob]
  show lp_X6_makes_7 (1098 + 1) (iv ((0 : Nat) : Int) + 1) s1 = _
  rw [lp_X6_makes_7, if_neg (by decide), show iv ((0 : Nat) : Int) + 1 = iv ((1 : Nat) : Int) from by decide, e2, ob]
  show lp_X6_makes_7 (1097 + 1) (iv ((1 : Nat) : Int) + 1) s2 = _
  rw [lp_X6_makes_7, if_pos (by decide)]
end
section
/-! prices and masks are the same thing -/
/-- how many bits -/
def pc (m : Nat) : Nat := fb_sm (fun t => if m.testBit t then 1 else 0) 10
theorem r_bits {m : Nat} (h : m < 1024) : f_J6_bitCount_0f7a4 (nI m) = some (nI (pc m)) := (show ∀ m : Nat, m < 1024 → f_J6_bitCount_0f7a4 (nI m) = some (nI (pc m)) by decide +kernel) m h
theorem pc_le (m : Nat) : pc m ≤ 10 := by
  have h := fb_sm_bound (f := fun t => if m.testBit t then 1 else 0) (c := 1) (n := 10) (fun k _ => by split <;> omega)
  unfold pc
  omega
def pr (p : Nat → Bool) (n : Nat) : Nat := fb_sm (fun t => if p t then 1024 + 2 ^ t else 0) n
theorem pr_or {p q : Nat → Bool} (h : ∀ t, ¬ (p t = true ∧ q t = true)) : ∀ n, pr p n + pr q n = pr (fun t => p t || q t) n
  | 0 => rfl
  | n + 1 => by
    have ih := pr_or h n
    have e1 : pr p (n + 1) = pr p n + (if p n then 1024 + 2 ^ n else 0) := fb_sm_succ _ _
    have e2 : pr q (n + 1) = pr q n + (if q n then 1024 + 2 ^ n else 0) := fb_sm_succ _ _
    have e3 : pr (fun t => p t || q t) (n + 1) = pr (fun t => p t || q t) n + (if (p n || q n) then 1024 + 2 ^ n else 0) := fb_sm_succ _ _
    have hn := h n
    rw [e1, e2, e3, ← ih]
    cases hp : p n <;> cases hq : q n <;> simp_all <;> omega
theorem bN_or (p q : Nat → Bool) (n : Nat) : bN p n ||| bN q n = bN (fun t => p t || q t) n := by
  apply Nat.eq_of_testBit_eq
  intro t
  rw [Nat.testBit_or, bN_bit, bN_bit, bN_bit]
  cases decide (t < n) <;> rfl
theorem pr_bN (p : Nat → Bool) {n : Nat} (hn : n ≤ 10) : pr p n = 1024 * pc (bN p n) + bN p n := by
  have e : pc (bN p n) = fb_sm (fun t => if p t then 1 else 0) n := by
    unfold pc
    have h1 : fb_sm (fun t => if (bN p n).testBit t then 1 else 0) 10 = fb_sm (fun t => if (bN p n).testBit t then 1 else 0) (n + (10 - n)) := by rw [show n + (10 - n) = 10 by omega]
    rw [h1, fb_sm_split, fb_sm_0 (f := fun k => if (bN p n).testBit (n + k) then 1 else 0) (fun k _ => by
      rw [bN_bit, decide_eq_false (by omega), Bool.false_and]
      rfl), Nat.add_zero]
    exact fb_sm_cong (fun t ht => by rw [bN_bit, decide_eq_true ht, Bool.true_and])
  rw [e]
  have key : ∀ n, pr p n = 1024 * fb_sm (fun t => if p t then 1 else 0) n + bN p n := by
    intro n
    induction n with
    | zero => rfl
    | succ n ih =>
      have e1 : pr p (n + 1) = pr p n + (if p n then 1024 + 2 ^ n else 0) := fb_sm_succ _ _
      rw [e1, bN_s, fb_sm_succ, ih]
      cases p n <;> simp <;> omega
  exact key n
theorem tB_row {V : Vw} {r : Nat} {v : Int} {t : Nat} (h : tB V r v t = true) : tRow V t = r := by
  unfold tB at h
  simp only [Bool.and_eq_true, decide_eq_true_eq] at h
  exact h.1
/-- the six speeds together -/
theorem sum6 {V : Vw} (hV : VOk V) (f a g b p q : Int) : pq V 4 b + pq V 3 g + pq V 5 q + (pq V 1 a + pq V 0 f) + pq V 2 p = 1024 * pc (((fl V 0 f ||| fl V 1 a) ||| (fl V 3 g ||| fl V 4 b)) ||| (fl V 2 p ||| fl V 5 q)) + (((fl V 0 f ||| fl V 1 a) ||| (fl V 3 g ||| fl V 4 b)) ||| (fl V 2 p ||| fl V 5 q)) := by
  have e : ∀ r v, pq V r v = pr (tB V r v) (vNt V) := fun _ _ => rfl
  have h01 := pr_or (p := tB V 0 f) (q := tB V 1 a) (fun t ⟨x, y⟩ => by have := tB_row x; have := tB_row y; omega) (vNt V)
  have h34 := pr_or (p := tB V 3 g) (q := tB V 4 b) (fun t ⟨x, y⟩ => by have := tB_row x; have := tB_row y; omega) (vNt V)
  have h25 := pr_or (p := tB V 2 p) (q := tB V 5 q) (fun t ⟨x, y⟩ => by have := tB_row x; have := tB_row y; omega) (vNt V)
  have r01 : ∀ t, (tB V 0 f t || tB V 1 a t) = true → tRow V t = 0 ∨ tRow V t = 1 := fun t h => by
    rcases Bool.or_eq_true _ _ ▸ h with x | x
    · exact Or.inl (tB_row x)
    · exact Or.inr (tB_row x)
  have r34 : ∀ t, (tB V 3 g t || tB V 4 b t) = true → tRow V t = 3 ∨ tRow V t = 4 := fun t h => by
    rcases Bool.or_eq_true _ _ ▸ h with x | x
    · exact Or.inl (tB_row x)
    · exact Or.inr (tB_row x)
  have r25 : ∀ t, (tB V 2 p t || tB V 5 q t) = true → tRow V t = 2 ∨ tRow V t = 5 := fun t h => by
    rcases Bool.or_eq_true _ _ ▸ h with x | x
    · exact Or.inl (tB_row x)
    · exact Or.inr (tB_row x)
  have h4 := pr_or (p := fun t => tB V 0 f t || tB V 1 a t) (q := fun t => tB V 3 g t || tB V 4 b t) (fun t ⟨x, y⟩ => by have := r01 t x; have := r34 t y; omega) (vNt V)
  have h6 := pr_or (p := fun t => (tB V 0 f t || tB V 1 a t) || (tB V 3 g t || tB V 4 b t)) (q := fun t => tB V 2 p t || tB V 5 q t) (fun t ⟨x, y⟩ => by
    have hy := r25 t y
    rcases Bool.or_eq_true _ _ ▸ x with z | z
    · have := r01 t z; omega
    · have := r34 t z; omega) (vNt V)
  have em : ((fl V 0 f ||| fl V 1 a) ||| (fl V 3 g ||| fl V 4 b)) ||| (fl V 2 p ||| fl V 5 q) = bN (fun t => ((tB V 0 f t || tB V 1 a t) || (tB V 3 g t || tB V 4 b t)) || (tB V 2 p t || tB V 5 q t)) (vNt V) := by
    unfold fl
    rw [bN_or, bN_or, bN_or, bN_or, bN_or]
  rw [em, ← pr_bN _ hV.2.2.2.2.1, ← h6, ← h4, ← h01, ← h34, ← h25]
  rw [e, e, e, e, e, e]
  omega
/-- the masks of all ways -/
def WM (V : Vw) (m : Nat) : Prop := ∃ a b p, TW V 0 (-1) a b p ∧ KM V a b p m
theorem MD_lt2 {V : Vw} {c : Nat} {v : Int} {m : Nat} (h : MD V c v m) : m < 2 ^ vNt V := by
  obtain ⟨-, f, -, -, rfl⟩ := h
  exact Nat.or_lt_two_pow (fl_lt2 V _ _) (fl_lt2 V _ _)
theorem WM_lt {V : Vw} {m : Nat} (h : WM V m) : m < 2 ^ vNt V := by
  obtain ⟨a, b, p, -, x, y, hx, hy, rfl⟩ := h
  exact Nat.or_lt_two_pow (Nat.or_lt_two_pow (MD_lt2 hx) (MD_lt2 hy)) (Nat.or_lt_two_pow (fl_lt2 V _ _) (fl_lt2 V _ _))
theorem PW_WM {V : Vw} (hV : VOk V) (x : Nat) : PW V 0 (-1) x ↔ ∃ m, WM V m ∧ x = 1024 * pc m + m := by
  constructor
  · rintro ⟨a, b, p, hT, y, z, ⟨hl1, y1, ⟨g, g1, g2, g3, rfl⟩, rfl⟩, ⟨hl0, z1, ⟨f, f1, f2, f3, rfl⟩, rfl⟩, rfl⟩
    exact ⟨_, ⟨a, b, p, hT, _, _, ⟨hl0, f, ⟨f1, f2⟩, f3, rfl⟩, ⟨hl1, g, ⟨g1, g2⟩, g3, rfl⟩, rfl⟩, sum6 hV f a g b p (qv V a b p)⟩
  · rintro ⟨m, ⟨a, b, p, hT, x, y, ⟨hl0, f, f1, f3, rfl⟩, ⟨hl1, g, g1, g3, rfl⟩, rfl⟩, rfl⟩
    exact ⟨a, b, p, hT, _, _, ⟨hl1, _, ⟨g, g1.1, g1.2, g3, rfl⟩, rfl⟩, ⟨hl0, _, ⟨f, f1.1, f1.2, f3, rfl⟩, rfl⟩, (sum6 hV f a g b p (qv V a b p)).symm⟩
/-- the best of the first n masks: of the fewest bits, then the least -/
def Best (P : Nat → Prop) (n : Nat) (v : Int32) : Prop := (v = -1 ∧ ∀ m, m < n → ¬ P m) ∨ ∃ m, m < n ∧ v = nI m ∧ P m ∧ ∀ k, k < n → P k → pc m < pc k ∨ (pc m = pc k ∧ m ≤ k)
theorem ways_WM {V : Vw} (h : nW V 0 (-1) = 0) (m : Nat) : ¬ WM V m := by
  rintro ⟨a, b, p, ⟨ha, hb, hp, hw, hn⟩, -⟩
  have h1 : 0 < nW V 0 (-1) := sm_pos.mpr ⟨a, ha.1, ha.2, sm_pos.mpr ⟨b, hb.1, hb.2, sm_pos.mpr ⟨p, hp.1, hp.2, by rw [hw, if_pos rfl]; exact hn⟩⟩⟩
  omega
theorem pos_nle (z : Nat) (h1 : 0 < z) (h2 : z ≤ 1024) : ¬ nI z ≤ 0 := by
  rw [iv_nI, c_0]
  exact n_le (by omega)
theorem r_fewest {V : Vw} (hV : VOk V) {S : QS} (hM : MR V S) (h18 : S.1 48 18 = 0) :
    ∃ v S1, f_X6_fewest S = some (v, S1) ∧ Best (WM V) (2 ^ vNt V) v ∧ (∀ k, k < 48 → S1.1 k = S.1 k) ∧ (∀ k, k < 48 → S1.2 k = S.2 k) ∧ MR V S1 ∧ S1.1 48 18 = 0 ∧ S1.1 48 0 = S.1 48 0 ∧ S1.2 67 = S.2 67 := by
  have hp := pow_le10 hV
  have hn := hV.2.2.2.2.1
  obtain ⟨s0, e0, f0, z0⟩ : ∃ s0, lp_X6_fewest_2 FU 0 S = some s0 ∧ Fr [63] S s0 ∧ ∀ m, m < 1024 → s0.1 63 m = 0 := by
    have main := loopN (fun fuel v s => lp_X6_fewest_2 fuel v s) id (fun n s => Fr [63] S s ∧ ∀ m, m < n → s.1 63 m = 0) 1024 (by decide)
      (fun fuel s hI => by
        show lp_X6_fewest_2 (fuel + 1) (iv ((1024 : Nat) : Int)) s = some s
        rw [lp_X6_fewest_2, if_pos (by decide)])
      (fun fuel n s hlt hI => by
        obtain ⟨i1, i2⟩ := hI
        refine ⟨setF 63 n 0 s, ?_, i1.tr (Fr.set (by decide)), fun m hm => ?_⟩
        · show lp_X6_fewest_2 (fuel + 1) (iv (n : Int)) s = lp_X6_fewest_2 fuel (iv ((n + 1 : Nat) : Int)) _
          rw [lp_X6_fewest_2, if_neg (by rw [c_1024]; exact n_le (by omega)), wz_iv (by omega) (Or.inl rfl), ob, Int.toNat_natCast, iv_one]
          rfl
        · by_cases c : m = n
          · subst c
            exact st_eq _ _ _ _
          · rw [st_nej c]
            exact i2 m (by omega))
      S ⟨Fr.rf, fun _ h => absurd h (Nat.not_lt_zero _)⟩
    obtain ⟨S1, e, i1, i2⟩ := main
    exact ⟨S1, by rw [c_0]; exact e, i1, i2⟩
  have hM0 := hM.fr f0 (by decide)
  obtain ⟨s1, e1, f1, k1⟩ := r_makes hV hM0
  have hM1 := hM0.fr f1 (by decide)
  obtain ⟨s2, hs2⟩ : ∃ s2, s2 = setF 48 18 1 s1 := ⟨_, rfl⟩
  have k2 : ∀ k, k ≠ 48 → s2.1 k = s1.1 k := fun k hk => by rw [hs2, st_nek hk]
  have hM2 : MR V s2 := hM1.kp (fun k h1 h2 => k2 k (by omega)) (by rw [hs2, st_nej (by decide)]) (by rw [hs2, st_nej (by decide)])
  obtain ⟨s3, e3, f3, l3, -, g3⟩ := r_goes (set := 0) (w := -1) (wd := true) hV (by omega) hM2 (by rw [hs2, st_eq]; rfl) (fun _ => ⟨k1.fr (k2 65 (by decide)) (k2 66 (by decide)), fun m hm => by rw [k2 63 (by decide), f1.1 63 (by decide)]; exact z0 m hm⟩)
  obtain ⟨s4, hs4⟩ : ∃ s4, s4 = setF 48 18 0 s3 := ⟨_, rfl⟩
  have k4 : ∀ k, k ≠ 48 → s4.1 k = s3.1 k := fun k hk => by rw [hs4, st_nek hk]
  have hM3 : MR V s3 := hM2.kp (fun k h1 h2 => f3.1 k (by simp; omega)) (by rw [f3.1 48 (by decide)]) (by rw [f3.1 48 (by decide)])
  have hM4 : MR V s4 := hM3.kp (fun k h1 h2 => k4 k (by omega)) (by rw [hs4, st_nej (by decide)]) (by rw [hs4, st_nej (by decide)])
  have flag : ∀ m, m < 1024 → Flag (s4.1 63 m) (WM V m) := fun m hm => by
    rw [k4 63 (by decide)]
    exact g3 rfl m hm
  obtain ⟨v, e5, b5⟩ : ∃ v, lp_X6_fewest_47 (b2 (decide (0 < nW V 0 (-1))), s3) s4 FU (-1) 0 = some (v, s4) ∧ Best (WM V) (2 ^ vNt V) v := by
    by_cases hw : 0 < nW V 0 (-1)
    · rw [decide_eq_true hw]
      have main := loopN (fun fuel t v => lp_X6_fewest_47 (b2 true, s3) s4 fuel v t) (fun v => (v, s4)) (fun n v => Best (WM V) n v) (2 ^ vNt V) hp
        (fun fuel v hI => by
          show lp_X6_fewest_47 (b2 true, s3) s4 (fuel + 1) v (iv ((2 ^ vNt V : Nat) : Int)) = some (v, s4)
          rw [lp_X6_fewest_47, hM4.2.2.2.1, shl_iv (by omega), if_pos (by rw [iv_nI]; exact (fa_le _ _).mpr (Int.le_refl _))])
        (fun fuel n v hlt hI => by
          have hI : Best (WM V) n v := hI
          have head : ∀ X, (if s4.1 63 n = 0 then lp_X6_fewest_47 (b2 true, s3) s4 fuel v (iv ((n + 1 : Nat) : Int)) else (if v < 0 then lp_X6_fewest_47 (b2 true, s3) s4 fuel (nI n) (iv ((n + 1 : Nat) : Int)) else ((f_J6_bitCount_0f7a4 (nI n)).bind fun v19 => (f_J6_bitCount_0f7a4 v).bind fun v21 => if v21 ≤ v19 then lp_X6_fewest_47 (b2 true, s3) s4 fuel v (iv ((n + 1 : Nat) : Int)) else lp_X6_fewest_47 (b2 true, s3) s4 fuel (nI n) (iv ((n + 1 : Nat) : Int))))) = X → lp_X6_fewest_47 (b2 true, s3) s4 (fuel + 1) v (iv (n : Int)) = X := by
            rintro X rfl
            rw [lp_X6_fewest_47, hM4.2.2.2.1, shl_iv (by omega), if_neg (by rw [iv_nI]; exact n_le (by omega)), if_neg (show ¬ b2 true = 0 by decide), rd_iv (by omega), ob, Int.toNat_natCast, iv_one, ← iv_nI]
            rfl
          rcases flag n (by omega) with ⟨q1, q2⟩ | ⟨q1, q2⟩
          · rcases hI with ⟨b1, b3⟩ | ⟨m, m1, m2, m3, m4⟩
            · refine ⟨nI n, head _ (by rw [q1, if_neg (by decide), b1, if_pos (by decide)]), Or.inr ⟨n, by omega, rfl, q2, fun k hk hP => ?_⟩⟩
              by_cases ck : k = n
              · subst ck
                exact Or.inr ⟨rfl, Nat.le_refl _⟩
              · exact absurd hP (b3 k (by omega))
            · have c1 := pc_le m
              have c2 := pc_le n
              by_cases cc : pc m ≤ pc n
              · refine ⟨v, head _ (by rw [q1, if_neg (by decide), m2, if_neg (by rw [iv_nI, c_0]; exact n_lt (by omega)), r_bits (by omega), ob, r_bits (by omega), ob, if_pos (by rw [iv_nI, iv_nI]; exact y_le (by omega))]), Or.inr ⟨m, by omega, m2, m3, fun k hk hP => ?_⟩⟩
                by_cases ck : k = n
                · subst ck
                  omega
                · exact m4 k (by omega) hP
              · refine ⟨nI n, head _ (by rw [q1, if_neg (by decide), m2, if_neg (by rw [iv_nI, c_0]; exact n_lt (by omega)), r_bits (by omega), ob, r_bits (by omega), ob, if_neg (by rw [iv_nI, iv_nI]; exact n_le (by omega))]), Or.inr ⟨n, by omega, rfl, q2, fun k hk hP => ?_⟩⟩
                by_cases ck : k = n
                · subst ck
                  exact Or.inr ⟨rfl, Nat.le_refl _⟩
                · have := m4 k (by omega) hP
                  omega
          · refine ⟨v, head _ (by rw [q1, if_pos rfl]), ?_⟩
            rcases hI with ⟨b1, b3⟩ | ⟨m, m1, m2, m3, m4⟩
            · refine Or.inl ⟨b1, fun k hk hP => ?_⟩
              by_cases ck : k = n
              · subst ck
                exact q2 hP
              · exact b3 k (by omega) hP
            · refine Or.inr ⟨m, by omega, m2, m3, fun k hk hP => ?_⟩
              by_cases ck : k = n
              · subst ck
                exact absurd hP q2
              · exact m4 k (by omega) hP)
        (-1) (Or.inl ⟨rfl, fun m hm => absurd hm (Nat.not_lt_zero _)⟩)
      obtain ⟨v, e, b⟩ := main
      exact ⟨v, by rw [c_0]; exact e, b⟩
    · refine ⟨-1, ?_, Or.inl ⟨rfl, fun m _ => ways_WM (by omega) m⟩⟩
      rw [decide_eq_false hw]
      show lp_X6_fewest_47 (b2 false, s3) s4 (1099 + 1) (-1) 0 = _
      rw [lp_X6_fewest_47, hM4.2.2.2.1, shl_iv (by omega), if_neg (pos_nle _ (Nat.two_pow_pos _) hp), if_pos (show b2 false = 0 by decide)]
  have lo : ∀ k, k < 48 → s4.1 k = S.1 k := fun k hk => by
    rw [k4 k (by omega), f3.1 k (by simp; omega), k2 k (by omega), f1.1 k (by simp; omega), f0.1 k (by simp; omega)]
  have ll : ∀ k, k ∉ [48, 60, 61, 62, 63, 64, 65, 66] → s4.2 k = S.2 k := fun k hk => by
    simp only [List.mem_cons, List.not_mem_nil, or_false, not_or] at hk
    rw [hs4, st_2, f3.2 k (by simp; omega), hs2, st_2, f1.2 k (by simp; omega), f0.2 k (by simp; omega)]
  refine ⟨v, s4, ?_, b5, lo, fun k hk => ll k (by simp; omega), hM4, by rw [hs4, st_eq], ?_, ll 67 (by decide)⟩
  · unfold f_X6_fewest
    rw [e0, ob, e1, ob, stZ_ok (Or.inr rfl), ob, ← hs2]
    have e3 : f_X6_goes 0 (-1) s2 = some (b2 (decide (0 < nW V 0 (-1))), s3) := e3
    rw [e3, ob, stZ_ok (Or.inl rfl), ob]
    show lp_X6_fewest_47 (b2 (decide (0 < nW V 0 (-1))), s3) (setF 48 18 0 s3) FU (-1) 0 = _
    rw [← hs4]
    exact e5
  · rw [hs4, st_nej (by decide), f3.1 48 (by decide), hs2, st_nej (by decide), f1.1 48 (by decide), f0.1 48 (by decide)]
end
section
/-! BOTH SIDES: the tests of what is told -/
def okC (a : Int32) : Bool := decide (0 ≤ a.toInt) && decide (a.toInt ≤ 1)
def okS (a : Int32) : Bool := decide (0 ≤ a.toInt) && decide (a.toInt ≤ 2)
def okB (lo hi : Int) (a : Int32) : Bool := decide (lo ≤ a.toInt) && decide (a.toInt ≤ hi)
def okN (lo hi : Int) (a b : Int32) : Bool := decide (lo ≤ a.toInt) && (decide (a.toInt ≤ b.toInt) && decide (b.toInt ≤ hi))
theorem okC_iff {a : Int32} : okC a = true ↔ 0 ≤ a.toInt ∧ a.toInt ≤ 1 := by
  unfold okC
  simp only [Bool.and_eq_true, decide_eq_true_eq]
theorem okS_iff {a : Int32} : okS a = true ↔ 0 ≤ a.toInt ∧ a.toInt ≤ 2 := by
  unfold okS
  simp only [Bool.and_eq_true, decide_eq_true_eq]
theorem okB_iff {lo hi : Int} {a : Int32} : okB lo hi a = true ↔ lo ≤ a.toInt ∧ a.toInt ≤ hi := by
  unfold okB
  simp only [Bool.and_eq_true, decide_eq_true_eq]
theorem okN_iff {lo hi : Int} {a b : Int32} : okN lo hi a b = true ↔ lo ≤ a.toInt ∧ a.toInt ≤ b.toInt ∧ b.toInt ≤ hi := by
  unfold okN
  simp only [Bool.and_eq_true, decide_eq_true_eq]
theorem ok_car {a : Int32} (h : okC a = true) : ∃ c : Nat, c < 2 ∧ a = iv (c : Int) := by
  have := okC_iff.mp h
  exact ⟨a.toInt.toNat, by omega, by rw [Int.toNat_of_nonneg (by omega), iv_of]⟩
theorem ok_spd {a : Int32} (h : okS a = true) : ∃ j : Nat, j < 3 ∧ a = iv (j : Int) := by
  have := okS_iff.mp h
  exact ⟨a.toInt.toNat, by omega, by rw [Int.toNat_of_nonneg (by omega), iv_of]⟩
theorem bxr {α β : Type} (a : α) (f : α → Option ((String × QS) ⊕ β)) : bx (some (.inr a)) f = f a := rfl
theorem bxl {α β : Type} (e : String × QS) (f : α → Option ((String × QS) ⊕ β)) : bx (some (.inl e)) f = some (.inl e) := rfl
theorem bhr {α β : Type} (a : α) (h : String → QS → Option β) (f : α → Option β) : bh (some (.inr a)) h f = f a := rfl
theorem bhl {α β : Type} (e : String) (S : QS) (h : String → QS → Option β) (f : α → Option β) : bh (some (.inl (e, S))) h f = h e S := rfl
theorem stF_ok (k j : Nat) (x : Int32) (S : QS) : stF k j x S = some (setF k j x S) := rfl
theorem stL_ok (k : Nat) (x : Int64) (S : QS) : stL k x S = some (setL k x S) := rfl
theorem z0 : (0 : Int32).toInt = 0 := by decide
theorem z2 : (2 : Int32).toInt = 2 := by decide
theorem zm50 : (-50 : Int32).toInt = -50 := by decide
theorem z50 : (50 : Int32).toInt = 50 := by decide
abbrev nIO : String := "java/lang/IndexOutOfBoundsException"
abbrev nIA : String := "java/lang/IllegalArgumentException"
abbrev nUO : String := "java/lang/UnsupportedOperationException"
abbrev nNS : String := "java/util/NoSuchElementException"
theorem s_IA : ¬ nIA = "java/lang/IndexOutOfBoundsException" := by first | decide | simp
theorem s_UO1 : ¬ nUO = "java/lang/IndexOutOfBoundsException" := by first | decide | simp
theorem s_UO2 : ¬ nUO = "java/lang/IllegalArgumentException" := by first | decide | simp
theorem s_NS1 : ¬ nNS = "java/lang/IndexOutOfBoundsException" := by first | decide | simp
theorem s_NS2 : ¬ nNS = "java/lang/IllegalArgumentException" := by first | decide | simp
theorem b2t : ¬ b2 true = 0 := by decide
theorem b2f : b2 false = 0 := by decide
theorem d_car (a : Int32) (S : QS) : f_X5_testCar a S = some (if okC a then .inr () else .inl (nIO, S)) := by
  unfold f_X5_testCar
  simp only [fa_lt, z0, z2]
  by_cases h1 : a.toInt < 0
  · rw [if_pos h1, if_neg (fun z => by have := okC_iff.mp z; omega)]
  · rw [if_neg h1]
    by_cases h2 : a.toInt < 2
    · rw [if_pos h2, if_pos (okC_iff.mpr (by omega))]
    · rw [if_neg h2, if_neg (fun z => by have := okC_iff.mp z; omega)]
theorem d_speed (a b : Int32) (S : QS) : f_X5_testSpeed a b S = some (if okC a && okS b then .inr () else .inl (nIO, S)) := by
  unfold f_X5_testSpeed
  rw [d_car]
  cases okC a with
  | false =>
    rw [if_neg (by decide), bxl, Bool.false_and, if_neg (by decide)]
  | true =>
    rw [if_pos rfl, bxr, Bool.true_and]
    simp only [fa_lt, fa_le, z0, z2]
    by_cases h1 : b.toInt < 0
    · rw [if_pos h1, if_neg (fun z => by have := okS_iff.mp z; omega)]
    · rw [if_neg h1]
      by_cases h2 : b.toInt ≤ 2
      · rw [if_pos h2, if_pos (okS_iff.mpr (by omega))]
      · rw [if_neg h2, if_neg (fun z => by have := okS_iff.mp z; omega)]
theorem d_num (a : Int32) {lo hi : Int} (hl : -2147483648 ≤ lo ∧ lo < 2147483648) (hh : -2147483648 ≤ hi ∧ hi < 2147483648) (S : QS) : f_X5_testNumber a (iv lo) (iv hi) S = some (if okB lo hi a then .inr () else .inl (nIA, S)) := by
  unfold f_X5_testNumber
  simp only [fa_lt, fa_le, iv_to hl, iv_to hh]
  by_cases h1 : a.toInt < lo
  · rw [if_pos h1, if_neg (fun z => by have := okB_iff.mp z; omega)]
  · rw [if_neg h1]
    by_cases h2 : a.toInt ≤ hi
    · rw [if_pos h2, if_pos (okB_iff.mpr (by omega))]
    · rw [if_neg h2, if_neg (fun z => by have := okB_iff.mp z; omega)]
theorem d_span (a b : Int32) {lo hi : Int} (hl : -2147483648 ≤ lo ∧ lo < 2147483648) (hh : -2147483648 ≤ hi ∧ hi < 2147483648) (S : QS) : f_X5_testSpan a b (iv lo) (iv hi) S = some (if okN lo hi a b then .inr () else .inl (nIA, S)) := by
  unfold f_X5_testSpan
  simp only [fa_lt, fa_le, iv_to hl, iv_to hh]
  by_cases h1 : a.toInt < lo
  · rw [if_pos h1, if_neg (fun z => by have := okN_iff.mp z; omega)]
  · rw [if_neg h1]
    by_cases h3 : b.toInt < a.toInt
    · rw [if_pos h3, if_neg (fun z => by have := okN_iff.mp z; omega)]
    · rw [if_neg h3]
      by_cases h2 : b.toInt ≤ hi
      · rw [if_pos h2, if_pos (okN_iff.mpr (by omega))]
      · rw [if_neg h2, if_neg (fun z => by have := okN_iff.mp z; omega)]
theorem d_num1 (a : Int32) (S : QS) : f_X5_testNumber a 1 100 S = some (if okB 1 100 a then .inr () else .inl (nIA, S)) := by
  rw [c_1, c_100]
  exact d_num a (by decide) (by decide) S
theorem d_num2000 (a : Int32) (S : QS) : f_X5_testNumber a 0 2000 S = some (if okB 0 2000 a then .inr () else .inl (nIA, S)) := by
  rw [c_0, c_2000]
  exact d_num a (by decide) (by decide) S
theorem d_num150 (a : Int32) (S : QS) : f_X5_testNumber a 0 150 S = some (if okB 0 150 a then .inr () else .inl (nIA, S)) := by
  rw [c_0, c_150]
  exact d_num a (by decide) (by decide) S
theorem d_sp2000 (a b : Int32) (S : QS) : f_X5_testSpan a b 0 2000 S = some (if okN 0 2000 a b then .inr () else .inl (nIA, S)) := by
  rw [c_0, c_2000]
  exact d_span a b (by decide) (by decide) S
theorem d_sp150 (a b : Int32) (S : QS) : f_X5_testSpan a b 0 150 S = some (if okN 0 150 a b then .inr () else .inl (nIA, S)) := by
  rw [c_0, c_150]
  exact d_span a b (by decide) (by decide) S
theorem d_sp50 (a b : Int32) (S : QS) : f_X5_testSpan a b (-50) 50 S = some (if okN (-50) 50 a b then .inr () else .inl (nIA, S)) := by
  rw [c_m50, c_50]
  exact d_span a b (by decide) (by decide) S
theorem d_carOf {c : Nat} (hc : c < 2) (S : QS) : f_X5_carOf (iv (c : Int)) S = some (.inr (26 + 11 * c)) := by
  unfold f_X5_carOf
  rw [d_car, if_pos (okC_iff.mpr (by rw [iv_to (by omega)]; omega)), bxr, pick_iv hc, ob]
theorem d_carOf_no {a : Int32} (h : okC a = false) (S : QS) : f_X5_carOf a S = some (.inl (nIO, S)) := by
  unfold f_X5_carOf
  rw [d_car, h, if_neg (by decide), bxl]
theorem d_pick {c j : Nat} (hc : c < 2) (hj : j < 3) (S : QS) : f_X0_pick (26 + 11 * c) (iv (j : Int)) S = some (kp (3 * c + j)) := by
  rcases (show c = 0 ∨ c = 1 by omega) with rfl | rfl <;> rcases (show j = 0 ∨ j = 1 ∨ j = 2 by omega) with rfl | rfl | rfl <;> rfl
theorem d_speedOf {c j : Nat} (hc : c < 2) (hj : j < 3) (S : QS) : f_X5_speedOf (iv (c : Int)) (iv (j : Int)) S = some (.inr (kp (3 * c + j))) := by
  unfold f_X5_speedOf
  rw [d_speed, if_pos (by rw [Bool.and_eq_true]; exact ⟨okC_iff.mpr (by rw [iv_to (by omega)]; omega), okS_iff.mpr (by rw [iv_to (by omega)]; omega)⟩), bxr, d_carOf hc, bxr, d_pick hc hj, ob]
theorem d_speedOf_no {a b : Int32} (h : (okC a && okS b) = false) (S : QS) : f_X5_speedOf a b S = some (.inl (nIO, S)) := by
  unfold f_X5_speedOf
  rw [d_speed, h, if_neg (by decide), bxl]
def okK (V : Vw) (a : Int32) : Bool := decide (0 ≤ a.toInt) && decide (a.toInt < (vNs V : Int))
theorem okK_iff {V : Vw} {a : Int32} : okK V a = true ↔ 0 ≤ a.toInt ∧ a.toInt < (vNs V : Int) := by
  unfold okK
  simp only [Bool.and_eq_true, decide_eq_true_eq]
theorem ok_skd {V : Vw} {a : Int32} (h : okK V a = true) : ∃ s : Nat, s < vNs V ∧ a = iv (s : Int) := by
  have := okK_iff.mp h
  exact ⟨a.toInt.toNat, by omega, by rw [Int.toNat_of_nonneg (by omega), iv_of]⟩
theorem d_skidOf {V : Vw} (hV : VOk V) {S : QS} (hD : DR V S) (a : Int32) : f_X5_skidOf a S = some (if okK V a then .inr (2 + a.toInt.toNat) else .inl (nIO, S)) := by
  have hn := hV.2.2.1
  unfold f_X5_skidOf
  rw [hD.2.2.1]
  have e : (iv (vNs V : Int)).toInt = (vNs V : Int) := iv_to (by omega)
  simp only [fa_lt, z0, e]
  by_cases h1 : a.toInt < 0
  · rw [if_pos h1, if_neg (fun z => by have := okK_iff.mp z; omega)]
  · rw [if_neg h1]
    by_cases h2 : a.toInt < (vNs V : Int)
    · obtain ⟨s, hs⟩ : ∃ s : Nat, a.toInt = (s : Int) := ⟨a.toInt.toNat, by omega⟩
      have ea : a = iv (s : Int) := by rw [← hs, iv_of]
      rw [if_pos h2, if_pos (okK_iff.mpr (by omega)), hs, Int.toNat_natCast, ea, rq_iv (by omega), ob]
    · rw [if_neg h2, if_neg (fun z => by have := okK_iff.mp z; omega)]
/-! the same tests, in the reference -/
theorem b2_not (b : Bool) : (if b2 b = 0 then some (1 : Int32) else some 0) = some (b2 (!b)) := by cases b <;> rfl
theorem m_noCar (a : Int32) : f_X6_noCar a = some (b2 (!okC a)) := by
  have z1 : (1 : Int32).toInt = 1 := by decide
  unfold f_X6_noCar
  rw [r_in, ob, z0, z1]
  exact b2_not _
theorem m_noSpeed (a b : Int32) : f_X6_noSpeed a b = some (b2 (!(okC a && okS b))) := by
  unfold f_X6_noSpeed
  rw [m_noCar, ob]
  cases okC a with
  | false => rfl
  | true =>
    rw [if_pos (by decide), r_in, ob, z0, z2]
    exact b2_not _
theorem m_noSpan (a b : Int32) : f_X6_noSpan a b = some (b2 (!okN (-50) 50 a b)) := by
  unfold f_X6_noSpan
  simp only [fa_lt, fa_le, zm50, z50]
  by_cases h1 : a.toInt < -50
  · rw [if_pos h1, show okN (-50) 50 a b = false from Bool.eq_false_iff.mpr (fun z => by have := okN_iff.mp z; omega)]
    rfl
  · rw [if_neg h1]
    by_cases h3 : b.toInt < a.toInt
    · rw [if_pos h3, show okN (-50) 50 a b = false from Bool.eq_false_iff.mpr (fun z => by have := okN_iff.mp z; omega)]
      rfl
    · rw [if_neg h3]
      by_cases h2 : b.toInt ≤ 50
      · rw [if_pos h2, okN_iff.mpr (by omega)]
        rfl
      · rw [if_neg h2, show okN (-50) 50 a b = false from Bool.eq_false_iff.mpr (fun z => by have := okN_iff.mp z; omega)]
        rfl
theorem m_thr (z : Bool) (x : Int32) (S : QS) : f_X6_throwsIf (b2 z) x S = some (b2 z, if z then setF 48 0 x S else S) := by
  unfold f_X6_throwsIf
  cases z with
  | false => rfl
  | true => rfl
theorem thr_n {β : Type} (x : Int32) (S : QS) (f : Int32 × QS → Option β) : (f_X6_throwsIf (b2 (!false)) x S).bind f = f (b2 true, setF 48 0 x S) := by
  rw [m_thr]
  rfl
theorem thr_y {β : Type} (x : Int32) (S : QS) (f : Int32 × QS → Option β) : (f_X6_throwsIf (b2 (!true)) x S).bind f = f (b2 false, S) := by
  rw [m_thr]
  rfl
theorem thr_1 {β : Type} (x : Int32) (S : QS) (f : Int32 × QS → Option β) : (f_X6_throwsIf 1 x S).bind f = f (b2 true, setF 48 0 x S) := thr_n x S f
theorem thr_0 {β : Type} (x : Int32) (S : QS) (f : Int32 × QS → Option β) : (f_X6_throwsIf 0 x S).bind f = f (b2 false, S) := thr_y x S f
theorem m_inB (a : Int32) {lo hi : Int} (hl : -2147483648 ≤ lo ∧ lo < 2147483648) (hh : -2147483648 ≤ hi ∧ hi < 2147483648) : f_X6_in a (iv lo) (iv hi) = some (b2 (okB lo hi a)) := by
  rw [r_in, iv_to hl, iv_to hh]
  rfl
theorem m_in1 (a : Int32) : f_X6_in a 1 100 = some (b2 (okB 1 100 a)) := by
  rw [c_1, c_100]
  exact m_inB a (by decide) (by decide)
theorem m_in2000 (a : Int32) : f_X6_in a 0 2000 = some (b2 (okB 0 2000 a)) := by
  rw [c_0, c_2000]
  exact m_inB a (by decide) (by decide)
theorem m_in150 (a : Int32) : f_X6_in a 0 150 = some (b2 (okB 0 150 a)) := by
  rw [c_0, c_150]
  exact m_inB a (by decide) (by decide)
theorem m_in50 (a : Int32) : f_X6_in a (-50) 50 = some (b2 (okB (-50) 50 a)) := by
  rw [c_m50, c_50]
  exact m_inB a (by decide) (by decide)
/-! the invariant -/
def IV (V : Vw) (S : QS) : Prop := VOk V ∧ DR V S ∧ Cache V S ∧ MR V S ∧ S.1 48 18 = 0
def Inv (S : QS) : Prop := ∃ V, IV V S
/-- what only the reference's own notes differ in -/
theorem IV.md {V : Vw} {S S1 : QS} (h : IV V S) (hk : ∀ k, k < 48 → S1.1 k = S.1 k) (hl : S1.2 25 = S.2 25) (hM : MR V S1) (h18 : S1.1 48 18 = 0) : IV V S1 := ⟨h.1, h.2.1.kept h.1 hk, h.2.2.1.kept hk hl, hM, h18⟩
theorem IV.thr {V : Vw} {S : QS} (h : IV V S) (x : Int32) : IV V (setF 48 0 x S) := h.md (fun k hk => st_nek (by omega)) rfl (h.2.2.2.1.kp (fun k h1 h2 => st_nek (by omega)) (st_nej (by decide)) (st_nej (by decide))) (by rw [st_nej (by decide)]; exact h.2.2.2.2)
theorem IV.out {V : Vw} {S : QS} (h : IV V S) (x : Int64) : IV V (setL 67 x S) := h.md (fun _ _ => rfl) (sl_ne (by decide)) (h.2.2.2.1.kp (fun _ _ _ => rfl) rfl rfl) h.2.2.2.2
theorem IV.tell {V : Vw} {S1 S2 : QS} (hV : VOk V) (hD : DR V S1) (h5 : S1.1 0 5 = 0) (hk : ∀ k, k < 48 → S2.1 k = S1.1 k) (hM : MR V S2) (h18 : S2.1 48 18 = 0) : IV V S2 := ⟨hV, hD.kept hV hk, Or.inl (by rw [hk 0 (by decide)]; exact h5), hM, h18⟩
theorem MR.up {V : Vw} {S S1 : QS} (h : MR V S) (hk : ∀ k, 48 ≤ k → S1.1 k = S.1 k) : MR V S1 := h.kp (fun k h1 _ => hk k (by omega)) (by rw [hk 48 (by decide)]) (by rw [hk 48 (by decide)])
end
section
/-! BOTH SIDES: what is told -/
def upM (V : Vw) (c : Nat) (n : Int) : Vw := (fun d => if d = c then n else V.1 d, V.2)
def upS (V : Vw) (r : Nat) (lo hi : Int) : Vw := (V.1, fun x => if x = r then lo else V.2.1 x, fun x => if x = r then hi else V.2.2.1 x, V.2.2.2)
def upK (V : Vw) (k : Nat × Bool × Int × Int × Bool) : Vw := (V.1, V.2.1, V.2.2.1, V.2.2.2.1 + 1, fun s => if s = V.2.2.2.1 then k else V.2.2.2.2.1 s, V.2.2.2.2.2)
def upD (V : Vw) (x : Nat) (on : Bool) : Vw := (V.1, V.2.1, V.2.2.1, V.2.2.2.1, fun s => if s = x then (kCar V x, kBeh V x, kLo V x, kHi V x, on) else V.2.2.2.2.1 s, V.2.2.2.2.2)
def upT (V : Vw) (k : Nat × Int × Int) : Vw := (V.1, V.2.1, V.2.2.1, V.2.2.2.1, V.2.2.2.2.1, V.2.2.2.2.2.1 + 1, fun t => if t = V.2.2.2.2.2.1 then k else V.2.2.2.2.2.2 t)
def upH (V : Vw) : Vw := (V.1, V.2.1, V.2.2.1, V.2.2.2.1, V.2.2.2.2.1, 0, V.2.2.2.2.2.2)
/-- how a call answers on both sides: the same code, and the invariant -/
def Same (S : QS) (l : Option (Int32 × QS)) (m : QS → Option QS) : Prop := ∃ k S1 S2, l = some (k, S1) ∧ m S1 = some S2 ∧ S2.1 48 0 = k ∧ Inv S2
theorem same_thr {V : Vw} {S : QS} (h : IV V S) (k : Int32) {l : Option (Int32 × QS)} {m : QS → Option QS} (hl : l = some (k, S)) (hm : m S = some (setF 48 0 k (setF 48 0 0 S))) : Same S l m :=
  ⟨k, S, _, hl, hm, st_eq _ _ _ _, V, (h.thr 0).thr k⟩
theorem b_mass {V : Vw} {S : QS} (h : IV V S) (a n : Int32) : Same S (f_L_mass a n S) (f_X6_mass a n) := by
  obtain ⟨hV, hD, hC, hM, h18⟩ := id h
  cases hc : okC a with
  | false =>
    refine same_thr h 1 ?_ ?_
    · unfold f_L_mass f_X5_mass
      rw [d_carOf_no hc, bxl, bhl]
      rfl
    · unfold f_X6_mass
      rw [stF_ok, ob, m_noCar, ob, hc, thr_n, if_neg b2t]
  | true =>
    obtain ⟨c, hc2, rfl⟩ := ok_car hc
    cases hn : okB 1 100 n with
    | false =>
      refine same_thr h 2 ?_ ?_
      · unfold f_L_mass f_X5_mass
        rw [d_carOf hc2, bxr, d_num1, hn, if_neg (by decide), bxl, bhl, if_neg s_IA, if_pos rfl]
      · unfold f_X6_mass
        rw [stF_ok, ob, m_noCar, ob, hc, thr_y, if_pos b2f]
        show ((f_X6_in n 1 100).bind _) = _
        rw [m_in1, ob, hn, b2_not, ob, thr_n, if_neg b2t]
    | true =>
      have hb := okB_iff.mp hn
      obtain ⟨S1, hS1⟩ : ∃ S1, S1 = setF 0 5 0 (setF (26 + 11 * c) 0 n S) := ⟨_, rfl⟩
      obtain ⟨S2, hS2⟩ : ∃ S2, S2 = setF 49 c n (setF 48 0 0 S1) := ⟨_, rfl⟩
      have en : n = iv n.toInt := (iv_of n).symm
      have hV2 : VOk (upM V c n.toInt) := ⟨fun d hd => by
        show 1 ≤ (if d = c then n.toInt else vM V d) ∧ (if d = c then n.toInt else vM V d) ≤ 100
        split
        · exact hb
        · exact hV.1 d hd, hV.2⟩
      have lo : ∀ k, k ≠ 0 → k ≠ 26 → k ≠ 37 → S1.1 k = S.1 k := fun k h1 h2 h3 => by rw [hS1, st_nek h1, st_nek (by omega)]
      have l0 : ∀ j, j ≠ 5 → S1.1 0 j = S.1 0 j := fun j hj => by rw [hS1, st_nej hj, st_nek (by omega)]
      have hD2 : DR (upM V c n.toInt) S1 := by
        obtain ⟨q1, q2, q3, q4, q5, q6⟩ := hD
        refine ⟨⟨?_, ?_⟩, fun r hr => ?_, by rw [l0 2 (by decide)]; exact q3, by rw [l0 3 (by decide)]; exact q4, fun s hs => ?_, fun t ht => ?_⟩
        · show S1.1 26 0 = iv (if 0 = c then n.toInt else vM V 0)
          rw [hS1, st_nek (by decide)]
          by_cases c0 : 0 = c
          · subst c0
            rw [if_pos rfl, ← en]
            exact st_eq _ _ _ _
          · rw [if_neg c0, st_nek (by omega)]
            exact q1.1
        · show S1.1 37 0 = iv (if 1 = c then n.toInt else vM V 1)
          rw [hS1, st_nek (by decide)]
          by_cases c0 : 1 = c
          · subst c0
            rw [if_pos rfl, ← en]
            exact st_eq _ _ _ _
          · rw [if_neg c0, st_nek (by omega)]
            exact q1.2
        · have := kp_cases hr
          rw [lo (kp r) (by omega) (by omega) (by omega)]
          exact q2 r hr
        · have h12 : vNs V ≤ 12 := hV.2.2.1
          have hs : s < vNs V := hs
          rw [lo (2 + s) (by omega) (by omega) (by omega)]
          exact q5 s hs
        · have h10 : vNt V ≤ 10 := hV.2.2.2.2.1
          have ht : t < vNt V := ht
          rw [lo (15 + t) (by omega) (by omega) (by omega)]
          exact q6 t ht
      have hM1 : MR V S1 := hM.up (fun k hk => lo k (by omega) (by omega) (by omega))
      have hM2 : MR (upM V c n.toInt) S2 := by
        obtain ⟨q1, q2⟩ := hM1
        have e : ∀ k, k ≠ 49 → k ≠ 48 → S2.1 k = S1.1 k := fun k h1 h2 => by rw [hS2, st_nek h1, st_nek h2]
        have e8 : ∀ j, j ≠ 0 → S2.1 48 j = S1.1 48 j := fun j hj => by rw [hS2, st_nek (by decide), st_nej hj]
        refine ⟨⟨?_, ?_⟩, ?_⟩
        · show S2.1 49 0 = iv (if 0 = c then n.toInt else vM V 0)
          rw [hS2]
          by_cases c0 : 0 = c
          · subst c0
            rw [if_pos rfl, ← en]
            exact st_eq _ _ _ _
          · rw [if_neg c0, st_nej c0, st_nek (by decide)]
            exact q1.1
        · show S2.1 49 1 = iv (if 1 = c then n.toInt else vM V 1)
          rw [hS2]
          by_cases c0 : 1 = c
          · subst c0
            rw [if_pos rfl, ← en]
            exact st_eq _ _ _ _
          · rw [if_neg c0, st_nej c0, st_nek (by decide)]
            exact q1.2
        · rw [e 55 (by decide) (by decide), e 56 (by decide) (by decide), e8 7 (by decide), e8 13 (by decide), e 50 (by decide) (by decide), e 51 (by decide) (by decide), e 52 (by decide) (by decide), e 53 (by decide) (by decide), e 54 (by decide) (by decide), e 57 (by decide) (by decide), e 58 (by decide) (by decide), e 59 (by decide) (by decide)]
          exact q2
      refine ⟨0, S1, S2, ?_, ?_, by rw [hS2, st_nek (by decide), st_eq], upM V c n.toInt, IV.tell hV2 hD2 (by rw [hS1, st_eq]) (fun k hk => by rw [hS2, st_nek (by omega), st_nek (by omega)]) hM2 (by rw [hS2, st_nek (by decide), st_nej (by decide), lo 48 (by decide) (by decide) (by decide)]; exact h18)⟩
      · unfold f_L_mass f_X5_mass
        rw [d_carOf hc2, bxr, d_num1, hn, if_pos rfl, bxr, stF_ok, ob, stZ_ok (Or.inl rfl), ob, bhr, ← hS1]
      · unfold f_X6_mass
        rw [stF_ok, ob, m_noCar, ob, hc, thr_y, if_pos b2f]
        show ((f_X6_in n 1 100).bind _) = _
        rw [m_in1, ob, hn, b2_not, ob, thr_y, if_pos b2f]
        show (wrA 49 2 (iv (c : Int)) n (setF 48 0 0 S1)).bind _ = _
        rw [wr_iv (by omega), ob, Int.toNat_natCast, hS2]
/-- an answer too: the same number where nothing is thrown -/
def SameL (S : QS) (l : Option (Int32 × QS)) (m : QS → Option (Int32 × QS)) : Prop := ∃ k S1 y S2, l = some (k, S1) ∧ m S1 = some (y, S2) ∧ S2.1 48 0 = k ∧ (k = 0 → S2.2 67 = y.toInt64) ∧ Inv S2
theorem sameL_thr {V : Vw} {S : QS} (h : IV V S) (k : Int32) (hk : k ≠ 0) {l : Option (Int32 × QS)} {m : QS → Option (Int32 × QS)} (hl : l = some (k, S)) {y : Int32} (hm : m S = some (y, setF 48 0 k (setF 48 0 0 S))) : SameL S l m :=
  ⟨k, S, y, _, hl, hm, st_eq _ _ _ _, fun z => absurd z hk, V, (h.thr 0).thr k⟩
theorem iv_mulb {a b : Int32} {x y : Int} (ha : 0 ≤ a.toInt ∧ a.toInt ≤ x) (hb : 0 ≤ b.toInt ∧ b.toInt ≤ y) (hx : x ≤ 2000) (hy : y ≤ 150) : a * b = iv (a.toInt * b.toInt) ∧ 0 ≤ a.toInt * b.toInt ∧ a.toInt * b.toInt ≤ 300000 := by
  refine ⟨?_, Int.mul_nonneg ha.1 hb.1, ?_⟩
  · rw [← iv_mul, iv_of, iv_of]
  · have h1 : 0 ≤ a.toInt * (150 - b.toInt) := Int.mul_nonneg ha.1 (by omega)
    rw [Int.mul_sub] at h1
    omega
theorem b_skid {V : Vw} {S : QS} (h : IV V S) (a : Int32) (beh : Bool) (lo hi le mo : Int32) : SameL S (f_L_skid a (b2 beh) lo hi le mo S) (f_X6_skid a (b2 beh) lo hi le mo) := by
  obtain ⟨hV, hD, hC, hM, h18⟩ := id h
  have h12 : vNs V ≤ 12 := hV.2.2.1
  have h10 : vNt V ≤ 10 := hV.2.2.2.2.1
  have q : ((if lo < 0 then (some 1) else (if hi < lo then (some 1) else (if 2000 < hi then (some 1) else (if le < 0 then (some 1) else (if mo < le then (some 1) else (if mo ≤ 150 then (some 0) else (some 1))))))) : Option Int32) = some (b2 (!(okN 0 2000 lo hi && okN 0 150 le mo))) := by
    have z2000 : (2000 : Int32).toInt = 2000 := by decide
    have z150 : (150 : Int32).toInt = 150 := by decide
    simp only [fa_lt, fa_le, z0, z2000, z150]
    have t1 : ∀ {x : Bool}, x = false → some (1 : Int32) = some (b2 (!x)) := fun e => by rw [e]; rfl
    have f1 : (¬ (0 ≤ lo.toInt ∧ lo.toInt ≤ hi.toInt ∧ hi.toInt ≤ 2000)) → (okN 0 2000 lo hi && okN 0 150 le mo) = false := fun z => by
      rw [show okN 0 2000 lo hi = false from Bool.eq_false_iff.mpr (fun y => z (okN_iff.mp y)), Bool.false_and]
    have f2 : (¬ (0 ≤ le.toInt ∧ le.toInt ≤ mo.toInt ∧ mo.toInt ≤ 150)) → (okN 0 2000 lo hi && okN 0 150 le mo) = false := fun z => by
      rw [show okN 0 150 le mo = false from Bool.eq_false_iff.mpr (fun y => z (okN_iff.mp y)), Bool.and_false]
    by_cases c1 : lo.toInt < 0
    · rw [if_pos c1]; exact t1 (f1 (by omega))
    · rw [if_neg c1]
      by_cases c2 : hi.toInt < lo.toInt
      · rw [if_pos c2]; exact t1 (f1 (by omega))
      · rw [if_neg c2]
        by_cases c3 : 2000 < hi.toInt
        · rw [if_pos c3]; exact t1 (f1 (by omega))
        · rw [if_neg c3]
          by_cases c4 : le.toInt < 0
          · rw [if_pos c4]; exact t1 (f2 (by omega))
          · rw [if_neg c4]
            by_cases c5 : mo.toInt < le.toInt
            · rw [if_pos c5]; exact t1 (f2 (by omega))
            · rw [if_neg c5]
              by_cases c6 : mo.toInt ≤ 150
              · rw [if_pos c6, okN_iff.mpr (by omega), okN_iff.mpr (by omega)]
                rfl
              · rw [if_neg c6]; exact t1 (f2 (by omega))
  cases hc : okC a with
  | false =>
    refine sameL_thr h 1 (by decide) ?_ ?_ (y := 0)
    · unfold f_L_skid f_X5_skid
      rw [d_car, hc, if_neg (by decide), bxl, bhl]
      rfl
    · unfold f_X6_skid
      rw [stF_ok, ob, m_noCar, ob, hc, thr_n, if_neg b2t]
  | true =>
    obtain ⟨c, hc2, rfl⟩ := ok_car hc
    cases hn : (okN 0 2000 lo hi && okN 0 150 le mo) with
    | false =>
      refine sameL_thr h 2 (by decide) ?_ ?_ (y := 0)
      · unfold f_L_skid f_X5_skid
        rw [d_car, hc, if_pos rfl, bxr, d_sp2000]
        cases h1 : okN 0 2000 lo hi with
        | false =>
          rw [if_neg (by decide), bxl, bhl, if_neg s_IA, if_pos rfl]
        | true =>
          rw [h1, Bool.true_and] at hn
          rw [if_pos rfl, bxr, d_sp150, hn, if_neg (by decide), bxl, bhl, if_neg s_IA, if_pos rfl]
      · unfold f_X6_skid
        rw [stF_ok, ob, m_noCar, ob, hc, thr_y, if_pos b2f, q, ob, hn, thr_n, if_neg b2t]
    | true =>
      have hn2 := hn
      rw [Bool.and_eq_true] at hn2
      obtain ⟨n1, n2⟩ := hn2
      have b1 := okN_iff.mp n1
      have b3 := okN_iff.mp n2
      have e7 : (setF 48 0 0 S).1 48 7 = iv (vNs V : Int) := by rw [st_nej (by decide)]; exact hM.2.2.1
      by_cases hf : vNs V = 12
      · refine sameL_thr h 3 (by decide) ?_ ?_ (y := 0)
        · unfold f_L_skid f_X5_skid
          rw [d_car, hc, if_pos rfl, bxr, d_sp2000, n1, if_pos rfl, bxr, d_sp150, n2, if_pos rfl, bxr, hD.2.2.1, hf, if_neg (by decide), bhl, if_neg s_UO1, if_neg s_UO2, if_pos rfl]
        · unfold f_X6_skid
          rw [stF_ok, ob, m_noCar, ob, hc, thr_y, if_pos b2f, q, ob, hn, thr_y, if_pos b2f]
          show (((if (setF 48 0 0 S).1 48 7 = 12 then (some 1) else (some 0)) : Option Int32).bind _) = _
          rw [e7, hf, if_pos (by decide), ob, thr_1, if_neg b2t]
      · obtain ⟨e1, p1, p2⟩ := iv_mulb (a := lo) (b := le) (x := 2000) (y := 150) (by omega) (by omega) (by decide) (by decide)
        obtain ⟨e2, p3, p4⟩ := iv_mulb (a := hi) (b := mo) (x := 2000) (y := 150) (by omega) (by omega) (by decide) (by decide)
        obtain ⟨ns, hns⟩ : ∃ ns, ns = vNs V := ⟨_, rfl⟩
        obtain ⟨V2, hV2e⟩ : ∃ V2, V2 = upK V (c, beh, lo.toInt * le.toInt, hi.toInt * mo.toInt, true) := ⟨_, rfl⟩
        obtain ⟨S1, hS1⟩ : ∃ S1, S1 = setF 0 5 0 (setF 0 2 (iv ((ns + 1 : Nat) : Int)) (setF (2 + ns) 4 1 (setF (2 + ns) 3 (hi * mo) (setF (2 + ns) 2 (lo * le) (setF (2 + ns) 1 (b2 beh) (setF (2 + ns) 0 (iv (c : Int)) S)))))) := ⟨_, rfl⟩
        obtain ⟨T, hT⟩ : ∃ T, T = setL 67 (iv (ns : Int)).toInt64 S1 := ⟨_, rfl⟩
        obtain ⟨S2, hS2⟩ : ∃ S2, S2 = setF 48 7 (iv ((ns + 1 : Nat) : Int)) (setF 53 ns (hi * mo) (setF 52 ns (lo * le) (setF 51 ns (b2 beh) (setF 50 ns (iv (c : Int)) (setF 48 0 0 T))))) := ⟨_, rfl⟩
        have vk : ∀ s, V2.2.2.2.2.1 s = if s = ns then (c, beh, lo.toInt * le.toInt, hi.toInt * mo.toInt, true) else V.2.2.2.2.1 s := fun s => by rw [hV2e, hns]; rfl
        have vn : vNs V2 = ns + 1 := by rw [hV2e, hns]; rfl
        have vt : V2.2.2.2.2.2 = V.2.2.2.2.2 := by rw [hV2e]; rfl
        have v1 : V2.1 = V.1 := by rw [hV2e]; rfl
        have v2 : V2.2.1 = V.2.1 := by rw [hV2e]; rfl
        have v3 : V2.2.2.1 = V.2.2.1 := by rw [hV2e]; rfl
        have kk : ∀ s, s ≠ ns → kCar V2 s = kCar V s ∧ kBeh V2 s = kBeh V s ∧ kLo V2 s = kLo V s ∧ kHi V2 s = kHi V s ∧ kOn V2 s = kOn V s := fun s hs => by
          unfold kCar kBeh kLo kHi kOn
          rw [vk s, if_neg hs]
          exact ⟨rfl, rfl, rfl, rfl, rfl⟩
        have kn : kCar V2 ns = c ∧ kBeh V2 ns = beh ∧ kLo V2 ns = lo.toInt * le.toInt ∧ kHi V2 ns = hi.toInt * mo.toInt ∧ kOn V2 ns = true := by
          unfold kCar kBeh kLo kHi kOn
          rw [vk ns, if_pos rfl]
          exact ⟨rfl, rfl, rfl, rfl, rfl⟩
        have hV2 : VOk V2 := by
          obtain ⟨w1, w2, w3, w4, w5, w6⟩ := hV
          refine ⟨fun d hd => ?_, fun r hr => ?_, by omega, fun s hs => ?_, ?_, fun t ht => ?_⟩
          · unfold vM; rw [v1]; exact w1 d hd
          · unfold vLo vHi; rw [v2, v3]; exact w2 r hr
          · by_cases cs : s = ns
            · subst cs
              obtain ⟨g1, g2, g3, g4, -⟩ := kn
              rw [g1, g3, g4]
              exact ⟨hc2, p1, p2, p3, p4⟩
            · obtain ⟨g1, -, g3, g4, -⟩ := kk s cs
              rw [g1, g3, g4]
              exact w4 s (by omega)
          · unfold vNt; rw [vt]; exact w5
          · unfold vNt at ht
            rw [vt] at ht
            unfold tRow tLo tHi
            rw [vt]
            exact w6 t ht
        have hnt : vNt V2 = vNt V := by unfold vNt; rw [vt]
        have far : ∀ k, k ≠ 0 → k ≠ 2 + ns → S1.1 k = S.1 k := fun k h1 h2 => by rw [hS1, st_nek h1, st_nek h1, st_nek h2, st_nek h2, st_nek h2, st_nek h2, st_nek h2]
        have hD2 : DR V2 S1 := by
          obtain ⟨q1, q2, q3, q4, q5, q6⟩ := hD
          refine ⟨?_, fun r hr => ?_, ?_, ?_, fun s hs => ?_, fun t ht => ?_⟩
          · unfold vM; rw [v1, far 26 (by decide) (by omega), far 37 (by decide) (by omega)]; exact q1
          · have := kp_cases hr
            unfold vLo vHi
            rw [v2, v3, far (kp r) (by omega) (by omega)]
            exact q2 r hr
          · rw [vn, hS1, st_nej (by decide), st_eq]
          · rw [hnt, hS1, st_nej (by decide), st_nej (by decide), st_nek (by omega), st_nek (by omega), st_nek (by omega), st_nek (by omega), st_nek (by omega)]
            exact q4
          · by_cases cs : s = ns
            · subst cs
              obtain ⟨g1, g2, g3, g4, g5⟩ := kn
              rw [g1, g2, g3, g4, g5, hS1, st_nek (by omega), st_nek (by omega), ← e1, ← e2]
              refine ⟨?_, ?_, ?_, ?_, ?_⟩
              · rw [st_nej (by decide), st_nej (by decide), st_nej (by decide), st_nej (by decide), st_eq]
              · rw [st_nej (by decide), st_nej (by decide), st_nej (by decide), st_eq]
              · rw [st_nej (by decide), st_nej (by decide), st_eq]
              · rw [st_nej (by decide), st_eq]
              · exact st_eq _ _ _ _
            · obtain ⟨g1, g2, g3, g4, g5⟩ := kk s cs
              rw [g1, g2, g3, g4, g5, far (2 + s) (by omega) (by omega)]
              exact q5 s (by omega)
          · unfold tRow tLo tHi
            rw [vt, far (15 + t) (by omega) (by omega)]
            exact q6 t (by omega)
        have hM1 : MR V T := hM.up (fun k hk => by rw [hT, sl_1]; exact far k (by omega) (by omega))
        have e7b : ∀ x, (setF 48 0 x T).1 48 7 = iv (ns : Int) := fun x => by rw [st_nej (by decide), hns]; exact hM1.2.2.1
        have hM2 : MR V2 S2 := by
          obtain ⟨q1, q2, q3, q4, q5, q6, q7⟩ := hM1
          have e : ∀ k, k ≠ 48 → k ≠ 50 → k ≠ 51 → k ≠ 52 → k ≠ 53 → S2.1 k = T.1 k := fun k h1 h2 h3 h4 h5 => by rw [hS2, st_nek h1, st_nek h5, st_nek h4, st_nek h3, st_nek h2, st_nek h1]
          refine ⟨?_, fun r hr => ?_, ?_, ?_, fun s hs => ?_, fun s hs1 hs2 => ?_, fun t ht => ?_⟩
          · unfold vM; rw [v1, e 49 (by decide) (by decide) (by decide) (by decide) (by decide)]; exact q1
          · unfold vLo vHi; rw [v2, v3, e 55 (by decide) (by decide) (by decide) (by decide) (by decide), e 56 (by decide) (by decide) (by decide) (by decide) (by decide)]; exact q2 r hr
          · rw [vn, hS2, st_eq]
          · rw [hnt, hS2, st_nej (by decide), st_nek (by decide), st_nek (by decide), st_nek (by decide), st_nek (by decide), st_nej (by decide)]; exact q4
          · by_cases cs : s = ns
            · subst cs
              obtain ⟨g1, g2, g3, g4, g5⟩ := kn
              rw [g1, g2, g3, g4, g5, ← e1, ← e2]
              refine ⟨?_, ?_, ?_, ?_, ?_⟩
              · rw [hS2, st_nek (by decide), st_nek (by decide), st_nek (by decide), st_nek (by decide), st_eq]
              · rw [hS2, st_nek (by decide), st_nek (by decide), st_nek (by decide), st_eq]
              · rw [hS2, st_nek (by decide), st_nek (by decide), st_eq]
              · rw [hS2, st_nek (by decide), st_eq]
              · rw [e 54 (by decide) (by decide) (by decide) (by decide) (by decide)]
                exact q6 s (by omega) (by omega)
            · obtain ⟨g1, g2, g3, g4, g5⟩ := kk s cs
              have q5s := q5 s (by omega)
              rw [g1, g2, g3, g4, g5, e 54 (by decide) (by decide) (by decide) (by decide) (by decide), hS2]
              refine ⟨?_, ?_, ?_, ?_, q5s.2.2.2.2⟩
              · rw [st_nek (by decide), st_nek (by decide), st_nek (by decide), st_nek (by decide), st_nej cs, st_nek (by decide)]; exact q5s.1
              · rw [st_nek (by decide), st_nek (by decide), st_nek (by decide), st_nej cs, st_nek (by decide), st_nek (by decide)]; exact q5s.2.1
              · rw [st_nek (by decide), st_nek (by decide), st_nej cs, st_nek (by decide), st_nek (by decide), st_nek (by decide)]; exact q5s.2.2.1
              · rw [st_nek (by decide), st_nej cs, st_nek (by decide), st_nek (by decide), st_nek (by decide), st_nek (by decide)]; exact q5s.2.2.2.1
          · rw [e 54 (by decide) (by decide) (by decide) (by decide) (by decide)]
            exact q6 s (by omega) hs2
          · unfold tRow tLo tHi
            rw [vt, e 57 (by decide) (by decide) (by decide) (by decide) (by decide), e 58 (by decide) (by decide) (by decide) (by decide) (by decide), e 59 (by decide) (by decide) (by decide) (by decide) (by decide)]
            exact q7 t (by omega)
        refine ⟨0, T, iv (ns : Int), S2, ?_, ?_, ?_, fun _ => ?_, V2, IV.tell (S1 := T) hV2 (hD2.kept hV2 (fun k _ => by rw [hT, sl_1])) (by rw [hT, sl_1, hS1, st_eq]) (fun k hk => ?_) hM2 ?_⟩
        · unfold f_L_skid f_X5_skid
          rw [d_car, hc, if_pos rfl, bxr, d_sp2000, n1, if_pos rfl, bxr, d_sp150, n2, if_pos rfl, bxr, hD.2.2.1, ← hns, c_12, if_pos (y_lt (a := (ns : Int)) (b := 12) (by omega)), rq_iv (by omega), ob, stF_ok, ob, stZ_ok (b2_or _), ob, stF_ok, ob, stF_ok, ob, stZ_ok (Or.inr rfl), ob]
          rw [st_nek (k1 := 0) (by omega), st_nek (k1 := 0) (by omega), st_nek (k1 := 0) (by omega), st_nek (k1 := 0) (by omega), st_nek (k1 := 0) (by omega), hD.2.2.1, ← hns, stF_ok, ob, iv_one, stZ_ok (Or.inl rfl), ob, bhr]
          show (stL 67 ((setF 0 5 0 (setF 0 2 (iv ((ns : Int) + 1)) _)).1 0 2 - 1).toInt64 _).bind _ = _
          rw [st_nej (by decide), st_eq, c_1, iv_sub, show ((ns : Int) + 1 - 1) = (ns : Int) by omega, stL_ok, ob, hT, hS1]
          rfl
        · unfold f_X6_skid
          rw [stF_ok, ob, m_noCar, ob, hc, thr_y, if_pos b2f, q, ob, hn, thr_y, if_pos b2f]
          show (((if (setF 48 0 0 T).1 48 7 = 12 then (some 1) else (some 0)) : Option Int32).bind _) = _
          rw [e7b, c_12, if_neg (n_eq (a := (ns : Int)) (b := 12) (by omega)), ob, thr_0, if_pos b2f]
          show (wrA 50 12 ((setF 48 0 0 T).1 48 7) (iv (c : Int)) (setF 48 0 0 T)).bind _ = _
          rw [e7b, wr_iv (by omega), ob, Int.toNat_natCast, st_nek (k := 50) (k1 := 48) (by decide), e7b, wz_iv (by omega) (b2_or _), ob, Int.toNat_natCast, st_nek (k := 51) (k1 := 48) (by decide), st_nek (k := 50) (k1 := 48) (by decide), e7b, wr_iv (by omega), ob, Int.toNat_natCast, st_nek (k := 52) (k1 := 48) (by decide), st_nek (k := 51) (k1 := 48) (by decide), st_nek (k := 50) (k1 := 48) (by decide), e7b, wr_iv (by omega), ob, Int.toNat_natCast, st_nek (k := 53) (k1 := 48) (by decide), st_nek (k := 52) (k1 := 48) (by decide), st_nek (k := 51) (k1 := 48) (by decide), st_nek (k := 50) (k1 := 48) (by decide), e7b, iv_one, stF_ok, ob, st_eq, c_1, iv_sub, show ((ns : Int) + 1 - 1) = (ns : Int) by omega, hS2]
          rfl
        · rw [hS2, st_nej (by decide), st_nek (by decide), st_nek (by decide), st_nek (by decide), st_nek (by decide), st_eq]
        · rw [hS2, st_2, st_2, st_2, st_2, st_2, st_2, hT]
          exact sl_eq _ _ _
        · rw [hS2, st_nek (by omega), st_nek (by omega), st_nek (by omega), st_nek (by omega), st_nek (by omega), st_nek (by omega)]
        · rw [hS2, st_nej (by decide), st_nek (by decide), st_nek (by decide), st_nek (by decide), st_nek (by decide), st_nej (by decide), hT, sl_1, far 48 (by decide) (by omega)]
          exact h18
end
section
/-! BOTH SIDES: a skid dropped, a speed's span, a tale, no tales -/
theorem zL (b : Bool) : ((if b2 b = 0 then (some 0) else (some 1)) : Option Int64) = some (b2 b).toInt64 := by cases b <;> rfl
theorem m_inK {V : Vw} (hV : VOk V) {S : QS} (h7 : S.1 48 7 = iv (vNs V : Int)) (a : Int32) : f_X6_in a 0 (S.1 48 7 - 1) = some (b2 (okK V a)) := by
  have hn := hV.2.2.1
  rw [h7, c_1, iv_sub, r_in, z0, iv_to (by omega)]
  congr 2
  unfold okK
  congr 1
  apply decide_eq_decide.mpr
  omega
/-- an answer that is a yes or a no -/
def SameZ (S : QS) (l : Option (Int32 × QS)) (m : QS → Option (Int32 × QS)) : Prop := ∃ k S1 y S2, l = some (k, S1) ∧ m S1 = some (y, S2) ∧ S2.1 48 0 = k ∧ (k = 0 → S2.2 67 = y.toInt64 ∧ (y = 0 ∨ y = 1)) ∧ Inv S2
theorem sameZ_thr {V : Vw} {S : QS} (h : IV V S) (k : Int32) (hk : k ≠ 0) {l : Option (Int32 × QS)} {m : QS → Option (Int32 × QS)} (hl : l = some (k, S)) {y : Int32} (hm : m S = some (y, setF 48 0 k (setF 48 0 0 S))) : SameZ S l m :=
  ⟨k, S, y, _, hl, hm, st_eq _ _ _ _, fun z => absurd z hk, V, (h.thr 0).thr k⟩
theorem b_drop {V : Vw} {S : QS} (h : IV V S) (a : Int32) (is : Bool) : SameZ S (f_L_drop a (b2 is) S) (f_X6_drop a (b2 is)) := by
  obtain ⟨hV, hD, hC, hM, h18⟩ := id h
  have h12 : vNs V ≤ 12 := hV.2.2.1
  have h10 : vNt V ≤ 10 := hV.2.2.2.2.1
  cases hk : okK V a with
  | false =>
    refine sameZ_thr h 1 (by decide) ?_ ?_ (y := 0)
    · unfold f_L_drop f_X5_drop
      rw [d_skidOf hV hD, hk, if_neg (by decide), bxl, bhl]
      rfl
    · unfold f_X6_drop
      rw [stF_ok, ob, m_inK hV (by rw [st_nej (by decide)]; exact hM.2.2.1), ob, hk, b2_not, ob, thr_n, if_neg b2t]
  | true =>
    obtain ⟨s, hs, rfl⟩ := ok_skd hk
    have es : (iv (s : Int)).toInt.toNat = s := by rw [iv_to (by omega), Int.toNat_natCast]
    obtain ⟨d0, d1, d2, d3, d4⟩ := hD.2.2.2.2.1 s hs
    have m4 := (hM.2.2.2.2.1 s hs).2.2.2.2
    have hw2 := hV.2.2.2.1 s hs
    -- the reference, from a state that differs from S in the desk's alone
    have model : ∀ T : QS, MR V T → f_X6_drop (iv (s : Int)) (b2 is) T = some (b2 (xor (!kOn V s) is), setF 54 s (b2 is) (setF 48 0 0 T)) := fun T hT => by
      have m4 := (hT.2.2.2.2.1 s hs).2.2.2.2
      unfold f_X6_drop
      rw [stF_ok, ob, m_inK hV (by rw [st_nej (by decide)]; exact hT.2.2.1), ob, hk, b2_not, ob, thr_y, if_pos b2f]
      show (rdA 54 12 (iv (s : Int)) (setF 48 0 0 T)).bind _ = _
      rw [rd_iv (by omega), ob, Int.toNat_natCast, st_nek (by decide), m4]
      show (wrZ 54 12 (iv (s : Int)) (b2 is) (setF 48 0 0 T)).bind _ = _
      rw [wz_iv (by omega) (b2_or _), ob, Int.toNat_natCast]
      cases kOn V s <;> cases is <;> rfl
    by_cases ho : kOn V s = is
    · obtain ⟨V2, hV2e⟩ : ∃ V2, V2 = upD V s (!is) := ⟨_, rfl⟩
      obtain ⟨S1, hS1⟩ : ∃ S1, S1 = setF 0 5 0 (setF (2 + s) 4 (b2 (!is)) S) := ⟨_, rfl⟩
      obtain ⟨T, hT⟩ : ∃ T, T = setL 67 1 S1 := ⟨_, rfl⟩
      obtain ⟨S2, hS2⟩ : ∃ S2, S2 = setF 54 s (b2 is) (setF 48 0 0 T) := ⟨_, rfl⟩
      have vk : ∀ x, V2.2.2.2.2.1 x = if x = s then (kCar V s, kBeh V s, kLo V s, kHi V s, !is) else V.2.2.2.2.1 x := fun x => by rw [hV2e]; rfl
      have vn : vNs V2 = vNs V := by rw [hV2e]; rfl
      have vt : V2.2.2.2.2.2 = V.2.2.2.2.2 := by rw [hV2e]; rfl
      have v1 : V2.1 = V.1 := by rw [hV2e]; rfl
      have v2 : V2.2.1 = V.2.1 := by rw [hV2e]; rfl
      have v3 : V2.2.2.1 = V.2.2.1 := by rw [hV2e]; rfl
      have hnt : vNt V2 = vNt V := by unfold vNt; rw [vt]
      have kk : ∀ x, kCar V2 x = kCar V x ∧ kBeh V2 x = kBeh V x ∧ kLo V2 x = kLo V x ∧ kHi V2 x = kHi V x ∧ kOn V2 x = if x = s then !is else kOn V x := fun x => by
        by_cases cx : x = s
        · subst cx
          unfold kCar kBeh kLo kHi kOn
          rw [vk x, if_pos rfl, if_pos rfl]
          exact ⟨rfl, rfl, rfl, rfl, rfl⟩
        · unfold kCar kBeh kLo kHi kOn
          rw [vk x, if_neg cx, if_neg cx]
          exact ⟨rfl, rfl, rfl, rfl, rfl⟩
      have hV2 : VOk V2 := by
        obtain ⟨w1, w2, w3, w4, w5, w6⟩ := hV
        refine ⟨fun d hd => ?_, fun r hr => ?_, by omega, fun x hx => ?_, by omega, fun t ht => ?_⟩
        · unfold vM; rw [v1]; exact w1 d hd
        · unfold vLo vHi; rw [v2, v3]; exact w2 r hr
        · obtain ⟨g1, g2, g3, g4, -⟩ := kk x
          rw [g1, g3, g4]
          exact w4 x (by omega)
        · unfold tRow tLo tHi
          rw [vt]
          exact w6 t (by omega)
      have far : ∀ k, k ≠ 0 → k ≠ 2 + s → S1.1 k = S.1 k := fun k h1 h2 => by rw [hS1, st_nek h1, st_nek h2]
      have hD2 : DR V2 S1 := by
        obtain ⟨q1, q2, q3, q4, q5, q6⟩ := hD
        refine ⟨?_, fun r hr => ?_, ?_, ?_, fun x hx => ?_, fun t ht => ?_⟩
        · unfold vM; rw [v1, far 26 (by decide) (by omega), far 37 (by decide) (by omega)]; exact q1
        · have := kp_cases hr
          unfold vLo vHi
          rw [v2, v3, far (kp r) (by omega) (by omega)]
          exact q2 r hr
        · rw [vn, hS1, st_nej (by decide), st_nek (by omega)]; exact q3
        · rw [hnt, hS1, st_nej (by decide), st_nek (by omega)]; exact q4
        · obtain ⟨g1, g2, g3, g4, g5⟩ := kk x
          have q5x := q5 x (by omega)
          rw [g1, g2, g3, g4, g5, hS1, st_nek (by omega)]
          by_cases cx : x = s
          · subst cx
            rw [if_pos rfl]
            exact ⟨by rw [st_nej (by decide)]; exact q5x.1, by rw [st_nej (by decide)]; exact q5x.2.1, by rw [st_nej (by decide)]; exact q5x.2.2.1, by rw [st_nej (by decide)]; exact q5x.2.2.2.1, st_eq _ _ _ _⟩
          · rw [if_neg cx, st_nek (by omega)]
            exact q5x
        · unfold tRow tLo tHi
          rw [vt, far (15 + t) (by omega) (by omega)]
          exact q6 t (by omega)
      have hM1 : MR V T := hM.up (fun k hk => by rw [hT, sl_1]; exact far k (by omega) (by omega))
      have hM2 : MR V2 S2 := by
        obtain ⟨q1, q2, q3, q4, q5, q6, q7⟩ := hM1
        have e : ∀ k, k ≠ 48 → k ≠ 54 → S2.1 k = T.1 k := fun k h1 h2 => by rw [hS2, st_nek h2, st_nek h1]
        have e8 : ∀ j, j ≠ 0 → S2.1 48 j = T.1 48 j := fun j hj => by rw [hS2, st_nek (by decide), st_nej hj]
        have e54 : ∀ j, S2.1 54 j = if j = s then b2 is else T.1 54 j := fun j => by
          rw [hS2]
          by_cases cx : j = s
          · subst cx
            rw [if_pos rfl]
            exact st_eq _ _ _ _
          · rw [if_neg cx, st_nej cx, st_nek (by decide)]
        refine ⟨?_, fun r hr => ?_, ?_, ?_, fun x hx => ?_, fun x hx1 hx2 => ?_, fun t ht => ?_⟩
        · unfold vM; rw [v1, e 49 (by decide) (by decide)]; exact q1
        · unfold vLo vHi; rw [v2, v3, e 55 (by decide) (by decide), e 56 (by decide) (by decide)]; exact q2 r hr
        · rw [vn, e8 7 (by decide)]; exact q3
        · rw [hnt, e8 13 (by decide)]; exact q4
        · obtain ⟨g1, g2, g3, g4, g5⟩ := kk x
          have q5x := q5 x (by omega)
          rw [g1, g2, g3, g4, g5, e 50 (by decide) (by decide), e 51 (by decide) (by decide), e 52 (by decide) (by decide), e 53 (by decide) (by decide), e54 x]
          refine ⟨q5x.1, q5x.2.1, q5x.2.2.1, q5x.2.2.2.1, ?_⟩
          by_cases cx : x = s
          · rw [if_pos cx, if_pos cx, Bool.not_not]
          · rw [if_neg cx, if_neg cx]
            exact q5x.2.2.2.2
        · rw [e54 x, if_neg (by omega)]
          exact q6 x (by omega) hx2
        · unfold tRow tLo tHi
          rw [vt, e 57 (by decide) (by decide), e 58 (by decide) (by decide), e 59 (by decide) (by decide)]
          exact q7 t (by omega)
      refine ⟨0, T, 1, S2, ?_, ?_, ?_, fun _ => ⟨?_, Or.inr rfl⟩, V2, IV.tell (S1 := T) hV2 (hD2.kept hV2 (fun k _ => by rw [hT, sl_1])) (by rw [hT, sl_1, hS1, st_eq]) (fun k hk => ?_) hM2 ?_⟩
      · unfold f_L_drop f_X5_drop
        rw [d_skidOf hV hD, hk, if_pos rfl, bxr, es, d4, if_pos (by rw [ho]), b2_not, ob, stZ_ok (b2_or _), ob, stZ_ok (Or.inl rfl), ob, bhr, ← hS1]
        show (((if (1 : Int32) = 0 then (some 0) else (some 1)) : Option Int64).bind _) = _
        rw [if_neg (by decide), ob, stL_ok, ob, hT]
      · rw [model T hM1, hS2, ho]
        cases is <;> rfl
      · rw [hS2, st_nek (by decide), st_eq]
      · rw [hS2, st_2, st_2, hT]
        exact sl_eq _ _ _
      · rw [hS2, st_nek (by omega), st_nek (by omega)]
      · rw [hS2, st_nek (by decide), st_nej (by decide), hT, sl_1, far 48 (by decide) (by omega)]
        exact h18
    · obtain ⟨T, hT⟩ : ∃ T, T = setL 67 0 S := ⟨_, rfl⟩
      have hIT : IV V T := by rw [hT]; exact h.out 0
      have hno : (!kOn V s) = is := by cases h1 : kOn V s <;> cases h2 : is <;> simp_all
      have hM2 : MR V (setF 54 s (b2 is) (setF 48 0 0 T)) := by
        obtain ⟨q1, q2, q3, q4, q5, q6, q7⟩ := hIT.2.2.2.1
        have e : ∀ k, k ≠ 48 → (setF 54 s (b2 is) (setF 48 0 0 T)).1 k = T.1 k := fun k h1 => by
          by_cases c54 : k = 54
          · subst c54
            funext j
            by_cases cj : j = s
            · subst cj
              rw [st_eq, (q5 j hs).2.2.2.2, hno]
            · rw [st_nej cj, st_nek h1]
          · rw [st_nek c54, st_nek h1]
        exact hIT.2.2.2.1.kp (fun k h1 h2 => e k (by omega)) (by rw [st_nek (by decide), st_nej (by decide)]) (by rw [st_nek (by decide), st_nej (by decide)])
      refine ⟨0, T, 0, setF 54 s (b2 is) (setF 48 0 0 T), ?_, ?_, ?_, fun _ => ⟨?_, Or.inl rfl⟩, V, hIT.md (fun k hk => by rw [st_nek (by omega), st_nek (by omega)]) rfl hM2 ?_⟩
      · unfold f_L_drop f_X5_drop
        rw [d_skidOf hV hD, hk, if_pos rfl, bxr, es, d4, if_neg (fun z => ho (by cases h1 : kOn V s <;> cases h2 : is <;> simp_all [b2])), bhr]
        show (((if (0 : Int32) = 0 then (some 0) else (some 1)) : Option Int64).bind _) = _
        rw [if_pos rfl, ob, stL_ok, ob, hT]
      · rw [model T hIT.2.2.2.1, hno]
        cases is <;> rfl
      · rw [st_nek (by decide), st_eq]
      · rw [st_2, st_2, hT]
        exact sl_eq _ _ _
      · rw [st_nek (by decide), st_nej (by decide)]
        exact hIT.2.2.2.2
theorem kp_inj {r r2 : Nat} (h : r < 6) (h2 : r2 < 6) (e : kp r = kp r2) : r = r2 := by
  unfold kp at e
  omega
theorem b_sure {V : Vw} {S : QS} (h : IV V S) (a b lo hi : Int32) : Same S (f_L_sure a b lo hi S) (f_X6_sure a b lo hi) := by
  obtain ⟨hV, hD, hC, hM, h18⟩ := id h
  have h12 : vNs V ≤ 12 := hV.2.2.1
  have h10 : vNt V ≤ 10 := hV.2.2.2.2.1
  cases hc : (okC a && okS b) with
  | false =>
    refine same_thr h 1 ?_ ?_
    · unfold f_L_sure f_X5_sure
      rw [d_speedOf_no hc, bxl, bhl]
      rfl
    · unfold f_X6_sure
      rw [stF_ok, ob, m_noSpeed, ob, hc, thr_n, if_neg b2t]
  | true =>
    have hc1 := hc
    rw [Bool.and_eq_true] at hc1
    obtain ⟨c, hc2, rfl⟩ := ok_car hc1.1
    obtain ⟨j, hj, rfl⟩ := ok_spd hc1.2
    cases hn : okN (-50) 50 lo hi with
    | false =>
      refine same_thr h 2 ?_ ?_
      · unfold f_L_sure f_X5_sure
        rw [d_speedOf hc2 hj, bxr, d_sp50, hn, if_neg (by decide), bxl, bhl, if_neg s_IA, if_pos rfl]
      · unfold f_X6_sure
        rw [stF_ok, ob, m_noSpeed, ob, hc, thr_y, if_pos b2f]
        show ((f_X6_noSpan lo hi).bind _) = _
        rw [m_noSpan, ob, hn, thr_n, if_neg b2t]
    | true =>
      have hb := okN_iff.mp hn
      obtain ⟨r, hr⟩ : ∃ r, r = 3 * c + j := ⟨_, rfl⟩
      have hr6 : r < 6 := by omega
      obtain ⟨V2, hV2e⟩ : ∃ V2, V2 = upS V r lo.toInt hi.toInt := ⟨_, rfl⟩
      obtain ⟨S1, hS1⟩ : ∃ S1, S1 = setF 0 5 0 (setF (kp r) 1 hi (setF (kp r) 0 lo S)) := ⟨_, rfl⟩
      obtain ⟨S2, hS2⟩ : ∃ S2, S2 = setF 56 r hi (setF 55 r lo (setF 48 0 0 S1)) := ⟨_, rfl⟩
      have elo : lo = iv lo.toInt := (iv_of lo).symm
      have ehi : hi = iv hi.toInt := (iv_of hi).symm
      have v1 : V2.1 = V.1 := by rw [hV2e]; rfl
      have v2 : ∀ x, vLo V2 x = if x = r then lo.toInt else vLo V x := fun x => by rw [hV2e]; rfl
      have v3 : ∀ x, vHi V2 x = if x = r then hi.toInt else vHi V x := fun x => by rw [hV2e]; rfl
      have v4 : V2.2.2.2 = V.2.2.2 := by rw [hV2e]; rfl
      have hkp := kp_cases hr6
      have hV2 : VOk V2 := by
        obtain ⟨w1, w2, w3⟩ := hV
        refine ⟨fun d hd => ?_, fun x hx => ?_, ?_⟩
        · unfold vM; rw [v1]; exact w1 d hd
        · rw [v2, v3]
          by_cases cx : x = r
          · rw [if_pos cx, if_pos cx]
            omega
          · rw [if_neg cx, if_neg cx]
            exact w2 x hx
        · unfold vNs kCar kLo kHi vNt tRow tLo tHi
          rw [v4]
          exact w3
      have far : ∀ k, k ≠ 0 → k ≠ kp r → S1.1 k = S.1 k := fun k h1 h2 => by rw [hS1, st_nek h1, st_nek h2, st_nek h2]
      have hD2 : DR V2 S1 := by
        obtain ⟨q1, q2, q3⟩ := hD
        refine ⟨?_, fun x hx => ?_, ?_⟩
        · unfold vM; rw [v1, far 26 (by decide) (by omega), far 37 (by decide) (by omega)]; exact q1
        · rw [v2, v3]
          by_cases cx : x = r
          · subst cx
            rw [if_pos rfl, if_pos rfl, ← elo, ← ehi, hS1, st_nek (by omega)]
            exact ⟨by rw [st_nej (by decide), st_eq], st_eq _ _ _ _⟩
          · have hx2 := kp_cases hx
            rw [if_neg cx, if_neg cx, far (kp x) (by omega) (fun z => cx (kp_inj hx hr6 z))]
            exact q2 x hx
        · unfold vNs kCar kBeh kLo kHi kOn vNt tRow tLo tHi
          rw [v4]
          obtain ⟨q3, q4, q5, q6⟩ := q3
          refine ⟨?_, ?_, fun s hs => ?_, fun t ht => ?_⟩
          · rw [hS1, st_nej (by decide), st_nek (by omega), st_nek (by omega)]; exact q3
          · rw [hS1, st_nej (by decide), st_nek (by omega), st_nek (by omega)]; exact q4
          · have hs : s < vNs V := hs
            rw [far (2 + s) (by omega) (by omega)]; exact q5 s hs
          · have ht : t < vNt V := ht
            rw [far (15 + t) (by omega) (by omega)]; exact q6 t ht
      have hM1 : MR V S1 := hM.up (fun k hk => far k (by omega) (by omega))
      have hM2 : MR V2 S2 := by
        obtain ⟨q1, q2, q3⟩ := hM1
        have e : ∀ k, k ≠ 48 → k ≠ 55 → k ≠ 56 → S2.1 k = S1.1 k := fun k h1 h2 h3 => by rw [hS2, st_nek h3, st_nek h2, st_nek h1]
        have e8 : ∀ j, j ≠ 0 → S2.1 48 j = S1.1 48 j := fun j hj => by rw [hS2, st_nek (by decide), st_nek (by decide), st_nej hj]
        refine ⟨?_, fun x hx => ?_, ?_⟩
        · unfold vM; rw [v1, e 49 (by decide) (by decide) (by decide)]; exact q1
        · rw [v2, v3]
          by_cases cx : x = r
          · subst cx
            rw [if_pos rfl, if_pos rfl, ← elo, ← ehi, hS2]
            exact ⟨by rw [st_nek (by decide), st_eq], st_eq _ _ _ _⟩
          · rw [if_neg cx, if_neg cx, hS2]
            exact ⟨by rw [st_nek (by decide), st_nej cx, st_nek (by decide)]; exact (q2 x hx).1, by rw [st_nej cx, st_nek (by decide), st_nek (by decide)]; exact (q2 x hx).2⟩
        · unfold vNs kCar kBeh kLo kHi kOn vNt tRow tLo tHi
          rw [v4, e8 7 (by decide), e8 13 (by decide), e 50 (by decide) (by decide) (by decide), e 51 (by decide) (by decide) (by decide), e 52 (by decide) (by decide) (by decide), e 53 (by decide) (by decide) (by decide), e 54 (by decide) (by decide) (by decide), e 57 (by decide) (by decide) (by decide), e 58 (by decide) (by decide) (by decide), e 59 (by decide) (by decide) (by decide)]
          exact q3
      refine ⟨0, S1, S2, ?_, ?_, by rw [hS2, st_nek (by decide), st_nek (by decide), st_eq], V2, IV.tell hV2 hD2 (by rw [hS1, st_eq]) (fun k hk => by rw [hS2, st_nek (by omega), st_nek (by omega), st_nek (by omega)]) hM2 (by rw [hS2, st_nek (by decide), st_nek (by decide), st_nej (by decide), far 48 (by decide) (by omega)]; exact h18)⟩
      · unfold f_L_sure f_X5_sure
        rw [d_speedOf hc2 hj, bxr, d_sp50, hn, if_pos rfl, bxr, stF_ok, ob, stF_ok, ob, stZ_ok (Or.inl rfl), ob, bhr, ← hr, ← hS1]
      · unfold f_X6_sure
        rw [stF_ok, ob, m_noSpeed, ob, hc, thr_y, if_pos b2f]
        show ((f_X6_noSpan lo hi).bind _) = _
        rw [m_noSpan, ob, hn, thr_y, if_pos b2f]
        have er : 3 * iv (c : Int) + iv (j : Int) = iv (r : Int) := by
          rw [c_3, iv_mul, iv_add, hr]
          congr 1
        rw [er]
        show (wrA 55 6 (iv (r : Int)) lo (setF 48 0 0 S1)).bind _ = _
        rw [wr_iv (by omega), ob, wr_iv (by omega), ob, Int.toNat_natCast, hS2]
theorem b_tale {V : Vw} {S : QS} (h : IV V S) (a b lo hi : Int32) : SameL S (f_L_tale a b lo hi S) (f_X6_tale a b lo hi) := by
  obtain ⟨hV, hD, hC, hM, h18⟩ := id h
  have h12 : vNs V ≤ 12 := hV.2.2.1
  have h10 : vNt V ≤ 10 := hV.2.2.2.2.1
  cases hc : (okC a && okS b) with
  | false =>
    refine sameL_thr h 1 (by decide) ?_ ?_ (y := 0)
    · unfold f_L_tale f_X5_tale
      rw [d_speed, hc, if_neg (by decide), bxl, bhl]
      rfl
    · unfold f_X6_tale
      rw [stF_ok, ob, m_noSpeed, ob, hc, thr_n, if_neg b2t]
  | true =>
    have hc1 := hc
    rw [Bool.and_eq_true] at hc1
    obtain ⟨c, hc2, rfl⟩ := ok_car hc1.1
    obtain ⟨j, hj, rfl⟩ := ok_spd hc1.2
    cases hn : okN (-50) 50 lo hi with
    | false =>
      refine sameL_thr h 2 (by decide) ?_ ?_ (y := 0)
      · unfold f_L_tale f_X5_tale
        rw [d_speed, hc, if_pos rfl, bxr, d_sp50, hn, if_neg (by decide), bxl, bhl, if_neg s_IA, if_pos rfl]
      · unfold f_X6_tale
        rw [stF_ok, ob, m_noSpeed, ob, hc, thr_y, if_pos b2f, m_noSpan, ob, hn, thr_n, if_neg b2t]
    | true =>
      have hb := okN_iff.mp hn
      have e13 : (setF 48 0 0 S).1 48 13 = iv (vNt V : Int) := by rw [st_nej (by decide)]; exact hM.2.2.2.1
      by_cases hf : vNt V = 10
      · refine sameL_thr h 3 (by decide) ?_ ?_ (y := 0)
        · unfold f_L_tale f_X5_tale
          rw [d_speed, hc, if_pos rfl, bxr, d_sp50, hn, if_pos rfl, bxr, hD.2.2.2.1, hf, if_neg (by decide), bhl, if_neg s_UO1, if_neg s_UO2, if_pos rfl]
        · unfold f_X6_tale
          rw [stF_ok, ob, m_noSpeed, ob, hc, thr_y, if_pos b2f, m_noSpan, ob, hn, thr_y, if_pos b2f]
          show (((if (setF 48 0 0 S).1 48 13 = 10 then (some 1) else (some 0)) : Option Int32).bind _) = _
          rw [e13, hf, if_pos (by decide), ob, thr_1, if_neg b2t]
      · obtain ⟨nt, hnt⟩ : ∃ nt, nt = vNt V := ⟨_, rfl⟩
        obtain ⟨r, hr⟩ : ∃ r, r = 3 * c + j := ⟨_, rfl⟩
        have hr6 : r < 6 := by omega
        obtain ⟨V2, hV2e⟩ : ∃ V2, V2 = upT V (r, lo.toInt, hi.toInt) := ⟨_, rfl⟩
        obtain ⟨S1, hS1⟩ : ∃ S1, S1 = setF 0 5 0 (setF 0 3 (iv ((nt + 1 : Nat) : Int)) (setF (15 + nt) 3 hi (setF (15 + nt) 2 lo (setF (15 + nt) 1 (iv (j : Int)) (setF (15 + nt) 0 (iv (c : Int)) S))))) := ⟨_, rfl⟩
        obtain ⟨T, hT⟩ : ∃ T, T = setL 67 (iv (nt : Int)).toInt64 S1 := ⟨_, rfl⟩
        obtain ⟨S2, hS2⟩ : ∃ S2, S2 = setF 48 13 (iv ((nt + 1 : Nat) : Int)) (setF 59 nt hi (setF 58 nt lo (setF 57 nt (iv (r : Int)) (setF 48 0 0 T)))) := ⟨_, rfl⟩
        have elo : lo = iv lo.toInt := (iv_of lo).symm
        have ehi : hi = iv hi.toInt := (iv_of hi).symm
        have vk : ∀ t, V2.2.2.2.2.2.2 t = if t = nt then (r, lo.toInt, hi.toInt) else V.2.2.2.2.2.2 t := fun t => by rw [hV2e, hnt]; rfl
        have vn : vNt V2 = nt + 1 := by rw [hV2e, hnt]; rfl
        have vs : vNs V2 = vNs V := by rw [hV2e]; rfl
        have v5 : V2.2.2.2.2.1 = V.2.2.2.2.1 := by rw [hV2e]; rfl
        have v1 : V2.1 = V.1 := by rw [hV2e]; rfl
        have v2 : V2.2.1 = V.2.1 := by rw [hV2e]; rfl
        have v3 : V2.2.2.1 = V.2.2.1 := by rw [hV2e]; rfl
        have kk : ∀ t, t ≠ nt → tRow V2 t = tRow V t ∧ tLo V2 t = tLo V t ∧ tHi V2 t = tHi V t := fun t ht => by
          unfold tRow tLo tHi
          rw [vk t, if_neg ht]
          exact ⟨rfl, rfl, rfl⟩
        have kn : tRow V2 nt = r ∧ tLo V2 nt = lo.toInt ∧ tHi V2 nt = hi.toInt := by
          unfold tRow tLo tHi
          rw [vk nt, if_pos rfl]
          exact ⟨rfl, rfl, rfl⟩
        have hV2 : VOk V2 := by
          obtain ⟨w1, w2, w3, w4, w5, w6⟩ := hV
          refine ⟨fun d hd => ?_, fun r hr => ?_, by omega, fun s hs => ?_, by omega, fun t ht => ?_⟩
          · unfold vM; rw [v1]; exact w1 d hd
          · unfold vLo vHi; rw [v2, v3]; exact w2 r hr
          · unfold kCar kLo kHi
            rw [v5]
            exact w4 s (by omega)
          · by_cases ct : t = nt
            · subst ct
              obtain ⟨g1, g2, g3⟩ := kn
              rw [g1, g2, g3]
              omega
            · obtain ⟨g1, g2, g3⟩ := kk t ct
              rw [g1, g2, g3]
              exact w6 t (by omega)
        have far : ∀ k, k ≠ 0 → k ≠ 15 + nt → S1.1 k = S.1 k := fun k h1 h2 => by rw [hS1, st_nek h1, st_nek h1, st_nek h2, st_nek h2, st_nek h2, st_nek h2]
        have hD2 : DR V2 S1 := by
          obtain ⟨q1, q2, q3, q4, q5, q6⟩ := hD
          refine ⟨?_, fun x hx => ?_, ?_, ?_, fun s hs => ?_, fun t ht => ?_⟩
          · unfold vM; rw [v1, far 26 (by decide) (by omega), far 37 (by decide) (by omega)]; exact q1
          · have := kp_cases hx
            unfold vLo vHi
            rw [v2, v3, far (kp x) (by omega) (by omega)]
            exact q2 x hx
          · rw [vs, hS1, st_nej (by decide), st_nej (by decide), st_nek (by omega), st_nek (by omega), st_nek (by omega), st_nek (by omega)]
            exact q3
          · rw [vn, hS1, st_nej (by decide), st_eq]
          · unfold kCar kBeh kLo kHi kOn
            rw [v5, far (2 + s) (by omega) (by omega)]
            exact q5 s (by omega)
          · by_cases ct : t = nt
            · subst ct
              obtain ⟨g1, g2, g3⟩ := kn
              rw [g1, g2, g3, ← elo, ← ehi, hS1, st_nek (by omega), st_nek (by omega), show r / 3 = c by omega, show r % 3 = j by omega]
              refine ⟨?_, ?_, ?_, ?_⟩
              · rw [st_nej (by decide), st_nej (by decide), st_nej (by decide), st_eq]
              · rw [st_nej (by decide), st_nej (by decide), st_eq]
              · rw [st_nej (by decide), st_eq]
              · exact st_eq _ _ _ _
            · obtain ⟨g1, g2, g3⟩ := kk t ct
              rw [g1, g2, g3, far (15 + t) (by omega) (by omega)]
              exact q6 t (by omega)
        have hM1 : MR V T := hM.up (fun k hk => by rw [hT, sl_1]; exact far k (by omega) (by omega))
        have e13b : (setF 48 0 0 T).1 48 13 = iv (nt : Int) := by rw [st_nej (by decide), hnt]; exact hM1.2.2.2.1
        have hM2 : MR V2 S2 := by
          obtain ⟨q1, q2, q3, q4, q5, q6, q7⟩ := hM1
          have e : ∀ k, k ≠ 48 → k ≠ 57 → k ≠ 58 → k ≠ 59 → S2.1 k = T.1 k := fun k h1 h2 h3 h4 => by rw [hS2, st_nek h1, st_nek h4, st_nek h3, st_nek h2, st_nek h1]
          refine ⟨?_, fun r hr => ?_, ?_, ?_, fun s hs => ?_, fun s hs1 hs2 => ?_, fun t ht => ?_⟩
          · unfold vM; rw [v1, e 49 (by decide) (by decide) (by decide) (by decide)]; exact q1
          · unfold vLo vHi; rw [v2, v3, e 55 (by decide) (by decide) (by decide) (by decide), e 56 (by decide) (by decide) (by decide) (by decide)]; exact q2 r hr
          · rw [vs, hS2, st_nej (by decide), st_nek (by decide), st_nek (by decide), st_nek (by decide), st_nej (by decide)]; exact q3
          · rw [vn, hS2, st_eq]
          · unfold kCar kBeh kLo kHi kOn
            rw [v5, e 50 (by decide) (by decide) (by decide) (by decide), e 51 (by decide) (by decide) (by decide) (by decide), e 52 (by decide) (by decide) (by decide) (by decide), e 53 (by decide) (by decide) (by decide) (by decide), e 54 (by decide) (by decide) (by decide) (by decide)]
            exact q5 s (by omega)
          · rw [e 54 (by decide) (by decide) (by decide) (by decide)]
            exact q6 s (by omega) hs2
          · by_cases ct : t = nt
            · subst ct
              obtain ⟨g1, g2, g3⟩ := kn
              rw [g1, g2, g3, ← elo, ← ehi]
              refine ⟨?_, ?_, ?_⟩
              · rw [hS2, st_nek (by decide), st_nek (by decide), st_nek (by decide), st_eq]
              · rw [hS2, st_nek (by decide), st_nek (by decide), st_eq]
              · rw [hS2, st_nek (by decide), st_eq]
            · obtain ⟨g1, g2, g3⟩ := kk t ct
              have q7t := q7 t (by omega)
              rw [g1, g2, g3, hS2]
              refine ⟨?_, ?_, ?_⟩
              · rw [st_nek (by decide), st_nek (by decide), st_nek (by decide), st_nej ct, st_nek (by decide)]; exact q7t.1
              · rw [st_nek (by decide), st_nek (by decide), st_nej ct, st_nek (by decide), st_nek (by decide)]; exact q7t.2.1
              · rw [st_nek (by decide), st_nej ct, st_nek (by decide), st_nek (by decide), st_nek (by decide)]; exact q7t.2.2
        refine ⟨0, T, iv (nt : Int), S2, ?_, ?_, ?_, fun _ => ?_, V2, IV.tell (S1 := T) hV2 (hD2.kept hV2 (fun k _ => by rw [hT, sl_1])) (by rw [hT, sl_1, hS1, st_eq]) (fun k hk => ?_) hM2 ?_⟩
        · unfold f_L_tale f_X5_tale
          rw [d_speed, hc, if_pos rfl, bxr, d_sp50, hn, if_pos rfl, bxr, hD.2.2.2.1, ← hnt, c_10, if_pos (y_lt (a := (nt : Int)) (b := 10) (by omega)), rq_iv (by omega), ob, stF_ok, ob, stF_ok, ob, stF_ok, ob, stF_ok, ob]
          rw [st_nek (k1 := 0) (by omega), st_nek (k1 := 0) (by omega), st_nek (k1 := 0) (by omega), st_nek (k1 := 0) (by omega), hD.2.2.2.1, ← hnt, stF_ok, ob, iv_one, stZ_ok (Or.inl rfl), ob, bhr]
          show (stL 67 ((setF 0 5 0 (setF 0 3 (iv ((nt : Int) + 1)) _)).1 0 3 - 1).toInt64 _).bind _ = _
          rw [st_nej (by decide), st_eq, c_1, iv_sub, show ((nt : Int) + 1 - 1) = (nt : Int) by omega, stL_ok, ob, hT, hS1]
          rfl
        · unfold f_X6_tale
          rw [stF_ok, ob, m_noSpeed, ob, hc, thr_y, if_pos b2f, m_noSpan, ob, hn, thr_y, if_pos b2f]
          show (((if (setF 48 0 0 T).1 48 13 = 10 then (some 1) else (some 0)) : Option Int32).bind _) = _
          rw [e13b, c_10, if_neg (n_eq (a := (nt : Int)) (b := 10) (by omega)), ob, thr_0, if_pos b2f]
          have er : 3 * iv (c : Int) + iv (j : Int) = iv (r : Int) := by
            rw [c_3, iv_mul, iv_add, hr]
            congr 1
          rw [er]
          show (wrA 57 10 ((setF 48 0 0 T).1 48 13) (iv (r : Int)) (setF 48 0 0 T)).bind _ = _
          rw [e13b, wr_iv (by omega), ob, Int.toNat_natCast, st_nek (k := 57) (k1 := 48) (by decide), e13b, wr_iv (by omega), ob, Int.toNat_natCast, st_nek (k := 58) (k1 := 48) (by decide), st_nek (k := 57) (k1 := 48) (by decide), e13b, wr_iv (by omega), ob, Int.toNat_natCast, st_nek (k := 59) (k1 := 48) (by decide), st_nek (k := 58) (k1 := 48) (by decide), st_nek (k := 57) (k1 := 48) (by decide), e13b, iv_one, stF_ok, ob, st_eq, c_1, iv_sub, show ((nt : Int) + 1 - 1) = (nt : Int) by omega, hS2]
          rfl
        · rw [hS2, st_nej (by decide), st_nek (by decide), st_nek (by decide), st_nek (by decide), st_eq]
        · rw [hS2, st_2, st_2, st_2, st_2, st_2, hT]
          exact sl_eq _ _ _
        · rw [hS2, st_nek (by omega), st_nek (by omega), st_nek (by omega), st_nek (by omega), st_nek (by omega)]
        · rw [hS2, st_nej (by decide), st_nek (by decide), st_nek (by decide), st_nek (by decide), st_nej (by decide), hT, sl_1, far 48 (by decide) (by omega)]
          exact h18
theorem b_hush {V : Vw} {S : QS} (h : IV V S) : ∃ x S1 S2, f_X5_hush S = some (x, S1) ∧ f_X6_hush S1 = some (x, S2) ∧ Inv S2 := by
  obtain ⟨hV, hD, hC, hM, h18⟩ := id h
  have h12 : vNs V ≤ 12 := hV.2.2.1
  obtain ⟨V2, hV2e⟩ : ∃ V2, V2 = upH V := ⟨_, rfl⟩
  obtain ⟨S1, hS1⟩ : ∃ S1, S1 = setF 0 5 0 (setF 0 3 0 S) := ⟨_, rfl⟩
  obtain ⟨S2, hS2⟩ : ∃ S2, S2 = setF 48 13 0 (setF 48 0 0 S1) := ⟨_, rfl⟩
  have vn : vNt V2 = 0 := by rw [hV2e]; rfl
  have hV2 : VOk V2 := by
    obtain ⟨w1, w2, w3, w4, w5, w6⟩ := hV
    rw [hV2e]
    exact ⟨w1, w2, w3, w4, Nat.zero_le _, fun t ht => absurd ht (Nat.not_lt_zero t)⟩
  have far : ∀ k, k ≠ 0 → S1.1 k = S.1 k := fun k h1 => by rw [hS1, st_nek h1, st_nek h1]
  have hD2 : DR V2 S1 := by
    obtain ⟨q1, q2, q3, q4, q5, q6⟩ := hD
    refine ⟨?_, fun x hx => ?_, ?_, ?_, fun s hs => ?_, fun t ht => by omega⟩
    · rw [far 26 (by decide), far 37 (by decide), hV2e]; exact q1
    · have := kp_cases hx
      rw [far (kp x) (by omega), hV2e]; exact q2 x hx
    · rw [hS1, st_nej (by decide), st_nej (by decide), hV2e]; exact q3
    · rw [vn, hS1, st_nej (by decide), st_eq]; rfl
    · rw [hV2e] at hs ⊢
      rw [far (2 + s) (by omega)]
      exact q5 s hs
  have hM1 : MR V S1 := hM.up (fun k hk => far k (by omega))
  have hM2 : MR V2 S2 := by
    obtain ⟨q1, q2, q3, q4, q5, q6, q7⟩ := hM1
    have e : ∀ k, k ≠ 48 → S2.1 k = S1.1 k := fun k h1 => by rw [hS2, st_nek h1, st_nek h1]
    refine ⟨?_, fun r hr => ?_, ?_, ?_, fun s hs => ?_, fun s hs1 hs2 => ?_, fun t ht => by omega⟩
    · rw [e 49 (by decide), hV2e]; exact q1
    · rw [e 55 (by decide), e 56 (by decide), hV2e]; exact q2 r hr
    · rw [hS2, st_nej (by decide), st_nej (by decide), hV2e]; exact q3
    · rw [vn, hS2, st_eq]; rfl
    · rw [hV2e] at hs ⊢
      rw [e 50 (by decide), e 51 (by decide), e 52 (by decide), e 53 (by decide), e 54 (by decide)]
      exact q5 s hs
    · rw [hV2e] at hs1
      rw [e 54 (by decide)]
      exact q6 s hs1 hs2
  refine ⟨S.1 0 3, S1, S2, ?_, ?_, V2, IV.tell hV2 hD2 (by rw [hS1, st_eq]) (fun k hk => by rw [hS2, st_nek (by omega), st_nek (by omega)]) hM2 (by rw [hS2, st_nej (by decide), st_nej (by decide), far 48 (by decide)]; exact h18)⟩
  · unfold f_X5_hush
    rw [stF_ok, ob, stZ_ok (Or.inl rfl), ob, ← hS1]
  · unfold f_X6_hush
    rw [stF_ok, ob, stF_ok, ob, ← hS2, st_nej (by decide), hM1.2.2.2.1, hD.2.2.2.1]
end
section
/-! BOTH SIDES: what is asked -/
theorem IV.ask {V : Vw} {S : QS} (h : IV V S) {set : Nat} (hset : set < 1024) {w : Int} (hw : -1 ≤ w ∧ w ≤ 100) : ∃ S1, f_X5_reckon (nI set) (iv w) S = some S1 ∧ IV V S1 ∧ (∀ k, 48 ≤ k → S1.1 k = S.1 k ∧ S1.2 k = S.2 k) ∧ S1.2 25 = lN (nW V set w) ∧
    (∀ r, r < 6 → ∀ u, -50 ≤ u → u ≤ 50 → Flag (S1.1 (kp r + 2) (ix u)) (Sn V set w r u)) ∧ MinP (S1.1 25 3) (PW V set w) := by
  obtain ⟨hV, hD, hC, hM, h18⟩ := h
  obtain ⟨S1, e1, d1, k1, r1, c1⟩ := s_reckon5 hV hset hw hD hC
  obtain ⟨q1, q2, q3⟩ := res_at hV r1
  exact ⟨S1, e1, ⟨hV, hD.dk hV d1, c1, hM.up (fun k hk => (k1 k hk).1), by rw [(k1 48 (by decide)).1]; exact h18⟩, k1, q1, q2, q3⟩
theorem IV.go {V : Vw} {S : QS} (h : IV V S) (set : Nat) {w : Int} (hw : -1 ≤ w ∧ w ≤ 100) : ∃ S1, f_X6_goes (nI set) (iv w) S = some (b2 (decide (0 < nW V set w)), S1) ∧ IV V S1 ∧ (∀ k, k < 48 → S1.1 k = S.1 k) ∧ S1.2 67 = S.2 67 ∧ S1.1 48 = S.1 48 ∧ S1.2 48 = lN (nW V set w) ∧
    ∀ r, r < 6 → ∀ u, -50 ≤ u → u ≤ 50 → Flag (S1.1 61 (cx r u)) (Sn V set w r u) := by
  obtain ⟨S1, e1, f1, l1, g1, -⟩ := r_goes (set := set) (w := w) (wd := false) h.1 hw h.2.2.2.1 h.2.2.2.2 (fun z => by cases z)
  have lo : ∀ k, k < 60 → S1.1 k = S.1 k := fun k hk => f1.1 k (by simp; omega)
  exact ⟨S1, e1, h.md (fun k hk => lo k (by omega)) (f1.2 25 (by decide)) (h.2.2.2.1.kp (fun k h1 h2 => lo k (by omega)) (by rw [lo 48 (by decide)]) (by rw [lo 48 (by decide)])) (by rw [lo 48 (by decide)]; exact h.2.2.2.2), fun k hk => lo k (by omega), f1.2 67 (by decide), lo 48 (by decide), l1, g1⟩
theorem nW_63 {V : Vw} {set : Nat} {w : Int} : nW V set w < 2 ^ 63 := by
  have := nW_lt (V := V) (set := set) (w := w)
  omega
theorem Sn_pos {V : Vw} {set : Nat} {w : Int} {r : Nat} {u : Int} (h : Sn V set w r u) : 0 < nW V set w := by
  have key : ∀ a b p, TW V set w a b p → 0 < nW V set w := by
    rintro a b p ⟨ha, hb, hp, hw, hn⟩
    exact sm_pos.mpr ⟨a, ha.1, ha.2, sm_pos.mpr ⟨b, hb.1, hb.2, sm_pos.mpr ⟨p, hp.1, hp.2, by rw [hw, if_pos rfl]; exact hn⟩⟩⟩
  match r, h with
  | 0, ⟨v, _, ⟨b, p, q⟩, _⟩ => exact key _ _ _ q
  | 1, ⟨b, p, q⟩ => exact key _ _ _ q
  | 2, ⟨a, b, q⟩ => exact key _ _ _ q
  | 3, ⟨v, _, ⟨a, p, q⟩, _⟩ => exact key _ _ _ q
  | 4, ⟨a, p, q⟩ => exact key _ _ _ q
  | _ + 5, ⟨a, b, p, q, _⟩ => exact key _ _ _ q
theorem nW_ex {V : Vw} {set : Nat} {w : Int} (h : 0 < nW V set w) : ∃ a b p, TW V set w a b p := by
  obtain ⟨a, a1, a2, h⟩ := sm_pos.mp h
  obtain ⟨b, b1, b2, h⟩ := sm_pos.mp h
  obtain ⟨p, p1, p2, h⟩ := sm_pos.mp h
  cases hw : wq V set w a b p with
  | false => rw [hw, if_neg (by decide)] at h; exact absurd h (Nat.lt_irrefl 0)
  | true => rw [hw, if_pos rfl] at h; exact ⟨a, b, p, ⟨a1, a2⟩, ⟨b1, b2⟩, ⟨p1, p2⟩, hw, h⟩
theorem nq_ex {V : Vw} {set : Nat} {w : Int} {c : Nat} {a : Int} (h : 0 < nq V set w c a) : ∃ f, (-50 ≤ f ∧ f ≤ 50) ∧ fq V set w c f a = true := by
  unfold nq at h
  split at h
  · obtain ⟨f, f1, f2, h⟩ := sm_pos.mp h
    cases hf : fq V set w c f a with
    | false => rw [hf, if_neg (by decide)] at h; exact absurd h (Nat.lt_irrefl 0)
    | true => exact ⟨f, ⟨f1, f2⟩, hf⟩
  · exact absurd h (Nat.lt_irrefl 0)
/-- with a way every speed shows a number -/
theorem Sn_ex {V : Vw} (hV : VOk V) {set : Nat} {w : Int} (h : 0 < nW V set w) {r : Nat} (hr : r < 6) : ∃ u, (-50 ≤ u ∧ u ≤ 50) ∧ Sn V set w r u := by
  obtain ⟨a, b, p, hT⟩ := nW_ex h
  obtain ⟨ha, hb, hp, hw, hn⟩ := id hT
  have n0 : 0 < nq V set w 0 a := Nat.pos_of_mul_pos_right hn
  have n1 : 0 < nq V set w 1 b := Nat.pos_of_mul_pos_left hn
  obtain ⟨f, f1, f2⟩ := nq_ex n0
  obtain ⟨g, g1, g2⟩ := nq_ex n1
  have hq : -50 ≤ qv V a b p ∧ qv V a b p ≤ 50 := by
    have h := hw
    unfold wq at h
    simp only [Bool.and_eq_true, decide_eq_true_eq] at h
    exact lq_50q hV h.2.2.2.2.1
  rcases (show r = 0 ∨ r = 1 ∨ r = 2 ∨ r = 3 ∨ r = 4 ∨ r = 5 by omega) with rfl | rfl | rfl | rfl | rfl | rfl
  · exact ⟨f, f1, a, ha, ⟨b, p, hT⟩, f2⟩
  · exact ⟨a, ha, b, p, hT⟩
  · exact ⟨p, hp, a, b, hT⟩
  · exact ⟨g, g1, b, hb, ⟨a, p, hT⟩, g2⟩
  · exact ⟨b, hb, a, p, hT⟩
  · exact ⟨_, hq, a, b, p, hT, rfl⟩
theorem cmp_self (x : Int64) : lg_cmp x x = 0 := by
  unfold lg_cmp
  simp
theorem b_ways {V : Vw} {S : QS} (h : IV V S) : ∃ x S1 S2, f_X5_ways S = some (x, S1) ∧ f_X6_ways S1 = some (x, S2) ∧ Inv S2 := by
  obtain ⟨S1, e1, i1, k1, l1, -, -⟩ := h.ask (set := 0) (by decide) (w := -1) (by decide)
  obtain ⟨S2, e2, i2, -, -, -, l2, -⟩ := (i1.thr 0).go 0 (w := -1) (by decide)
  refine ⟨lN (nW V 0 (-1)), S1, S2, ?_, ?_, V, i2⟩
  · unfold f_X5_ways
    have e1 : f_X5_reckon 0 (-1) S = some S1 := e1
    rw [e1, ob, l1]
  · unfold f_X6_ways
    have e2 : f_X6_goes 0 (-1) (setF 48 0 0 S1) = some (b2 (decide (0 < nW V 0 (-1))), S2) := e2
    rw [stF_ok, ob, e2, ob, l2]
theorem and_set (a : Int32) (m : Nat) : a &&& nI m = nI (a.toBitVec.toNat &&& m) := by
  apply Int32.toBitVec_inj.1
  show a.toBitVec &&& BitVec.ofNat 32 m = BitVec.ofNat 32 (a.toBitVec.toNat &&& m)
  apply BitVec.eq_of_getLsbD_eq
  intro i hi
  simp [hi]
/-- all tales, as a set -/
def allT (V : Vw) : Nat := 2 ^ vNt V - 1
theorem allT_lt {V : Vw} (hV : VOk V) : allT V < 1024 := by
  have := pow_le10 hV
  have := Nat.two_pow_pos (vNt V)
  unfold allT
  omega
theorem all_iv {V : Vw} (hV : VOk V) : ((1 : Int32) <<< (iv (vNt V : Int) &&& 31)) - 1 = nI (allT V) := by
  have h1 := hV.2.2.2.2.1
  have h2 := Nat.two_pow_pos (vNt V)
  rw [shl_iv (by omega), c_1, iv_nI, iv_nI, iv_sub]
  unfold allT
  congr 1
  omega
theorem d_all {V : Vw} {S : QS} (h : IV V S) : f_X5_allTales S = some (nI (allT V)) := by
  unfold f_X5_allTales
  rw [h.2.1.2.2.2.1, all_iv h.1]
theorem m_all {V : Vw} {S : QS} (h : IV V S) : f_X6_all S = some (nI (allT V)) := by
  unfold f_X6_all
  rw [h.2.2.2.1.2.2.2.1, all_iv h.1]
theorem le0_b {n : Nat} (h : n < 2 ^ 63) {α : Type} (x y : α) : (if (lg_cmp (lN n) 0) ≤ 0 then x else y) = if decide (0 < n) = true then y else x := by
  by_cases c : n = 0
  · rw [if_pos ((lN_le0 h).mpr c), if_neg (by simp [c])]
  · rw [if_neg (fun z => c ((lN_le0 h).mp z)), if_pos (by simp; omega)]
theorem b_fit {V : Vw} {S : QS} (h : IV V S) (a : Int32) : ∃ x S1 S2, f_X5_fit a S = some (x, S1) ∧ f_X6_fit a S1 = some (x, S2) ∧ Inv S2 := by
  have hlt := allT_lt h.1
  have hset : a.toBitVec.toNat &&& allT V < 1024 := by
    have h2 : a.toBitVec.toNat &&& allT V ≤ allT V := Nat.and_le_right
    omega
  obtain ⟨S1, e1, i1, k1, l1, -, -⟩ := h.ask hset (w := -1) (by decide)
  have i1z := i1.thr 0
  obtain ⟨S2, e2, i2, -, -, -, l2, -⟩ := i1z.go (a.toBitVec.toNat &&& allT V) (w := -1) (by decide)
  refine ⟨b2 (decide (0 < nW V (a.toBitVec.toNat &&& allT V) (-1))), S1, S2, ?_, ?_, V, i2⟩
  · unfold f_X5_fit
    rw [d_all h, ob, and_set, c_m1, e1, ob, l1, le0_b nW_63]
    cases decide (0 < nW V (a.toBitVec.toNat &&& allT V) (-1)) <;> rfl
  · unfold f_X6_fit
    rw [stF_ok, ob, m_all i1z, ob, and_set, c_m1, e2, ob, zb_ok (b2_or _), ob]
/-! the least and the greatest -/
def LeastP (P : Int → Prop) (u : Int) : Prop := (-50 ≤ u ∧ u ≤ 50) ∧ P u ∧ ∀ x, -50 ≤ x → x < u → ¬ P x
def MostP (P : Int → Prop) (u : Int) : Prop := (-50 ≤ u ∧ u ≤ 50) ∧ P u ∧ ∀ x, u < x → x ≤ 50 → ¬ P x
theorem LeastP.one {P : Int → Prop} {u v : Int} (h : LeastP P u) (h2 : LeastP P v) : u = v := by
  rcases (show u < v ∨ u = v ∨ v < u by omega) with c | c | c
  · exact absurd h.2.1 (h2.2.2 u h.1.1 c)
  · exact c
  · exact absurd h2.2.1 (h.2.2 v h2.1.1 c)
theorem MostP.one {P : Int → Prop} {u v : Int} (h : MostP P u) (h2 : MostP P v) : u = v := by
  rcases (show u < v ∨ u = v ∨ v < u by omega) with c | c | c
  · exact absurd h2.2.1 (h.2.2 v c h2.1.2)
  · exact c
  · exact absurd h.2.1 (h2.2.2 u c h.1.2)
theorem s_leastSeen {k : Nat} {S : QS} {P : Int → Prop} (hF : ∀ u, -50 ≤ u → u ≤ 50 → Flag (S.1 (k + 2) (ix u)) (P u)) (hx : ∃ u, (-50 ≤ u ∧ u ≤ 50) ∧ P u) : ∃ u, f_X3_leastSeen k S = some (iv u) ∧ LeastP P u := by
  have key : ∀ (d fuel : Nat) (v : Int), -50 ≤ v → v + d = 50 → d < fuel → (∀ x, -50 ≤ x → x < v → ¬ P x) → ∃ u, lp_X3_leastSeen_3 k S fuel (iv v) = some (iv u) ∧ LeastP P u := by
    intro d
    induction d with
    | zero =>
      intro fuel v h1 h2 h3 h4
      obtain ⟨f1, rfl⟩ : ∃ f1, fuel = f1 + 1 := ⟨fuel - 1, by omega⟩
      have e : v = 50 := by omega
      subst e
      refine ⟨50, by rw [lp_X3_leastSeen_3, if_pos (by decide)]; rfl, by omega, ?_, h4⟩
      obtain ⟨u, u1, u2⟩ := hx
      by_cases c : u = 50
      · rw [← c]; exact u2
      · exact absurd u2 (h4 u u1.1 (by omega))
    | succ d ih =>
      intro fuel v h1 h2 h3 h4
      obtain ⟨f1, rfl⟩ : ∃ f1, fuel = f1 + 1 := ⟨fuel - 1, by omega⟩
      have hv : -50 ≤ v ∧ v ≤ 50 := by omega
      rw [lp_X3_leastSeen_3, c_50, if_neg (n_le (a := 50) (b := v) (by omega)), s_isSeen hv, ob, iv_one]
      rcases hF v hv.1 hv.2 with ⟨q1, q2⟩ | ⟨q1, q2⟩
      · exact ⟨v, by rw [q1]; rfl, hv, q2, h4⟩
      · obtain ⟨u, u1, u2⟩ := ih f1 (v + 1) (by omega) (by omega) (by omega) (fun x x1 x2 => by
          by_cases c : x = v
          · rw [c]; exact q2
          · exact h4 x x1 (by omega))
        exact ⟨u, by rw [q1]; exact u1, u2⟩
  unfold f_X3_leastSeen
  rw [c_m50]
  exact key 100 FU (-50) (by omega) (by omega) (by decide) (fun x _ _ => by omega)
theorem s_greatestSeen {k : Nat} {S : QS} {P : Int → Prop} (hF : ∀ u, -50 ≤ u → u ≤ 50 → Flag (S.1 (k + 2) (ix u)) (P u)) (hx : ∃ u, (-50 ≤ u ∧ u ≤ 50) ∧ P u) : ∃ u, f_X3_greatestSeen k S = some (iv u) ∧ MostP P u := by
  have key : ∀ (d fuel : Nat) (v : Int), v ≤ 50 → v = -50 + d → d < fuel → (∀ x, v < x → x ≤ 50 → ¬ P x) → ∃ u, lp_X3_greatestSeen_3 k S fuel (iv v) = some (iv u) ∧ MostP P u := by
    intro d
    induction d with
    | zero =>
      intro fuel v h1 h2 h3 h4
      obtain ⟨f1, rfl⟩ : ∃ f1, fuel = f1 + 1 := ⟨fuel - 1, by omega⟩
      have e : v = -50 := by omega
      subst e
      refine ⟨-50, by rw [lp_X3_greatestSeen_3, if_pos (by decide)]; rfl, by omega, ?_, h4⟩
      obtain ⟨u, u1, u2⟩ := hx
      by_cases c : u = -50
      · rw [← c]; exact u2
      · exact absurd u2 (h4 u (by omega) u1.2)
    | succ d ih =>
      intro fuel v h1 h2 h3 h4
      obtain ⟨f1, rfl⟩ : ∃ f1, fuel = f1 + 1 := ⟨fuel - 1, by omega⟩
      have hv : -50 ≤ v ∧ v ≤ 50 := by omega
      rw [lp_X3_greatestSeen_3, c_m50, if_neg (n_le (a := v) (b := -50) (by omega)), s_isSeen hv, ob, iv_m1]
      rcases hF v hv.1 hv.2 with ⟨q1, q2⟩ | ⟨q1, q2⟩
      · exact ⟨v, by rw [q1]; rfl, hv, q2, h4⟩
      · obtain ⟨u, u1, u2⟩ := ih f1 (v - 1) (by omega) (by omega) (by omega) (fun x x1 x2 => by
          by_cases c : x = v
          · rw [c]; exact q2
          · exact h4 x (by omega) x2)
        exact ⟨u, by rw [q1]; exact u1, u2⟩
  unfold f_X3_greatestSeen
  rw [c_50]
  exact key 100 FU 50 (by omega) (by omega) (by decide) (fun x _ _ => by omega)
theorem r_least {c j : Nat} (hc : c < 2) (hj : j < 3) {q : Int32 × QS} {P : Int → Prop} (hF : ∀ u, -50 ≤ u → u ≤ 50 → Flag (q.2.1 61 (cx (3 * c + j) u)) (P u)) (hx : ∃ u, (-50 ≤ u ∧ u ≤ 50) ∧ P u) : ∃ u, lp_X6_span_67 (iv (c : Int)) (iv (j : Int)) 0 q FU (-50) = some (iv u, q.2) ∧ LeastP P u := by
  have er : 3 * iv (c : Int) + iv (j : Int) = iv ((3 * c + j : Nat) : Int) := by
    rw [c_3, iv_mul, iv_add]
    congr 1
  have key : ∀ (d fuel : Nat) (v : Int), -50 ≤ v → v + d = 50 → d < fuel → (∀ x, -50 ≤ x → x < v → ¬ P x) → ∃ u, lp_X6_span_67 (iv (c : Int)) (iv (j : Int)) 0 q fuel (iv v) = some (iv u, q.2) ∧ LeastP P u := by
    intro d
    induction d with
    | zero =>
      intro fuel v h1 h2 h3 h4
      obtain ⟨f1, rfl⟩ : ∃ f1, fuel = f1 + 1 := ⟨fuel - 1, by omega⟩
      have e : v = 50 := by omega
      subst e
      have hP : P 50 := by
        obtain ⟨u, u1, u2⟩ := hx
        by_cases c : u = 50
        · rw [← c]; exact u2
        · exact absurd u2 (h4 u u1.1 (by omega))
      refine ⟨50, ?_, by omega, hP, h4⟩
      rw [lp_X6_span_67, er, r_cell, ob, rdC (by omega) (by omega), ob]
      rcases hF 50 (by omega) (by omega) with ⟨q1, q2⟩ | ⟨q1, q2⟩
      · rw [q1, if_neg (by decide)]
      · exact absurd hP q2
    | succ d ih =>
      intro fuel v h1 h2 h3 h4
      obtain ⟨f1, rfl⟩ : ∃ f1, fuel = f1 + 1 := ⟨fuel - 1, by omega⟩
      have hv : -50 ≤ v ∧ v ≤ 50 := by omega
      rw [lp_X6_span_67, er, r_cell, ob, rdC (by omega) hv, ob, if_pos (rfl : (0 : Int32) = 0), ob, iv_one]
      rcases hF v hv.1 hv.2 with ⟨q1, q2⟩ | ⟨q1, q2⟩
      · exact ⟨v, by rw [q1, if_neg (by decide)], hv, q2, h4⟩
      · obtain ⟨u, u1, u2⟩ := ih f1 (v + 1) (by omega) (by omega) (by omega) (fun x x1 x2 => by
          by_cases c : x = v
          · rw [c]; exact q2
          · exact h4 x x1 (by omega))
        exact ⟨u, by rw [q1, if_pos rfl]; exact u1, u2⟩
  rw [c_m50]
  exact key 100 FU (-50) (by omega) (by omega) (by decide) (fun x _ _ => by omega)
theorem r_most {c j : Nat} (hc : c < 2) (hj : j < 3) {q : Int32 × QS} {P : Int → Prop} (hF : ∀ u, -50 ≤ u → u ≤ 50 → Flag (q.2.1 61 (cx (3 * c + j) u)) (P u)) (hx : ∃ u, (-50 ≤ u ∧ u ≤ 50) ∧ P u) : ∃ u, lp_X6_span_67 (iv (c : Int)) (iv (j : Int)) 1 q FU 50 = some (iv u, q.2) ∧ MostP P u := by
  have er : 3 * iv (c : Int) + iv (j : Int) = iv ((3 * c + j : Nat) : Int) := by
    rw [c_3, iv_mul, iv_add]
    congr 1
  have key : ∀ (d fuel : Nat) (v : Int), v ≤ 50 → v = -50 + d → d < fuel → (∀ x, v < x → x ≤ 50 → ¬ P x) → ∃ u, lp_X6_span_67 (iv (c : Int)) (iv (j : Int)) 1 q fuel (iv v) = some (iv u, q.2) ∧ MostP P u := by
    intro d
    induction d with
    | zero =>
      intro fuel v h1 h2 h3 h4
      obtain ⟨f1, rfl⟩ : ∃ f1, fuel = f1 + 1 := ⟨fuel - 1, by omega⟩
      have e : v = -50 := by omega
      subst e
      have hP : P (-50) := by
        obtain ⟨u, u1, u2⟩ := hx
        by_cases c : u = -50
        · rw [← c]; exact u2
        · exact absurd u2 (h4 u (by omega) u1.2)
      refine ⟨-50, ?_, by omega, hP, h4⟩
      rw [lp_X6_span_67, er, r_cell, ob, rdC (by omega) (by omega), ob]
      rcases hF (-50) (by omega) (by omega) with ⟨q1, q2⟩ | ⟨q1, q2⟩
      · rw [q1, if_neg (by decide)]
      · exact absurd hP q2
    | succ d ih =>
      intro fuel v h1 h2 h3 h4
      obtain ⟨f1, rfl⟩ : ∃ f1, fuel = f1 + 1 := ⟨fuel - 1, by omega⟩
      have hv : -50 ≤ v ∧ v ≤ 50 := by omega
      rw [lp_X6_span_67, er, r_cell, ob, rdC (by omega) hv, ob, if_neg (by decide : ¬ (1 : Int32) = 0), ob, iv_m1]
      rcases hF v hv.1 hv.2 with ⟨q1, q2⟩ | ⟨q1, q2⟩
      · exact ⟨v, by rw [q1, if_neg (by decide)], hv, q2, h4⟩
      · obtain ⟨u, u1, u2⟩ := ih f1 (v - 1) (by omega) (by omega) (by omega) (fun x x1 x2 => by
          by_cases c : x = v
          · rw [c]; exact q2
          · exact h4 x (by omega) x2)
        exact ⟨u, by rw [q1, if_pos rfl]; exact u1, u2⟩
  rw [c_50]
  exact key 100 FU 50 (by omega) (by omega) (by decide) (fun x _ _ => by omega)
theorem d_way {S : QS} {n : Nat} (hn : n < 2 ^ 63) (h : S.2 25 = lN n) : f_X5_testWay S = some (if decide (0 < n) = true then .inr () else .inl (nNS, S)) := by
  unfold f_X5_testWay
  rw [h]
  by_cases c : n = 0
  · rw [if_pos ((lN_eq0 hn).mpr c), if_neg (by simp [c])]
  · rw [if_neg (fun z => c ((lN_eq0 hn).mp z)), if_pos (by simp; omega)]
theorem b_span {V : Vw} {S : QS} (h : IV V S) (a b : Int32) (most tl : Bool) : SameL S (f_L_span a b (b2 most) (b2 tl) S) (f_X6_span a b (b2 most) (b2 tl)) := by
  cases hc : (okC a && okS b) with
  | false =>
    refine sameL_thr h 1 (by decide) ?_ ?_ (y := 0)
    · unfold f_L_span f_X5_span
      rw [d_speedOf_no hc, bxl, bhl]
      rfl
    · unfold f_X6_span
      rw [stF_ok, ob, m_noSpeed, ob, hc, thr_n, if_neg b2t]
  | true =>
    have hc1 := hc
    rw [Bool.and_eq_true] at hc1
    obtain ⟨c, hc2, rfl⟩ := ok_car hc1.1
    obtain ⟨j, hj, rfl⟩ := ok_spd hc1.2
    obtain ⟨set, hset⟩ : ∃ set, set = if tl then allT V else 0 := ⟨_, rfl⟩
    have hlt : set < 1024 := by
      have := allT_lt h.1
      rw [hset]
      split <;> omega
    have dset : ((if b2 tl = 0 then (some 0) else ((f_X5_allTales S).bind fun v6 => some v6)) : Option Int32) = some (nI set) := by
      rw [hset, d_all h]
      cases tl <;> rfl
    obtain ⟨S1, e1, i1, k1, l1, g1, -⟩ := h.ask hlt (w := -1) (by decide)
    have mset : ∀ T, IV V T → ((if b2 tl = 0 then (some 0) else ((f_X6_all T).bind fun v9 => some v9)) : Option Int32) = some (nI set) := fun T hT => by
      rw [hset, m_all hT]
      cases tl <;> rfl
    cases hw : decide (0 < nW V set (-1)) with
    | false =>
      have i1z := i1.thr 0
      obtain ⟨S2, e2, i2, -, -, h48, -, -⟩ := i1z.go set (w := -1) (by decide)
      refine ⟨2, S1, 0, setF 48 0 2 S2, ?_, ?_, st_eq _ _ _ _, fun z => absurd z (by decide), V, i2.thr 2⟩
      · unfold f_L_span f_X5_span
        rw [d_speedOf hc2 hj, bxr, dset, ob, c_m1, e1, ob, d_way nW_63 l1, hw, if_neg (by decide), bxl, bhl, if_neg s_NS1, if_pos rfl]
      · unfold f_X6_span
        rw [stF_ok, ob, m_noSpeed, ob, hc, thr_y, if_pos b2f]
        show (((if b2 tl = 0 then (some 0) else ((f_X6_all (setF 48 0 0 S1)).bind fun v9 => some v9)) : Option Int32).bind _) = _
        rw [mset _ i1z, ob, c_m1, e2, ob, hw, b2_not, ob, thr_n, if_neg b2t]
    | true =>
      have hpos : 0 < nW V set (-1) := of_decide_eq_true hw
      obtain ⟨T, hT⟩ : ∃ T : Int32 → QS, T = fun y => setL 67 y.toInt64 S1 := ⟨_, rfl⟩
      have hr : 3 * c + j < 6 := by omega
      have hex := Sn_ex h.1 hpos hr
      obtain ⟨y, hy1, hy2⟩ : ∃ y : Int, ((if b2 most = 0 then ((f_X3_leastSeen (kp (3 * c + j)) S1).bind fun v12 => some (.inr (v12, S1))) else ((f_X3_greatestSeen (kp (3 * c + j)) S1).bind fun v14 => some (.inr (v14, S1)))) : Option ((String × QS) ⊕ (Int32 × QS))) = some (.inr (iv y, S1)) ∧ (if most then MostP (Sn V set (-1) (3 * c + j)) y else LeastP (Sn V set (-1) (3 * c + j)) y) := by
        cases most with
        | false =>
          obtain ⟨y, q1, q2⟩ := s_leastSeen (g1 _ hr) hex
          exact ⟨y, by rw [if_pos (by decide), q1, ob], q2⟩
        | true =>
          obtain ⟨y, q1, q2⟩ := s_greatestSeen (g1 _ hr) hex
          exact ⟨y, by rw [if_neg (by decide), q1, ob], q2⟩
      have iTz := (i1.out (iv y).toInt64).thr 0
      obtain ⟨S2, e2, i2, -, l67, h48, -, g2⟩ := iTz.go set (w := -1) (by decide)
      refine ⟨0, setL 67 (iv y).toInt64 S1, iv y, S2, ?_, ?_, by rw [h48, st_eq], fun _ => by rw [l67, st_2]; exact sl_eq _ _ _, V, i2⟩
      · unfold f_L_span f_X5_span
        rw [d_speedOf hc2 hj, bxr, dset, ob, c_m1, e1, ob, d_way nW_63 l1, hw, if_pos rfl, bxr, hy1, bhr]
        rfl
      · unfold f_X6_span
        rw [stF_ok, ob, m_noSpeed, ob, hc, thr_y, if_pos b2f]
        show (((if b2 tl = 0 then (some 0) else ((f_X6_all (setF 48 0 0 (setL 67 (iv y).toInt64 S1))).bind fun v9 => some v9)) : Option Int32).bind _) = _
        rw [mset _ iTz, ob, c_m1, e2, ob, hw, b2_not, ob, thr_y, if_pos b2f]
        show (((if b2 most = 0 then (some (-50)) else (some 50)) : Option Int32).bind fun q15 => lp_X6_span_67 (iv (c : Int)) (iv (j : Int)) (b2 most) (b2 false, S2) FU q15) = _
        cases most with
        | false =>
          obtain ⟨y2, q1, q2⟩ := r_least hc2 hj (q := (b2 false, S2)) (g2 _ hr) hex
          have e : y = y2 := hy2.one q2
          subst e
          rw [if_pos b2f, ob, b2f]
          exact q1
        | true =>
          obtain ⟨y2, q1, q2⟩ := r_most hc2 hj (q := (b2 false, S2)) (g2 _ hr) hex
          have e : y = y2 := hy2.one q2
          subst e
          rw [if_neg b2t, ob, show b2 true = 1 from rfl]
          exact q1
end
section
/-! BOTH SIDES: avoided, look, can, count, odds -/
/-- two loops over the same numbers, side by side -/
theorem av_loops {c : Nat} (hc : c < 2) {S1 : QS} {q : Int32 × QS} {P : Int → Prop} (h1 : ∀ u, -50 ≤ u → u ≤ 50 → Flag (S1.1 (26 + 11 * c + 1 + 2) (ix u)) (P u)) (h2 : ∀ u, -50 ≤ u → u ≤ 50 → Flag (q.2.1 61 (cx (3 * c) u)) (P u)) (a b : Int32) :
    ∃ x y : Bool, lp_X5_avoided_46 a b (26 + 11 * c) S1 FU 1 0 (-50) = some (b2 x, b2 y) ∧ lp_X6_avoided_86 (iv (c : Int)) a b q FU 0 1 (-50) = some (b2 y, b2 x) := by
  have key : ∀ (d fuel : Nat) (v : Int) (x y : Bool), -50 ≤ v → v + d = 51 → d < fuel → ∃ x2 y2 : Bool, lp_X5_avoided_46 a b (26 + 11 * c) S1 fuel (b2 x) (b2 y) (iv v) = some (b2 x2, b2 y2) ∧ lp_X6_avoided_86 (iv (c : Int)) a b q fuel (b2 y) (b2 x) (iv v) = some (b2 y2, b2 x2) := by
    intro d
    induction d with
    | zero =>
      intro fuel v x y w1 w2 w3
      obtain ⟨f1, rfl⟩ : ∃ f1, fuel = f1 + 1 := ⟨fuel - 1, by omega⟩
      have e : v = 51 := by omega
      subst e
      exact ⟨x, y, by rw [lp_X5_avoided_46, if_pos gt50], by rw [lp_X6_avoided_86, if_pos gt50]⟩
    | succ d ih =>
      intro fuel v x y w1 w2 w3
      obtain ⟨f1, rfl⟩ : ∃ f1, fuel = f1 + 1 := ⟨fuel - 1, by omega⟩
      have hv : -50 ≤ v ∧ v ≤ 50 := by omega
      rw [lp_X5_avoided_46, lp_X6_avoided_86, if_neg (hi50 hv.2), if_neg (hi50 hv.2), s_isSeen hv, ob, row0, r_cell, ob, rdC (by omega) hv, ob, iv_one]
      rcases h1 v hv.1 hv.2 with ⟨p1, p2⟩ | ⟨p1, p2⟩
      · rcases h2 v hv.1 hv.2 with ⟨p3, p4⟩ | ⟨p3, p4⟩
        · obtain ⟨t, ht⟩ : ∃ t : Bool, ((if (a * b) < ((51 * iv v) * iv v) then (some 0) else (some 1)) : Option Int32) = some (b2 t) := by
            by_cases ct : (a * b) < ((51 * iv v) * iv v)
            · exact ⟨false, by rw [if_pos ct]; rfl⟩
            · exact ⟨true, by rw [if_neg ct]; rfl⟩
          rw [p1, p3, if_neg (by decide : ¬ (1 : Int32) = 0), if_neg (by decide : ¬ (1 : Int32) = 0), if_neg (by decide : ¬ (1 : Int32) = 0), ht, ob, ob]
          obtain ⟨x2, y2, q1, q2⟩ := ih f1 (v + 1) (x && t) (y || t) (by omega) (by omega) (by omega)
          refine ⟨x2, y2, ?_, ?_⟩
          · rw [← q1]
            cases x <;> cases y <;> cases t <;> rfl
          · rw [← q2]
            cases x <;> cases y <;> cases t <;> rfl
        · exact absurd p2 p4
      · rcases h2 v hv.1 hv.2 with ⟨p3, p4⟩ | ⟨p3, p4⟩
        · exact absurd p4 p2
        · rw [p1, p3, if_pos (rfl : (0 : Int32) = 0), if_pos (rfl : (0 : Int32) = 0), if_pos (rfl : (0 : Int32) = 0)]
          exact ih f1 (v + 1) x y (by omega) (by omega) (by omega)
  have h := key 101 FU (-50) true false (by omega) (by omega) (by decide)
  rw [c_m50]
  exact h
theorem b_avoided {V : Vw} {S : QS} (h : IV V S) (a room grip : Int32) : SameL S (f_L_avoided a room grip S) (f_X6_avoided a room grip) := by
  cases hc : okC a with
  | false =>
    refine sameL_thr h 1 (by decide) ?_ ?_ (y := 0)
    · unfold f_L_avoided f_X5_avoided
      rw [d_carOf_no hc, bxl, bhl]
      rfl
    · unfold f_X6_avoided
      rw [stF_ok, ob, m_noCar, ob, hc, thr_n, if_neg b2t]
  | true =>
    obtain ⟨c, hc2, rfl⟩ := ok_car hc
    have mt : ∀ S : QS, ((if b2 (okB 0 2000 room) = 0 then (some 1) else ((f_X6_in grip 0 150).bind fun v11 => if v11 = 0 then (some 1) else (some 0))) : Option Int32) = some (b2 (!(okB 0 2000 room && okB 0 150 grip))) := fun _ => by
      rw [m_in150, ob]
      cases okB 0 2000 room <;> cases okB 0 150 grip <;> rfl
    cases hn : (okB 0 2000 room && okB 0 150 grip) with
    | false =>
      refine sameL_thr h 2 (by decide) ?_ ?_ (y := 0)
      · unfold f_L_avoided f_X5_avoided
        rw [d_carOf hc2, bxr, d_num2000]
        cases h1 : okB 0 2000 room with
        | false =>
          rw [if_neg (by decide), bxl, bhl, if_neg s_IA, if_pos rfl]
        | true =>
          rw [h1, Bool.true_and] at hn
          rw [if_pos rfl, bxr, d_num150, hn, if_neg (by decide), bxl, bhl, if_neg s_IA, if_pos rfl]
      · unfold f_X6_avoided
        rw [stF_ok, ob, m_noCar, ob, hc, thr_y, if_pos b2f, m_in2000, ob, mt S, ob, hn, thr_n, if_neg b2t]
    | true =>
      have hn2 := hn
      rw [Bool.and_eq_true] at hn2
      obtain ⟨n1, n2⟩ := hn2
      obtain ⟨S1, e1, i1, k1, l1, g1, -⟩ := h.ask (set := 0) (by decide) (w := -1) (by decide)
      have e1 : f_X5_reckon 0 (-1) S = some S1 := e1
      have desk : ∀ X, bx (f_X5_testWay S1) (fun _ => (lp_X5_avoided_46 room grip (26 + 11 * c) S1 FU 1 0 (-50)).bind fun q15 => if q15.1 = 0 then (if q15.2 = 0 then (some (.inr (0, S1))) else (some (.inr (1, S1)))) else (some (.inr (2, S1)))) = X → f_X5_avoided (iv (c : Int)) room grip S = X := by
        rintro X rfl
        unfold f_X5_avoided
        rw [d_carOf hc2, bxr, d_num2000, n1, if_pos rfl, bxr, d_num150, n2, if_pos rfl, bxr, e1, ob]
      have model : ∀ T, IV V T → ∃ S2, IV V S2 ∧ S2.1 48 0 = 0 ∧ S2.2 67 = T.2 67 ∧ (∀ r, r < 6 → ∀ u, -50 ≤ u → u ≤ 50 → Flag (S2.1 61 (cx r u)) (Sn V 0 (-1) r u)) ∧ f_X6_avoided (iv (c : Int)) room grip T = (f_X6_throwsIf (b2 (!decide (0 < nW V 0 (-1)))) 3 S2).bind fun q18 => if q18.1 = 0 then ((lp_X6_avoided_86 (iv (c : Int)) room grip q18 FU 0 1 (-50)).bind fun q22 => if q22.2 = 0 then (if q22.1 = 0 then (some (0, q18.2)) else (some (1, q18.2))) else (some (2, q18.2))) else (some (0, q18.2)) := fun T hT => by
        obtain ⟨S2, e2, i2, -, l67, h48, -, g2⟩ := (hT.thr 0).go 0 (w := -1) (by decide)
        have e2 : f_X6_goes 0 (-1) (setF 48 0 0 T) = some (b2 (decide (0 < nW V 0 (-1))), S2) := e2
        refine ⟨S2, i2, by rw [h48, st_eq], by rw [l67, st_2], g2, ?_⟩
        unfold f_X6_avoided
        rw [stF_ok, ob, m_noCar, ob, hc, thr_y, if_pos b2f, m_in2000, ob, mt S, ob, hn, thr_y, if_pos b2f]
        show ((f_X6_goes 0 (-1) (setF 48 0 0 T)).bind _) = _
        rw [e2, ob, b2_not, ob]
      cases hw : decide (0 < nW V 0 (-1)) with
      | false =>
        obtain ⟨S2, i2, -, -, -, e2⟩ := model S1 i1
        refine ⟨3, S1, 0, setF 48 0 3 S2, ?_, ?_, st_eq _ _ _ _, fun z => absurd z (by decide), V, i2.thr 3⟩
        · unfold f_L_avoided
          rw [desk (some (.inl (nNS, S1))) (by rw [d_way nW_63 l1, hw, if_neg (by decide), bxl]), bhl, if_neg s_NS1, if_neg s_NS2, if_pos rfl]
        · rw [e2, hw, thr_n, if_neg b2t]
      | true =>
        -- the answer is the same of both loops
        have g1c : ∀ u, -50 ≤ u → u ≤ 50 → Flag (S1.1 (26 + 11 * c + 1 + 2) (ix u)) (Sn V 0 (-1) (3 * c) u) := fun u h1 h2 => by
          have := g1 (3 * c) (by omega) u h1 h2
          rcases (show c = 0 ∨ c = 1 by omega) with rfl | rfl <;> exact this
        obtain ⟨S2a, -, -, -, g2a, -⟩ := model S1 i1
        obtain ⟨x, y, r1, -⟩ := av_loops hc2 (q := (0, S2a)) g1c (fun u h1 h2 => g2a (3 * c) (by omega) u h1 h2) room grip
        obtain ⟨z, hz⟩ : ∃ z : Int32, z = if x then 2 else if y then 1 else 0 := ⟨_, rfl⟩
        obtain ⟨S2, i2, h0, l67, g2, e2⟩ := model (setL 67 z.toInt64 S1) (i1.out _)
        obtain ⟨x2, y2, r2, r3⟩ := av_loops hc2 (q := (b2 (!true), S2)) g1c (fun u h1 h2 => g2 (3 * c) (by omega) u h1 h2) room grip
        rw [r1] at r2
        have ex : x = x2 ∧ y = y2 := by
          have h3 := Option.some.inj r2
          have h4 := congrArg Prod.fst h3
          have h5 := congrArg Prod.snd h3
          cases x <;> cases x2 <;> cases y <;> cases y2 <;> simp_all [b2]
        obtain ⟨rfl, rfl⟩ := ex
        refine ⟨0, setL 67 z.toInt64 S1, z, S2, ?_, ?_, h0, fun _ => by rw [l67]; exact sl_eq _ _ _, V, i2⟩
        · unfold f_L_avoided
          rw [desk (some (.inr (z, S1))) (by
            rw [d_way nW_63 l1, hw, if_pos rfl, bxr, r1, ob, hz]
            cases x <;> cases y <;> rfl), bhr]
          rfl
        · rw [e2, hw, thr_y, if_pos b2f]
          show (lp_X6_avoided_86 (iv (c : Int)) room grip (b2 (!true), S2) FU 0 1 (-50)).bind _ = _
          rw [r3, ob, hz]
          cases x <;> cases y <;> rfl
theorem b_look {V : Vw} {S : QS} (h : IV V S) (a what : Int32) : SameL S (f_L_look a what S) (f_X6_look a what) := by
  obtain ⟨hV, hD, hC, hM, h18⟩ := id h
  have h12 : vNs V ≤ 12 := hV.2.2.1
  cases hk : okK V a with
  | false =>
    refine sameL_thr h 1 (by decide) ?_ ?_ (y := 0)
    · unfold f_L_look f_X5_look
      rw [d_skidOf hV hD, hk, if_neg (by decide), bxl, bhl]
      rfl
    · unfold f_X6_look
      rw [stF_ok, ob, m_inK hV (by rw [st_nej (by decide)]; exact hM.2.2.1), ob, hk, b2_not, ob, thr_n, if_neg b2t]
  | true =>
    obtain ⟨s, hs, rfl⟩ := ok_skd hk
    have es : (iv (s : Int)).toInt.toNat = s := by rw [iv_to (by omega), Int.toNat_natCast]
    obtain ⟨d0, d1, d2, d3, d4⟩ := hD.2.2.2.2.1 s hs
    obtain ⟨m0, m1, m2, m3, m4⟩ := hM.2.2.2.2.1 s hs
    have hrd : ∀ (T : QS) (k : Nat), rdA k 12 (iv (s : Int)) T = some (T.1 k s) := fun T k => by rw [rd_iv (by omega), Int.toNat_natCast]
    have desk : f_X5_look (iv (s : Int)) what S = if what = 0 then (some (.inr (S.1 (2 + s) 0))) else (if what = 1 then (if (S.1 (2 + s) 1) = 0 then (some (.inr 0)) else (some (.inr 1))) else (if what = 2 then (some (.inr (S.1 (2 + s) 2))) else (if what = 3 then (some (.inr (S.1 (2 + s) 3))) else (if what = 4 then (if (S.1 (2 + s) 4) = 0 then (some (.inr 0)) else (some (.inr 1))) else (some (.inl (nNS, S))))))) := by
      unfold f_X5_look
      rw [d_skidOf hV hD, hk, if_pos rfl, bxr, es]
    have model : ∀ T : QS, MR V T → f_X6_look (iv (s : Int)) what T = if what = 0 then (some (T.1 50 s, setF 48 0 0 T)) else (if what = 1 then (if T.1 51 s = 0 then (some (0, setF 48 0 0 T)) else (some (1, setF 48 0 0 T))) else (if what = 2 then (some (T.1 52 s, setF 48 0 0 T)) else (if what = 3 then (some (T.1 53 s, setF 48 0 0 T)) else (if what = 4 then (if T.1 54 s = 0 then (some (1, setF 48 0 0 T)) else (some (0, setF 48 0 0 T))) else (some (0, setF 48 0 2 (setF 48 0 0 T))))))) := fun T hT => by
      unfold f_X6_look
      rw [stF_ok, ob, m_inK hV (by rw [st_nej (by decide)]; exact hT.2.2.1), ob, hk, b2_not, ob, thr_y, if_pos b2f]
      show (if what = 0 then ((rdA 50 12 (iv (s : Int)) (setF 48 0 0 T)).bind fun v8 => some (v8, setF 48 0 0 T)) else (if what = 1 then ((rdA 51 12 (iv (s : Int)) (setF 48 0 0 T)).bind fun v10 => if v10 = 0 then (some (0, setF 48 0 0 T)) else (some (1, setF 48 0 0 T))) else (if what = 2 then ((rdA 52 12 (iv (s : Int)) (setF 48 0 0 T)).bind fun v12 => some (v12, setF 48 0 0 T)) else (if what = 3 then ((rdA 53 12 (iv (s : Int)) (setF 48 0 0 T)).bind fun v14 => some (v14, setF 48 0 0 T)) else (if what = 4 then ((rdA 54 12 (iv (s : Int)) (setF 48 0 0 T)).bind fun v16 => if v16 = 0 then (some (1, setF 48 0 0 T)) else (some (0, setF 48 0 0 T))) else ((stF 48 0 2 (setF 48 0 0 T)).bind fun S18 => some (0, S18))))))) = _
      rw [hrd, hrd, hrd, hrd, hrd, ob, ob, ob, ob, ob, st_nek (by decide), st_nek (by decide), st_nek (by decide), st_nek (by decide), st_nek (by decide)]
      rfl
    have good : ∀ y : Int32, f_X5_look (iv (s : Int)) what S = some (.inr y) → f_X6_look (iv (s : Int)) what (setL 67 y.toInt64 S) = some (y, setF 48 0 0 (setL 67 y.toInt64 S)) → SameL S (f_L_look (iv (s : Int)) what S) (f_X6_look (iv (s : Int)) what) := fun y h1 h2 => by
      refine ⟨0, setL 67 y.toInt64 S, y, _, ?_, h2, st_eq _ _ _ _, fun _ => by rw [st_2]; exact sl_eq _ _ _, V, (h.out _).thr 0⟩
      unfold f_L_look
      rw [h1, bhr]
      rfl
    have hout : ∀ y : Int64, MR V (setL 67 y S) := fun y => (h.out y).2.2.2.1
    by_cases c0 : what = 0
    · exact good (iv (kCar V s : Int)) (by rw [desk, if_pos c0, d0]) (by rw [model _ (hout _), if_pos c0, sl_1, m0])
    by_cases c1 : what = 1
    · refine good (b2 (kBeh V s)) (by rw [desk, if_neg c0, if_pos c1, d1]; cases kBeh V s <;> rfl) (by rw [model _ (hout _), if_neg c0, if_pos c1, sl_1, m1]; cases kBeh V s <;> rfl)
    by_cases c2 : what = 2
    · exact good (iv (kLo V s)) (by rw [desk, if_neg c0, if_neg c1, if_pos c2, d2]) (by rw [model _ (hout _), if_neg c0, if_neg c1, if_pos c2, sl_1, m2])
    by_cases c3 : what = 3
    · exact good (iv (kHi V s)) (by rw [desk, if_neg c0, if_neg c1, if_neg c2, if_pos c3, d3]) (by rw [model _ (hout _), if_neg c0, if_neg c1, if_neg c2, if_pos c3, sl_1, m3])
    by_cases c4 : what = 4
    · refine good (b2 (kOn V s)) (by rw [desk, if_neg c0, if_neg c1, if_neg c2, if_neg c3, if_pos c4, d4]; cases kOn V s <;> rfl) (by rw [model _ (hout _), if_neg c0, if_neg c1, if_neg c2, if_neg c3, if_pos c4, sl_1, m4]; cases kOn V s <;> rfl)
    refine sameL_thr h 2 (by decide) ?_ (y := 0) ?_
    · unfold f_L_look
      rw [desk, if_neg c0, if_neg c1, if_neg c2, if_neg c3, if_neg c4, bhl, if_neg s_NS1, if_pos rfl]
    · rw [model _ hM, if_neg c0, if_neg c1, if_neg c2, if_neg c3, if_neg c4]
theorem b_can {V : Vw} {S : QS} (h : IV V S) (a b n : Int32) : SameZ S (f_L_can a b n S) (f_X6_can a b n) := by
  cases hc : (okC a && okS b) with
  | false =>
    refine sameZ_thr h 1 (by decide) ?_ ?_ (y := 0)
    · unfold f_L_can f_X5_can
      rw [d_speedOf_no hc, bxl, bhl]
      rfl
    · unfold f_X6_can
      rw [stF_ok, ob, m_noSpeed, ob, hc, thr_n, if_neg b2t]
  | true =>
    have hc1 := hc
    rw [Bool.and_eq_true] at hc1
    obtain ⟨c, hc2, rfl⟩ := ok_car hc1.1
    obtain ⟨j, hj, rfl⟩ := ok_spd hc1.2
    have hr : 3 * c + j < 6 := by omega
    have er : 3 * iv (c : Int) + iv (j : Int) = iv ((3 * c + j : Nat) : Int) := by
      rw [c_3, iv_mul, iv_add]
      congr 1
    obtain ⟨S1, e1, i1, k1, l1, g1, -⟩ := h.ask (set := 0) (by decide) (w := -1) (by decide)
    have e1 : f_X5_reckon 0 (-1) S = some S1 := e1
    have desk : ∀ y : Bool, f_X3_isSeen (kp (3 * c + j)) n S1 = some (b2 y) → f_L_can (iv (c : Int)) (iv (j : Int)) n S = some (0, setL 67 (b2 y).toInt64 S1) := fun y hy => by
      unfold f_L_can f_X5_can
      rw [d_speedOf hc2 hj, bxr, e1, ob, hy, ob, zb_ok (b2_or _), ob, bhr]
      show (((if b2 y = 0 then (some 0) else (some 1)) : Option Int64).bind _) = _
      rw [zL, ob]
      rfl
    cases hn : okB (-50) 50 n with
    | false =>
      have hno : ¬ (-50 ≤ n.toInt ∧ n.toInt ≤ 50) := fun z => by rw [okB_iff.mpr z] at hn; cases hn
      have e2 : f_X3_isSeen (kp (3 * c + j)) n S1 = some (b2 false) := by
        unfold f_X3_isSeen
        simp only [fa_lt, zm50, z50]
        by_cases c1 : n.toInt < -50
        · rw [if_pos c1]; rfl
        · rw [if_neg c1, if_pos (by omega)]; rfl
      refine ⟨0, _, 0, setF 48 0 0 (setL 67 (b2 false).toInt64 S1), desk false e2, ?_, st_eq _ _ _ _, fun _ => ⟨by rw [st_2]; exact sl_eq _ _ _, Or.inl rfl⟩, V, (i1.out _).thr 0⟩
      unfold f_X6_can
      rw [stF_ok, ob, m_noSpeed, ob, hc, thr_y, if_pos b2f, m_in50, ob, hn, if_pos (by decide)]
    | true =>
      have hb := okB_iff.mp hn
      obtain ⟨v, hv⟩ : ∃ v, v = n.toInt := ⟨_, rfl⟩
      have en : n = iv v := by rw [hv, iv_of]
      have hv5 : -50 ≤ v ∧ v ≤ 50 := by omega
      obtain ⟨y, hy, hyP⟩ : ∃ y : Bool, f_X3_isSeen (kp (3 * c + j)) n S1 = some (b2 y) ∧ (y = true ↔ Sn V 0 (-1) (3 * c + j) v) := by
        rw [en, s_isSeen hv5]
        rcases g1 _ hr v hv5.1 hv5.2 with ⟨p1, p2⟩ | ⟨p1, p2⟩
        · exact ⟨true, by rw [p1]; rfl, fun _ => p2, fun _ => rfl⟩
        · exact ⟨false, by rw [p1]; rfl, fun z => (by cases z), fun z => absurd z p2⟩
      obtain ⟨S2, e2, i2, -, l67, h48, -, g2⟩ := ((i1.out (b2 y).toInt64).thr 0).go 0 (w := -1) (by decide)
      have e2 : f_X6_goes 0 (-1) (setF 48 0 0 (setL 67 (b2 y).toInt64 S1)) = some (b2 (decide (0 < nW V 0 (-1))), S2) := e2
      refine ⟨0, _, b2 y, S2, desk y hy, ?_, by rw [h48, st_eq], fun _ => ⟨by rw [l67, st_2]; exact sl_eq _ _ _, b2_or y⟩, V, i2⟩
      unfold f_X6_can
      rw [stF_ok, ob, m_noSpeed, ob, hc, thr_y, if_pos b2f, m_in50, ob, hn, if_neg (by decide)]
      show ((f_X6_goes 0 (-1) (setF 48 0 0 (setL 67 (b2 y).toInt64 S1))).bind _) = _
      rw [e2, ob]
      cases hw : decide (0 < nW V 0 (-1)) with
      | false =>
        have : y = false := by
          cases hy2 : y with
          | false => rfl
          | true =>
            have := Sn_pos (hyP.mp hy2)
            rw [decide_eq_true this] at hw
            cases hw
        rw [if_pos b2f, this]
        rfl
      | true =>
        rw [if_neg b2t, er, en, r_cell, ob, rdC (by omega) hv5, ob]
        rcases g2 _ hr v hv5.1 hv5.2 with ⟨p1, p2⟩ | ⟨p1, p2⟩
        · rw [p1, if_neg (by decide), hyP.mpr p2]
          rfl
        · have : y = false := by
            cases hy2 : y with
            | false => rfl
            | true => exact absurd (hyP.mp hy2) p2
          rw [p1, if_pos rfl, this]
          rfl
/-- how many skids count, of the first n -/
def onN (V : Vw) (n : Nat) : Nat := fb_sm (fun s => if kOn V s then 1 else 0) n
theorem onN_s (V : Vw) (n : Nat) : onN V (n + 1) = onN V n + (if kOn V n then 1 else 0) := fb_sm_succ _ _
theorem b_count {V : Vw} {S : QS} (h : IV V S) (a : Int32) : ∃ x S2, f_X5_count a S = some x ∧ f_X6_count a S = some (x, S2) ∧ Inv S2 := by
  obtain ⟨hV, hD, hC, hM, h18⟩ := id h
  have h12 : vNs V ≤ 12 := hV.2.2.1
  have hz := h.thr 0
  have e1 : f_X5_countingSkids S = some (iv (onN V (vNs V) : Int)) := by
    have main := loopN (fun fuel v s => lp_X5_countingSkids_4 S fuel s v) id (fun n s => s = iv (onN V n : Int)) (vNs V) (by omega)
      (fun fuel s hI => by
        show lp_X5_countingSkids_4 S (fuel + 1) s (iv (vNs V : Int)) = some s
        rw [lp_X5_countingSkids_4, hD.2.2.1, if_pos (y_le (a := (vNs V : Int)) (b := (vNs V : Int)) (Int.le_refl _))])
      (fun fuel n s hlt hI => by
        have hI : s = iv (onN V n : Int) := hI
        subst hI
        refine ⟨iv (onN V (n + 1) : Int), ?_, rfl⟩
        show lp_X5_countingSkids_4 S (fuel + 1) (iv (onN V n : Int)) (iv (n : Int)) = lp_X5_countingSkids_4 S fuel (iv (onN V (n + 1) : Int)) (iv ((n + 1 : Nat) : Int))
        rw [lp_X5_countingSkids_4, hD.2.2.1, if_neg (n_le (a := (vNs V : Int)) (b := (n : Int)) (by omega)), rq_iv (by omega), ob, (hD.2.2.2.2.1 n hlt).2.2.2.2, onN_s, iv_one]
        cases kOn V n with
        | false => rw [if_pos (by decide), ob, c_0, iv_add]; rfl
        | true => rw [if_neg (by decide), ob, c_1, iv_add]; rfl)
      0 rfl
    obtain ⟨s1, e, i⟩ := main
    have i : s1 = iv (onN V (vNs V) : Int) := i
    subst i
    unfold f_X5_countingSkids
    rw [c_0]
    rw [c_0] at e
    exact e
  have e2 : ∀ T : QS, MR V T → lp_X6_count_51 T FU 0 0 = some (iv (onN V (vNs V) : Int), T) := fun T hT => by
    have main := loopN (fun fuel v s => lp_X6_count_51 T fuel s v) (fun s => (s, T)) (fun n s => s = iv (onN V n : Int)) (vNs V) (by omega)
      (fun fuel s hI => by
        show lp_X6_count_51 T (fuel + 1) s (iv (vNs V : Int)) = some (s, T)
        rw [lp_X6_count_51, hT.2.2.1, if_pos (y_le (a := (vNs V : Int)) (b := (vNs V : Int)) (Int.le_refl _))])
      (fun fuel n s hlt hI => by
        have hI : s = iv (onN V n : Int) := hI
        subst hI
        refine ⟨iv (onN V (n + 1) : Int), ?_, rfl⟩
        show lp_X6_count_51 T (fuel + 1) (iv (onN V n : Int)) (iv (n : Int)) = lp_X6_count_51 T fuel (iv (onN V (n + 1) : Int)) (iv ((n + 1 : Nat) : Int))
        rw [lp_X6_count_51, hT.2.2.1, if_neg (n_le (a := (vNs V : Int)) (b := (n : Int)) (by omega)), rd_iv (by omega), ob, Int.toNat_natCast, (hT.2.2.2.2.1 n hlt).2.2.2.2, onN_s, iv_one]
        cases kOn V n with
        | false => rw [if_neg (by decide), ob, c_0, iv_add]; rfl
        | true => rw [if_pos (by decide), ob, c_1, iv_add]; rfl)
      0 rfl
    obtain ⟨s1, e, i⟩ := main
    have i : s1 = iv (onN V (vNs V) : Int) := i
    subst i
    rw [c_0]
    rw [c_0] at e
    exact e
  have hMz := hz.2.2.2.1
  unfold f_X5_count f_X6_count
  rw [stF_ok, ob]
  by_cases c0 : a = 0
  · exact ⟨_, _, by rw [if_pos c0], by rw [if_pos c0, hMz.2.2.1, hD.2.2.1], V, hz⟩
  by_cases c1 : a = 1
  · exact ⟨_, _, by rw [if_neg c0, if_pos c1, e1, ob], by rw [if_neg c0, if_pos c1]; exact e2 _ hMz, V, hz⟩
  by_cases c2 : a = 2
  · exact ⟨_, _, by rw [if_neg c0, if_neg c1, if_pos c2], by rw [if_neg c0, if_neg c1, if_pos c2, hMz.2.2.2.1, hD.2.2.2.1], V, hz⟩
  by_cases c3 : a = 3
  · exact ⟨_, _, by rw [if_neg c0, if_neg c1, if_neg c2, if_pos c3], by rw [if_neg c0, if_neg c1, if_neg c2, if_pos c3, c3, show (3 : Int32) - 3 = 0 by decide, rdM0 hMz, ob, hD.1.1], V, hz⟩
  by_cases c4 : a = 4
  · exact ⟨_, _, by rw [if_neg c0, if_neg c1, if_neg c2, if_neg c3, if_pos c4], by rw [if_neg c0, if_neg c1, if_neg c2, if_neg c3, if_pos c4, c4, show (4 : Int32) - 3 = 1 by decide, rdM1 hMz, ob, hD.1.2], V, hz⟩
  exact ⟨_, _, by rw [if_neg c0, if_neg c1, if_neg c2, if_neg c3, if_neg c4], by rw [if_neg c0, if_neg c1, if_neg c2, if_neg c3, if_neg c4], V, hz⟩
/-- AT ODDS, of the first n skids -/
def odP (V : Vw) (s : Nat) : Bool := kOn V s && decide (0 < nW V 0 (s : Int))
theorem or_bit (V : Vw) (p : Nat → Bool) {n : Nat} {x : Int32} (hx : x = if p n then nI (2 ^ n) else 0) : nI (bN p n) ||| x = nI (bN p (n + 1)) := by
  rw [hx, bN_s]
  cases p n with
  | false => rw [if_neg (by decide), if_neg (by decide), Nat.add_zero, ← nI_0, fa_or, Nat.or_zero]
  | true => rw [if_pos rfl, if_pos rfl, or_pow (bN_lt _ _)]
theorem b_odds {V : Vw} {S : QS} (h : IV V S) : ∃ x S1 S2, f_X5_odds S = some (x, S1) ∧ f_X6_odds S1 = some (x, S2) ∧ Inv S2 := by
  have h12 : vNs V ≤ 12 := h.1.2.2.1
  obtain ⟨S0, e0, i0, -, l0, -, -⟩ := h.ask (set := 0) (by decide) (w := -1) (by decide)
  have e0 : f_X5_reckon 0 (-1) S = some S0 := e0
  have model : ∀ T, IV V T → ∃ T1, IV V T1 ∧ f_X6_odds T = if decide (0 < nW V 0 (-1)) = true then some (0, T1) else lp_X6_odds_20 FU 0 0 T1 := fun T hT => by
    obtain ⟨T1, e2, i2, -, -, -, -, -⟩ := (hT.thr 0).go 0 (w := -1) (by decide)
    have e2 : f_X6_goes 0 (-1) (setF 48 0 0 T) = some (b2 (decide (0 < nW V 0 (-1))), T1) := e2
    refine ⟨T1, i2, ?_⟩
    unfold f_X6_odds
    rw [stF_ok, ob, e2, ob]
    cases decide (0 < nW V 0 (-1)) <;> rfl
  cases hw : decide (0 < nW V 0 (-1)) with
  | true =>
    obtain ⟨T1, i1, e1⟩ := model S0 i0
    refine ⟨0, S0, T1, ?_, by rw [e1, hw, if_pos rfl], V, i1⟩
    unfold f_X5_odds
    rw [e0, ob, l0, le0_b nW_63, hw, if_pos rfl]
  | false =>
    have main := loopN (fun fuel v (s : Int32 × QS) => lp_X5_odds_24 fuel s.1 v s.2) id (fun n s => s.1 = nI (bN (odP V) n) ∧ IV V s.2) (vNs V) (by omega)
      (fun fuel s hI => by
        show lp_X5_odds_24 (fuel + 1) s.1 (iv (vNs V : Int)) s.2 = some s
        rw [lp_X5_odds_24, hI.2.2.1.2.2.1, if_pos (y_le (a := (vNs V : Int)) (b := (vNs V : Int)) (Int.le_refl _))])
      (fun fuel n s hlt hI => by
        obtain ⟨x, T⟩ := s
        obtain ⟨hx, hT⟩ := hI
        have hx : x = nI (bN (odP V) n) := hx
        have hT : IV V T := hT
        subst hx
        have d4 := (hT.2.1.2.2.2.2.1 n hlt).2.2.2.2
        cases hon : kOn V n with
        | false =>
          refine ⟨(nI (bN (odP V) (n + 1)), T), ?_, rfl, hT⟩
          show lp_X5_odds_24 (fuel + 1) (nI (bN (odP V) n)) (iv (n : Int)) T = lp_X5_odds_24 fuel (nI (bN (odP V) (n + 1))) (iv ((n + 1 : Nat) : Int)) T
          have eo : odP V n = false := by unfold odP; rw [hon, Bool.false_and]
          rw [lp_X5_odds_24, hT.2.1.2.2.1, if_neg (n_le (a := (vNs V : Int)) (b := (n : Int)) (by omega)), rq_iv (by omega), ob, d4, hon, if_pos (by decide), bN_s, eo, if_neg (by decide), Nat.add_zero, iv_one]
          rfl
        | true =>
          obtain ⟨T1, e1, i1, -, l1, -, -⟩ := hT.ask (set := 0) (by decide) (w := (n : Int)) (by omega)
          have e1 : f_X5_reckon 0 (iv (n : Int)) T = some T1 := e1
          refine ⟨(nI (bN (odP V) (n + 1)), T1), ?_, rfl, i1⟩
          show lp_X5_odds_24 (fuel + 1) (nI (bN (odP V) n)) (iv (n : Int)) T = lp_X5_odds_24 fuel (nI (bN (odP V) (n + 1))) (iv ((n + 1 : Nat) : Int)) T1
          rw [lp_X5_odds_24, hT.2.1.2.2.1, if_neg (n_le (a := (vNs V : Int)) (b := (n : Int)) (by omega)), rq_iv (by omega), ob, d4, hon, if_neg (by decide), e1, ob, l1, le0_b nW_63, shl_iv (by omega), iv_one]
          have eo : odP V n = decide (0 < nW V 0 (n : Int)) := by unfold odP; rw [hon, Bool.true_and]
          have fin : ∀ y : Int32, y = (if odP V n then nI (2 ^ n) else 0) → lp_X5_odds_24 fuel (nI (bN (odP V) n) ||| y) (iv ((n : Int) + 1)) T1 = lp_X5_odds_24 fuel (nI (bN (odP V) (n + 1))) (iv ((n + 1 : Nat) : Int)) T1 := fun y hy => by
            rw [or_bit V (odP V) hy]
            rfl
          cases hp : decide (0 < nW V 0 (n : Int)) with
          | true => rw [if_pos rfl, ob]; exact fin _ (by rw [eo, hp, if_pos rfl])
          | false => rw [if_neg (by decide), ob]; exact fin _ (by rw [eo, hp, if_neg (by decide)]))
      (0, S0) ⟨rfl, i0⟩
    obtain ⟨⟨x, S1⟩, e1, hx, i1⟩ := main
    have hx : x = nI (bN (odP V) (vNs V)) := hx
    have i1 : IV V S1 := i1
    subst hx
    obtain ⟨T0, j0, eT⟩ := model S1 i1
    have main2 := loopN (fun fuel v (s : Int32 × QS) => lp_X6_odds_20 fuel s.1 v s.2) id (fun n s => s.1 = nI (bN (odP V) n) ∧ IV V s.2) (vNs V) (by omega)
      (fun fuel s hI => by
        show lp_X6_odds_20 (fuel + 1) s.1 (iv (vNs V : Int)) s.2 = some s
        rw [lp_X6_odds_20, hI.2.2.2.2.1.2.2.1, if_pos (y_le (a := (vNs V : Int)) (b := (vNs V : Int)) (Int.le_refl _))])
      (fun fuel n s hlt hI => by
        obtain ⟨x, T⟩ := s
        obtain ⟨hx, hT⟩ := hI
        have hx : x = nI (bN (odP V) n) := hx
        have hT : IV V T := hT
        subst hx
        have m4 := (hT.2.2.2.1.2.2.2.2.1 n hlt).2.2.2.2
        cases hon : kOn V n with
        | false =>
          refine ⟨(nI (bN (odP V) (n + 1)), T), ?_, rfl, hT⟩
          show lp_X6_odds_20 (fuel + 1) (nI (bN (odP V) n)) (iv (n : Int)) T = lp_X6_odds_20 fuel (nI (bN (odP V) (n + 1))) (iv ((n + 1 : Nat) : Int)) T
          have eo : odP V n = false := by unfold odP; rw [hon, Bool.false_and]
          rw [lp_X6_odds_20, hT.2.2.2.1.2.2.1, if_neg (n_le (a := (vNs V : Int)) (b := (n : Int)) (by omega)), rd_iv (by omega), ob, Int.toNat_natCast, m4, hon, if_neg (by decide), ob]
          show lp_X6_odds_20 fuel (nI (bN (odP V) n) ||| 0) (iv (n : Int) + 1) T = _
          rw [or_bit V (odP V) (x := 0) (by rw [eo, if_neg (by decide)]), iv_one]
          rfl
        | true =>
          obtain ⟨T1, e1, i1, -, -, -, -, -⟩ := hT.go 0 (w := (n : Int)) (by omega)
          have e1 : f_X6_goes 0 (iv (n : Int)) T = some (b2 (decide (0 < nW V 0 (n : Int))), T1) := e1
          refine ⟨(nI (bN (odP V) (n + 1)), T1), ?_, rfl, i1⟩
          show lp_X6_odds_20 (fuel + 1) (nI (bN (odP V) n)) (iv (n : Int)) T = lp_X6_odds_20 fuel (nI (bN (odP V) (n + 1))) (iv ((n + 1 : Nat) : Int)) T1
          have eo : odP V n = decide (0 < nW V 0 (n : Int)) := by unfold odP; rw [hon, Bool.true_and]
          rw [lp_X6_odds_20, hT.2.2.2.1.2.2.1, if_neg (n_le (a := (vNs V : Int)) (b := (n : Int)) (by omega)), rd_iv (by omega), ob, Int.toNat_natCast, m4, hon, if_pos (by decide), e1, ob, shl_iv (by omega)]
          have fin : ∀ y : Int32, y = (if odP V n then nI (2 ^ n) else 0) → lp_X6_odds_20 fuel (nI (bN (odP V) n) ||| y) (iv (n : Int) + 1) T1 = lp_X6_odds_20 fuel (nI (bN (odP V) (n + 1))) (iv ((n + 1 : Nat) : Int)) T1 := fun y hy => by
            rw [or_bit V (odP V) hy, iv_one]
            rfl
          cases hp : decide (0 < nW V 0 (n : Int)) with
          | true => exact fin _ (by rw [eo, hp, if_pos rfl])
          | false => exact fin _ (by rw [eo, hp, if_neg (by decide)]))
      (0, T0) ⟨rfl, j0⟩
    obtain ⟨⟨x, S2⟩, e2, hx, i2⟩ := main2
    have hx : x = nI (bN (odP V) (vNs V)) := hx
    have i2 : IV V S2 := i2
    subst hx
    refine ⟨nI (bN (odP V) (vNs V)), S1, S2, ?_, ?_, V, i2⟩
    · unfold f_X5_odds
      rw [e0, ob, l0, le0_b nW_63, hw, if_neg (by decide)]
      rw [c_0]
      rw [← c_0] at e1 ⊢
      exact e1
    · rw [eT, hw, if_neg (by decide)]
      exact e2
/-! the fewest, and which -/
theorem b_best {V : Vw} {S : QS} (h : IV V S) {S1 : QS} (hP : MinP (S1.1 25 3) (PW V 0 (-1))) {v : Int32} (hB : Best (WM V) (2 ^ vNt V) v) : (S1.1 25 3 = -1 ∧ v = -1) ∨ ∃ m, m < 1024 ∧ v = nI m ∧ S1.1 25 3 = iv ((1024 * pc m + m : Nat) : Int) := by
  have hp := pow_le10 h.1
  rcases hP with ⟨p1, p2⟩ | ⟨x, p1, p2, p3, p4⟩
  · rcases hB with ⟨b1, -⟩ | ⟨m, -, -, b3, -⟩
    · exact Or.inl ⟨p1, b1⟩
    · exact absurd ((PW_WM h.1 _).mpr ⟨m, b3, rfl⟩) (p2 _)
  · obtain ⟨m0, q1, q2⟩ := (PW_WM h.1 x).mp p3
    have hm0 := WM_lt q1
    rcases hB with ⟨-, b2⟩ | ⟨m, b1, b2, b3, b4⟩
    · exact absurd q1 (b2 m0 hm0)
    · have c1 := b4 m0 hm0 q1
      have c2 := p4 _ ((PW_WM h.1 _).mpr ⟨m, b3, rfl⟩)
      have e : m0 = m := by
        rcases c1 with c1 | ⟨c1, c3⟩
        · omega
        · omega
      subst e
      exact Or.inr ⟨m0, by omega, b2, by rw [p1, q2]⟩
theorem pm_div {m : Nat} (h : m < 1024) : dvI (iv ((1024 * pc m + m : Nat) : Int)) 1024 = some (nI (pc m)) ∧ rmI (iv ((1024 * pc m + m : Nat) : Int)) 1024 = some (nI m) := by
  have hp := pc_le m
  have e : (((1024 * pc m + m : Nat) : Int)).tdiv 1024 = (pc m : Int) := by
    rw [show (1024 : Int) = ((1024 : Nat) : Int) from rfl, ← Int.ofNat_tdiv]
    congr 1
    omega
  constructor
  · rw [c_1024, dv_iv (by omega) (by omega), e, iv_nI]
  · rw [c_1024, rm_iv (by omega) (by omega), e, iv_nI]
    congr 2
    omega
theorem b_wrong {V : Vw} {S : QS} (h : IV V S) : ∃ x S1 S2, f_X5_wrong S = some (x, S1) ∧ f_X6_wrong S1 = some (x, S2) ∧ Inv S2 := by
  obtain ⟨S1, e1, i1, -, -, -, hP⟩ := h.ask (set := 0) (by decide) (w := -1) (by decide)
  have e1 : f_X5_reckon 0 (-1) S = some S1 := e1
  have iz := i1.thr 0
  obtain ⟨v, S2, e2, hB, lo, ll, hM2, h18, -, -⟩ := r_fewest iz.1 iz.2.2.2.1 iz.2.2.2.2
  have i2 : IV V S2 := iz.md lo (ll 25 (by decide)) hM2 h18
  unfold f_X5_wrong f_X6_wrong
  rw [e1, ob]
  rcases b_best h hP hB with ⟨q1, q2⟩ | ⟨m, m1, q2, q1⟩
  · refine ⟨-1, S1, S2, by rw [q1, if_pos rfl], ?_, V, i2⟩
    rw [stF_ok, ob, e2, ob, q2, if_neg (show ¬ (0 : Int32) ≤ -1 by decide)]
  · have hp := pc_le m
    refine ⟨nI (pc m), S1, S2, ?_, ?_, V, i2⟩
    · rw [q1, if_neg (iv_nm1 (by omega)), (pm_div m1).1, ob]
    · rw [stF_ok, ob, e2, ob, q2, if_pos (show (0 : Int32) ≤ nI m by rw [iv_nI, c_0]; exact y_le (by omega)), r_bits m1, ob]
theorem b_which {V : Vw} {S : QS} (h : IV V S) : ∃ x S1 S2, f_X5_which S = some (x, S1) ∧ f_X6_which S1 = some (x, S2) ∧ Inv S2 := by
  obtain ⟨S1, e1, i1, -, -, -, hP⟩ := h.ask (set := 0) (by decide) (w := -1) (by decide)
  have e1 : f_X5_reckon 0 (-1) S = some S1 := e1
  have iz := i1.thr 0
  obtain ⟨v, S2, e2, hB, lo, ll, hM2, h18, -, -⟩ := r_fewest iz.1 iz.2.2.2.1 iz.2.2.2.2
  have i2 : IV V S2 := iz.md lo (ll 25 (by decide)) hM2 h18
  unfold f_X5_which f_X6_which
  rw [e1, ob]
  rcases b_best h hP hB with ⟨q1, q2⟩ | ⟨m, m1, q2, q1⟩
  · refine ⟨-1, S1, S2, by rw [q1, if_pos rfl], ?_, V, i2⟩
    rw [stF_ok, ob, e2, ob, q2]
  · have hp := pc_le m
    refine ⟨nI m, S1, S2, ?_, ?_, V, i2⟩
    · rw [q1, if_neg (iv_nm1 (by omega)), (pm_div m1).2, ob]
    · rw [stF_ok, ob, e2, ob, q2]
end
section
/-! THE LAW: every case answers alike, every run goes through -/
theorem rdx {L : Nat} {xs : Nat → Int32} {i : Nat} (j : Nat) (h : i + j < L) (hL : L ≤ 100000) : rdX L xs (iv (i : Int) + iv (j : Int)) = some (xs (i + j)) := by
  unfold rdX
  rw [iv_add, iv_nat (by omega), if_pos (by
    intro z
    rcases z with z | z
    · rw [c_0, iv_lt (by omega) (by omega)] at z
      omega
    · omega)]
  congr 2
theorem zb2 (x : Int32) : ((if x = 0 then (some 0) else (some 1)) : Option Int32) = some (b2 (!decide (x = 0))) := by
  by_cases c : x = 0
  · rw [if_pos c, decide_eq_true c]; rfl
  · rw [if_neg c, decide_eq_false c]; rfl
theorem lwq_L {S2 : QS} {k y : Int32} (h : k = 0 → S2.2 67 = y.toInt64) : (if k = 0 then (if (lg_cmp (S2.2 67) y.toInt64) = 0 then (some S2) else (none)) else (some S2)) = some S2 := by
  by_cases c : k = 0
  · rw [if_pos c, h c, if_pos (cmp_self _)]
  · rw [if_neg c]
theorem lwq_Z {S2 : QS} {k y : Int32} (h : k = 0 → S2.2 67 = y.toInt64 ∧ (y = 0 ∨ y = 1)) : (if k = 0 then (((if y = 0 then (some 0) else (some 1)) : Option Int64).bind fun q17 => if (lg_cmp (S2.2 67) q17) = 0 then (some S2) else (none)) else (some S2)) = some S2 := by
  by_cases c : k = 0
  · obtain ⟨h1, h2⟩ := h c
    rw [if_pos c, h1]
    rcases h2 with rfl | rfl
    · rw [if_pos rfl, ob]
      rfl
    · rw [if_neg (by decide), ob]
      rfl
  · rw [if_neg c]
theorem rdx1 {L : Nat} {xs : Nat → Int32} {i : Nat} (h : i + 7 ≤ L) (hL : L ≤ 100000) : rdX L xs (iv (i : Int) + 1) = some (xs (i + 1)) := rdx 1 (by omega) hL
theorem rdx2 {L : Nat} {xs : Nat → Int32} {i : Nat} (h : i + 7 ≤ L) (hL : L ≤ 100000) : rdX L xs (iv (i : Int) + 2) = some (xs (i + 2)) := rdx 2 (by omega) hL
theorem rdx3 {L : Nat} {xs : Nat → Int32} {i : Nat} (h : i + 7 ≤ L) (hL : L ≤ 100000) : rdX L xs (iv (i : Int) + 3) = some (xs (i + 3)) := rdx 3 (by omega) hL
theorem rdx4 {L : Nat} {xs : Nat → Int32} {i : Nat} (h : i + 7 ≤ L) (hL : L ≤ 100000) : rdX L xs (iv (i : Int) + 4) = some (xs (i + 4)) := rdx 4 (by omega) hL
theorem rdx5 {L : Nat} {xs : Nat → Int32} {i : Nat} (h : i + 7 ≤ L) (hL : L ≤ 100000) : rdX L xs (iv (i : Int) + 5) = some (xs (i + 5)) := rdx 5 (by omega) hL
theorem rdx6 {L : Nat} {xs : Nat → Int32} {i : Nat} (h : i + 7 ≤ L) (hL : L ≤ 100000) : rdX L xs (iv (i : Int) + 6) = some (xs (i + 6)) := rdx 6 (by omega) hL
theorem law_0 {L : Nat} {xs : Nat → Int32} {i : Nat} (hi : i + 7 ≤ L) (hL : L ≤ 100000) {S : QS} (hI : Inv S) : ∃ S1, st_law_0 L xs (iv (i : Int)) S = some S1 ∧ Inv S1 := by
  obtain ⟨V, h⟩ := hI
  obtain ⟨k, S1, S2, e1, e2, e3, e4⟩ := b_mass h (xs (i + 1)) (xs (i + 2))
  refine ⟨S2, ?_, e4⟩
  unfold st_law_0
  rw [rdx1 hi hL, ob, rdx2 hi hL, ob, e1, ob, ob, ob]
  show ((f_X6_mass (xs (i + 1)) (xs (i + 2)) S1).bind _) = _
  rw [e2, ob]
  show (if S2.1 48 0 = k then (some S2) else (none)) = _
  rw [if_pos e3]
theorem law_1 {L : Nat} {xs : Nat → Int32} {i : Nat} (hi : i + 7 ≤ L) (hL : L ≤ 100000) {S : QS} (hI : Inv S) : ∃ S1, st_law_1 L xs (iv (i : Int)) S = some S1 ∧ Inv S1 := by
  obtain ⟨V, h⟩ := hI
  obtain ⟨k, S1, y, S2, e1, e2, e3, e4, e5⟩ := b_skid h (xs (i + 1)) (!decide (xs (i + 2) = 0)) (xs (i + 3)) (xs (i + 4)) (xs (i + 5)) (xs (i + 6))
  refine ⟨S2, ?_, e5⟩
  unfold st_law_1
  rw [rdx1 hi hL, ob, rdx2 hi hL, ob, zb2, ob, rdx3 hi hL, ob, rdx4 hi hL, ob, rdx5 hi hL, ob, rdx6 hi hL, ob, e1, ob, ob, ob, zb2, ob, ob, ob, ob, ob]
  show ((f_X6_skid (xs (i + 1)) (b2 (!decide (xs (i + 2) = 0))) (xs (i + 3)) (xs (i + 4)) (xs (i + 5)) (xs (i + 6)) S1).bind _) = _
  rw [e2, ob]
  show (if S2.1 48 0 = k then _ else (none)) = _
  rw [if_pos e3]
  exact lwq_L e4
theorem law_2 {L : Nat} {xs : Nat → Int32} {i : Nat} (hi : i + 7 ≤ L) (hL : L ≤ 100000) {S : QS} (hI : Inv S) : ∃ S1, st_law_2 L xs (iv (i : Int)) S = some S1 ∧ Inv S1 := by
  obtain ⟨V, h⟩ := hI
  obtain ⟨k, S1, y, S2, e1, e2, e3, e4, e5⟩ := b_drop h (xs (i + 1)) (!decide (xs (i + 2) = 0))
  refine ⟨S2, ?_, e5⟩
  unfold st_law_2
  rw [rdx1 hi hL, ob, rdx2 hi hL, ob, zb2, ob, e1, ob, ob, ob, zb2, ob]
  show ((f_X6_drop (xs (i + 1)) (b2 (!decide (xs (i + 2) = 0))) S1).bind _) = _
  rw [e2, ob]
  show (if S2.1 48 0 = k then _ else (none)) = _
  rw [if_pos e3]
  exact lwq_Z e4
theorem law_3 {L : Nat} {xs : Nat → Int32} {i : Nat} (hi : i + 7 ≤ L) (hL : L ≤ 100000) {S : QS} (hI : Inv S) : ∃ S1, st_law_3 L xs (iv (i : Int)) S = some S1 ∧ Inv S1 := by
  obtain ⟨V, h⟩ := hI
  obtain ⟨k, S1, S2, e1, e2, e3, e4⟩ := b_sure h (xs (i + 1)) (xs (i + 2)) (xs (i + 3)) (xs (i + 4))
  refine ⟨S2, ?_, e4⟩
  unfold st_law_3
  rw [rdx1 hi hL, ob, rdx2 hi hL, ob, rdx3 hi hL, ob, rdx4 hi hL, ob, e1, ob, ob, ob, ob, ob]
  show ((f_X6_sure (xs (i + 1)) (xs (i + 2)) (xs (i + 3)) (xs (i + 4)) S1).bind _) = _
  rw [e2, ob]
  show (if S2.1 48 0 = k then (some S2) else (none)) = _
  rw [if_pos e3]
theorem law_4 {L : Nat} {xs : Nat → Int32} {i : Nat} (hi : i + 7 ≤ L) (hL : L ≤ 100000) {S : QS} (hI : Inv S) : ∃ S1, st_law_4 L xs (iv (i : Int)) S = some S1 ∧ Inv S1 := by
  obtain ⟨V, h⟩ := hI
  obtain ⟨k, S1, y, S2, e1, e2, e3, e4, e5⟩ := b_tale h (xs (i + 1)) (xs (i + 2)) (xs (i + 3)) (xs (i + 4))
  refine ⟨S2, ?_, e5⟩
  unfold st_law_4
  rw [rdx1 hi hL, ob, rdx2 hi hL, ob, rdx3 hi hL, ob, rdx4 hi hL, ob, e1, ob, ob, ob, ob, ob]
  show ((f_X6_tale (xs (i + 1)) (xs (i + 2)) (xs (i + 3)) (xs (i + 4)) S1).bind _) = _
  rw [e2, ob]
  show (if S2.1 48 0 = k then _ else (none)) = _
  rw [if_pos e3]
  exact lwq_L e4
theorem law_5 {L : Nat} {xs : Nat → Int32} {i : Nat} (hi : i + 7 ≤ L) (hL : L ≤ 100000) {S : QS} (hI : Inv S) : ∃ S1, st_law_5 L xs (iv (i : Int)) S = some S1 ∧ Inv S1 := by
  obtain ⟨V, h⟩ := hI
  obtain ⟨x, S1, S2, e1, e2, e3⟩ := b_hush h 
  refine ⟨S2, ?_, e3⟩
  unfold st_law_5
  rw [e1, ob]
  show ((f_X6_hush  S1).bind _) = _
  rw [e2, ob]
  rw [if_pos rfl]
theorem law_6 {L : Nat} {xs : Nat → Int32} {i : Nat} (hi : i + 7 ≤ L) (hL : L ≤ 100000) {S : QS} (hI : Inv S) : ∃ S1, st_law_6 L xs (iv (i : Int)) S = some S1 ∧ Inv S1 := by
  obtain ⟨V, h⟩ := hI
  obtain ⟨x, S1, S2, e1, e2, e3⟩ := b_ways h 
  refine ⟨S2, ?_, e3⟩
  unfold st_law_6
  rw [e1, ob]
  show ((f_X6_ways  S1).bind _) = _
  rw [e2, ob]
  rw [if_pos (cmp_self x)]
theorem law_7 {L : Nat} {xs : Nat → Int32} {i : Nat} (hi : i + 7 ≤ L) (hL : L ≤ 100000) {S : QS} (hI : Inv S) : ∃ S1, st_law_7 L xs (iv (i : Int)) S = some S1 ∧ Inv S1 := by
  obtain ⟨V, h⟩ := hI
  obtain ⟨k, S1, y, S2, e1, e2, e3, e4, e5⟩ := b_span h (xs (i + 1)) (xs (i + 2)) (!decide (xs (i + 3) = 0)) (!decide (xs (i + 4) = 0))
  refine ⟨S2, ?_, e5⟩
  unfold st_law_7
  rw [rdx1 hi hL, ob, rdx2 hi hL, ob, rdx3 hi hL, ob, zb2, ob, rdx4 hi hL, ob, zb2, ob, e1, ob, ob, ob, ob, zb2, ob, ob, zb2, ob]
  show ((f_X6_span (xs (i + 1)) (xs (i + 2)) (b2 (!decide (xs (i + 3) = 0))) (b2 (!decide (xs (i + 4) = 0))) S1).bind _) = _
  rw [e2, ob]
  show (if S2.1 48 0 = k then _ else (none)) = _
  rw [if_pos e3]
  exact lwq_L e4
theorem law_8 {L : Nat} {xs : Nat → Int32} {i : Nat} (hi : i + 7 ≤ L) (hL : L ≤ 100000) {S : QS} (hI : Inv S) : ∃ S1, st_law_8 L xs (iv (i : Int)) S = some S1 ∧ Inv S1 := by
  obtain ⟨V, h⟩ := hI
  obtain ⟨x, S1, S2, e1, e2, e3⟩ := b_fit h (xs (i + 1))
  refine ⟨S2, ?_, e3⟩
  unfold st_law_8
  rw [rdx1 hi hL, ob, e1, ob, ob]
  show ((f_X6_fit (xs (i + 1)) S1).bind _) = _
  rw [e2, ob]
  rw [if_pos rfl]
theorem law_9 {L : Nat} {xs : Nat → Int32} {i : Nat} (hi : i + 7 ≤ L) (hL : L ≤ 100000) {S : QS} (hI : Inv S) : ∃ S1, st_law_9 L xs (iv (i : Int)) S = some S1 ∧ Inv S1 := by
  obtain ⟨V, h⟩ := hI
  obtain ⟨x, S1, S2, e1, e2, e3⟩ := b_wrong h 
  refine ⟨S2, ?_, e3⟩
  unfold st_law_9
  rw [e1, ob]
  show ((f_X6_wrong  S1).bind _) = _
  rw [e2, ob]
  rw [if_pos rfl]
theorem law_10 {L : Nat} {xs : Nat → Int32} {i : Nat} (hi : i + 7 ≤ L) (hL : L ≤ 100000) {S : QS} (hI : Inv S) : ∃ S1, st_law_10 L xs (iv (i : Int)) S = some S1 ∧ Inv S1 := by
  obtain ⟨V, h⟩ := hI
  obtain ⟨x, S1, S2, e1, e2, e3⟩ := b_which h 
  refine ⟨S2, ?_, e3⟩
  unfold st_law_10
  rw [e1, ob]
  show ((f_X6_which  S1).bind _) = _
  rw [e2, ob]
  rw [if_pos rfl]
theorem law_11 {L : Nat} {xs : Nat → Int32} {i : Nat} (hi : i + 7 ≤ L) (hL : L ≤ 100000) {S : QS} (hI : Inv S) : ∃ S1, st_law_11 L xs (iv (i : Int)) S = some S1 ∧ Inv S1 := by
  obtain ⟨V, h⟩ := hI
  obtain ⟨x, S1, S2, e1, e2, e3⟩ := b_odds h 
  refine ⟨S2, ?_, e3⟩
  unfold st_law_11
  rw [e1, ob]
  show ((f_X6_odds  S1).bind _) = _
  rw [e2, ob]
  rw [if_pos rfl]
theorem law_12 {L : Nat} {xs : Nat → Int32} {i : Nat} (hi : i + 7 ≤ L) (hL : L ≤ 100000) {S : QS} (hI : Inv S) : ∃ S1, st_law_12 L xs (iv (i : Int)) S = some S1 ∧ Inv S1 := by
  obtain ⟨V, h⟩ := hI
  obtain ⟨k, S1, y, S2, e1, e2, e3, e4, e5⟩ := b_avoided h (xs (i + 1)) (xs (i + 2)) (xs (i + 3))
  refine ⟨S2, ?_, e5⟩
  unfold st_law_12
  rw [rdx1 hi hL, ob, rdx2 hi hL, ob, rdx3 hi hL, ob, e1, ob, ob, ob, ob]
  show ((f_X6_avoided (xs (i + 1)) (xs (i + 2)) (xs (i + 3)) S1).bind _) = _
  rw [e2, ob]
  show (if S2.1 48 0 = k then _ else (none)) = _
  rw [if_pos e3]
  exact lwq_L e4
theorem law_13 {L : Nat} {xs : Nat → Int32} {i : Nat} (hi : i + 7 ≤ L) (hL : L ≤ 100000) {S : QS} (hI : Inv S) : ∃ S1, st_law_13 L xs (iv (i : Int)) S = some S1 ∧ Inv S1 := by
  obtain ⟨V, h⟩ := hI
  obtain ⟨k, S1, y, S2, e1, e2, e3, e4, e5⟩ := b_look h (xs (i + 1)) (xs (i + 2))
  refine ⟨S2, ?_, e5⟩
  unfold st_law_13
  rw [rdx1 hi hL, ob, rdx2 hi hL, ob, e1, ob, ob, ob]
  show ((f_X6_look (xs (i + 1)) (xs (i + 2)) S1).bind _) = _
  rw [e2, ob]
  show (if S2.1 48 0 = k then _ else (none)) = _
  rw [if_pos e3]
  exact lwq_L e4
theorem law_14 {L : Nat} {xs : Nat → Int32} {i : Nat} (hi : i + 7 ≤ L) (hL : L ≤ 100000) {S : QS} (hI : Inv S) : ∃ S1, st_law_14 L xs (iv (i : Int)) S = some S1 ∧ Inv S1 := by
  obtain ⟨V, h⟩ := hI
  obtain ⟨k, S1, y, S2, e1, e2, e3, e4, e5⟩ := b_can h (xs (i + 1)) (xs (i + 2)) (xs (i + 3))
  refine ⟨S2, ?_, e5⟩
  unfold st_law_14
  rw [rdx1 hi hL, ob, rdx2 hi hL, ob, rdx3 hi hL, ob, e1, ob, ob, ob, ob]
  show ((f_X6_can (xs (i + 1)) (xs (i + 2)) (xs (i + 3)) S1).bind _) = _
  rw [e2, ob]
  show (if S2.1 48 0 = k then _ else (none)) = _
  rw [if_pos e3]
  exact lwq_Z e4
theorem law_15 {L : Nat} {xs : Nat → Int32} {i : Nat} (hi : i + 7 ≤ L) (hL : L ≤ 100000) {S : QS} (hI : Inv S) : ∃ S1, st_law_15 L xs (iv (i : Int)) S = some S1 ∧ Inv S1 := by
  obtain ⟨V, h⟩ := hI
  obtain ⟨x, S2, e1, e2, e3⟩ := b_count h (xs (i + 1))
  refine ⟨S2, ?_, e3⟩
  unfold st_law_15
  rw [rdx1 hi hL, ob, e1, ob, ob, e2, ob, if_pos rfl]
theorem law_st {L : Nat} {xs : Nat → Int32} {i : Nat} (hi : i + 7 ≤ L) (hL : L ≤ 100000) {S : QS} (hI : Inv S) (x : Int32) : ∃ S1, st_law L xs x (iv (i : Int)) S = some S1 ∧ Inv S1 := by
  unfold st_law
  by_cases c0 : x = 0
  · rw [if_pos c0]
    exact law_0 hi hL hI
  rw [if_neg c0]
  by_cases c1 : x = 1
  · rw [if_pos c1]
    exact law_1 hi hL hI
  rw [if_neg c1]
  by_cases c2 : x = 2
  · rw [if_pos c2]
    exact law_2 hi hL hI
  rw [if_neg c2]
  by_cases c3 : x = 3
  · rw [if_pos c3]
    exact law_3 hi hL hI
  rw [if_neg c3]
  by_cases c4 : x = 4
  · rw [if_pos c4]
    exact law_4 hi hL hI
  rw [if_neg c4]
  by_cases c5 : x = 5
  · rw [if_pos c5]
    exact law_5 hi hL hI
  rw [if_neg c5]
  by_cases c6 : x = 6
  · rw [if_pos c6]
    exact law_6 hi hL hI
  rw [if_neg c6]
  by_cases c7 : x = 7
  · rw [if_pos c7]
    exact law_7 hi hL hI
  rw [if_neg c7]
  by_cases c8 : x = 8
  · rw [if_pos c8]
    exact law_8 hi hL hI
  rw [if_neg c8]
  by_cases c9 : x = 9
  · rw [if_pos c9]
    exact law_9 hi hL hI
  rw [if_neg c9]
  by_cases c10 : x = 10
  · rw [if_pos c10]
    exact law_10 hi hL hI
  rw [if_neg c10]
  by_cases c11 : x = 11
  · rw [if_pos c11]
    exact law_11 hi hL hI
  rw [if_neg c11]
  by_cases c12 : x = 12
  · rw [if_pos c12]
    exact law_12 hi hL hI
  rw [if_neg c12]
  by_cases c13 : x = 13
  · rw [if_pos c13]
    exact law_13 hi hL hI
  rw [if_neg c13]
  by_cases c14 : x = 14
  · rw [if_pos c14]
    exact law_14 hi hL hI
  rw [if_neg c14]
  by_cases c15 : x = 15
  · rw [if_pos c15]
    exact law_15 hi hL hI
  rw [if_neg c15]
  exact ⟨S, rfl, hI⟩
theorem law_run {L : Nat} {xs : Nat → Int32} (hL : L ≤ 100000) : ∀ (d fuel i : Nat) (S : QS), d < fuel → i ≤ L → L < i + 7 * (d + 1) → Inv S → lp_law L xs fuel (iv (i : Int)) S = some () := by
  intro d
  induction d with
  | zero =>
    intro fuel i S h1 h2 h3 hI
    obtain ⟨f1, rfl⟩ : ∃ f1, fuel = f1 + 1 := ⟨fuel - 1, by omega⟩
    have e : Int32.ofNat L - 7 = iv ((L : Int) - 7) := by
      rw [show Int32.ofNat L = nI L from rfl, iv_nI, show (7 : Int32) = iv 7 from by decide, iv_sub]
    rw [lp_law, e, if_pos (y_lt (a := (L : Int) - 7) (b := (i : Int)) (by omega))]
  | succ d ih =>
    intro fuel i S h1 h2 h3 hI
    obtain ⟨f1, rfl⟩ : ∃ f1, fuel = f1 + 1 := ⟨fuel - 1, by omega⟩
    have e : Int32.ofNat L - 7 = iv ((L : Int) - 7) := by
      rw [show Int32.ofNat L = nI L from rfl, iv_nI, show (7 : Int32) = iv 7 from by decide, iv_sub]
    by_cases c : i + 7 ≤ L
    · have e0 : rdX L xs (iv (i : Int)) = some (xs i) := by
        have h := rdx (L := L) (xs := xs) (i := i) 0 (by omega) hL
        rw [iv_add] at h
        simpa using h
      obtain ⟨S1, q1, q2⟩ := law_st (xs := xs) c hL hI (xs i &&& 15)
      rw [lp_law, e, if_neg (n_lt (a := (L : Int) - 7) (b := (i : Int)) (by omega)), e0, ob, q1, ob, show iv (i : Int) + 7 = iv ((i + 7 : Nat) : Int) from by rw [show (7 : Int32) = iv 7 from by decide, iv_add]; rfl]
      exact ih f1 (i + 7) S1 (by omega) (by omega) (by omega) q2
    · rw [lp_law, e, if_pos (y_lt (a := (L : Int) - 7) (b := (i : Int)) (by omega))]
/-- what nobody has told anything of yet -/
def V0 : Vw := (fun _ => 10, fun _ => -50, fun _ => 50, 0, fun _ => (0, false, 0, 0, false), 0, fun _ => (0, 0, 0))
theorem inv_0 : Inv S0 := by
  refine ⟨V0, ⟨fun c _ => by show (1 : Int) ≤ 10 ∧ (10 : Int) ≤ 100; omega, fun r _ => by show (-50 : Int) ≤ -50 ∧ (-50 : Int) ≤ 50 ∧ (-50 : Int) ≤ 50 ∧ (50 : Int) ≤ 50; omega, Nat.zero_le _, fun s hs => absurd hs (Nat.not_lt_zero s), Nat.zero_le _, fun t ht => absurd ht (Nat.not_lt_zero t)⟩, ⟨⟨rfl, rfl⟩, fun r hr => ?_, rfl, rfl, fun s hs => absurd hs (Nat.not_lt_zero s), fun t ht => absurd ht (Nat.not_lt_zero t)⟩, Or.inl rfl, ⟨⟨rfl, rfl⟩, fun r hr => ?_, rfl, rfl, fun s hs => absurd hs (Nat.not_lt_zero s), fun s _ _ => rfl, fun t ht => absurd ht (Nat.not_lt_zero t)⟩, rfl⟩
  · rcases (show r = 0 ∨ r = 1 ∨ r = 2 ∨ r = 3 ∨ r = 4 ∨ r = 5 by omega) with rfl | rfl | rfl | rfl | rfl | rfl <;> exact ⟨rfl, rfl⟩
  · rcases (show r = 0 ∨ r = 1 ∨ r = 2 ∨ r = 3 ∨ r = 4 ∨ r = 5 by omega) with rfl | rfl | rfl | rfl | rfl | rfl <;> exact ⟨rfl, rfl⟩
theorem law_true {L : Nat} {xs : Nat → Int32} (hL : L ≤ 3584) : ∃ fuel, lp_law L xs fuel (nI 0) S0 = some () := by
  have h := law_run (L := L) (xs := xs) (by omega) L (L + 1) 0 S0 (by omega) (by omega) (by omega) inv_0
  exact ⟨L + 1, h⟩
end
