/-! ===== the day ===== -/
abbrev Dy : Type := Pr × Ty × (Nat → Nat) × (Nat → Nat) × Nat × (Nat → Option Nat) × (Nat → Option Nat)
abbrev dypr (D : Dy) : Pr := D.1
abbrev dyty (D : Dy) : Ty := D.2.1
abbrev dyos (D : Dy) : Nat → Nat := D.2.2.1
abbrev dyom (D : Dy) : Nat → Nat := D.2.2.2.1
abbrev dyn (D : Dy) : Nat := D.2.2.2.2.1
abbrev dyfo (D : Dy) : Nat → Option Nat := D.2.2.2.2.2.1
abbrev dyho (D : Dy) : Nat → Option Nat := D.2.2.2.2.2.2
def dyB (b : Nat) (D : Dy) : List PCell := [.inr (0, [.ref (b + 1), .ref (b + 3), .ref (b + 6), .ref (b + 7), .int (nI (dyn D)), .ref (b + 8), .ref (b + 9)])] ++ prB (b + 1) (dypr D) ++ tyB (b + 3) (dyty D) ++ [.inl (0, 100, fun j => nI (dyos D j)), .inl (0, 100, fun j => nI (dyom D j)), .inl (0, 60, fun j => oI (dyfo D j)), .inl (0, 60, fun j => oI (dyho D j))]
/-- a day behind minute m - 1 -/
def DyOk (P : Pl) (D : Dy) (m : Nat) : Prop := PrOk P (dypr D) m ∧ TyOk P (dyty D) ∧ dyn D ≤ m ∧ (∀ i, i < dyn D → isSh P (dyos D i) = true ∧ dyom D i < 100) ∧ (∀ k x, k < 60 → dyfo D k = some x → x < 100) ∧ (∀ k o, k < 60 → dyho D k = some o → o < 4)
def dBeg (P : Pl) (D : Dy) : Dy := (pBeg P (dypr D), (tysh (dyty D), tynl (dyty D), 0), dyos D, dyom D, 0, (fun j => if j < 60 then none else dyfo D j), (fun j => if j < 60 then none else dyho D j))
theorem fill_oI (n : Nat) (g : Nat → Option Nat) : (fun j => if j < n then (-9 : Int32) else oI (g j)) = fun j => oI (if j < n then none else g j) := by
  funext j
  split <;> rfl
theorem dBeg_ok (P : Pl) (D : Dy) : DyOk P (dBeg P D) 0 := by
  refine ⟨pBeg_ok P _, ⟨Nat.zero_le _, fun i hi => absurd hi (Nat.not_lt_zero _)⟩, Nat.le_refl _, fun i hi => absurd hi (Nat.not_lt_zero _), fun k x hk h => ?_, fun k x hk h => ?_⟩
  · have h : (if k < 60 then none else dyfo D k) = some x := h
    rw [if_pos hk] at h; cases h
  · have h : (if k < 60 then none else dyho D k) = some x := h
    rw [if_pos hk] at h; cases h
theorem pm_dbegin (P : Pl) (ok : PlOk P) (D : Dy) : PM mu_X0_begin 2 0 0 [.ref 0, .ref 10] (dyB 0 D ++ plB 10 P) (eqP none (dyB 0 (dBeg P D) ++ plB 10 P)) := by
  refine PM.start (Or.inl (by decide +kernel)) rfl rfl rfl ?_
  intro X hX hR hx hin
  refine PW.aload_n hX dX0_begin_0 rfl rfl ?_
  refine PW.getfield hX fl_X0_12 dX0_begin_1 rfl rfl ?_
  refine PW.aload_n hX dX0_begin_4 rfl rfl ?_
  refine PW.vV (h1 := dyB 0 (pBeg P (dypr D), dyty D, dyos D, dyom D, dyn D, dyfo D, dyho D) ++ plB 10 P) hX ml_X0_42 (pm_begin P ok (dypr D)) dX0_begin_5 [1, 2, 10, 11, 12, 13, 14, 15, 16, 17] rfl rfl rfl rfl rfl rfl rfl rfl rfl rfl rfl rfl rfl rfl rfl ?_
  refine PW.aload_n hX dX0_begin_8 rfl rfl ?_
  refine PW.getfield hX fl_X0_21 dX0_begin_9 rfl rfl ?_
  refine PW.iconst (v := nI 0) hX dX0_begin_12 (by decide) ?_
  refine PW.putI hX fp_X0_46 dX0_begin_13 rfl rfl ?_
  refine PW.aload_n hX dX0_begin_16 rfl rfl ?_
  refine PW.iconst (v := nI 0) hX dX0_begin_17 (by decide) ?_
  refine PW.putI hX fp_X0_32 dX0_begin_18 rfl rfl ?_
  refine PW.heap (h' := dyB 0 (pBeg P (dypr D), (tysh (dyty D), tynl (dyty D), 0), dyos D, dyom D, 0, dyfo D, dyho D) ++ plB 10 P) rfl ?_
  refine PW.aload_n hX dX0_begin_21 rfl rfl ?_
  refine PW.getfield hX fl_X0_36 dX0_begin_22 rfl rfl ?_
  refine PW.bipush (v := (-9)) hX dX0_begin_25 (by decide) ?_
  refine PW.sV (h1 := (dyB 0 (pBeg P (dypr D), (tysh (dyty D), tynl (dyty D), 0), dyos D, dyom D, 0, dyfo D, dyho D) ++ plB 10 P).set 8 (.inl (0, 60, fun j => if j < 60 then -9 else oI (dyfo D j)))) hX ml_X0_49 (pm_fill 60 (by decide) (fun j => oI (dyfo D j)) (-9)) dX0_begin_27 [8] rfl rfl rfl rfl rfl rfl rfl rfl rfl rfl rfl rfl ?_
  refine PW.heap (h' := dyB 0 (pBeg P (dypr D), (tysh (dyty D), tynl (dyty D), 0), dyos D, dyom D, 0, (fun j => if j < 60 then none else dyfo D j), dyho D) ++ plB 10 P) (by rw [fill_oI]; rfl) ?_
  refine PW.aload_n hX dX0_begin_30 rfl rfl ?_
  refine PW.getfield hX fl_X0_39 dX0_begin_31 rfl rfl ?_
  refine PW.bipush (v := (-9)) hX dX0_begin_34 (by decide) ?_
  refine PW.sV (h1 := (dyB 0 (pBeg P (dypr D), (tysh (dyty D), tynl (dyty D), 0), dyos D, dyom D, 0, (fun j => if j < 60 then none else dyfo D j), dyho D) ++ plB 10 P).set 9 (.inl (0, 60, fun j => if j < 60 then -9 else oI (dyho D j)))) hX ml_X0_49 (pm_fill 60 (by decide) (fun j => oI (dyho D j)) (-9)) dX0_begin_36 [9] rfl rfl rfl rfl rfl rfl rfl rfl rfl rfl rfl rfl ?_
  refine PW.vret hX hR dX0_begin_39 rfl rfl ?_
  exact ⟨rfl, by rw [fill_oI]; rfl⟩
def dNote (D : Dy) (k m : Nat) : Dy := (dypr D, dyty D, va_up (dyos D) (dyn D) k, va_up (dyom D) (dyn D) m, dyn D + 1, (match dyfo D k with | none => va_up (dyfo D) k (some m) | some _ => dyfo D), dyho D)
theorem pm_noteOut (D : Dy) (k m : Nat) (hn : dyn D < 100) (hk : k < 60) (hfo : ∀ x, dyfo D k = some x → x < 100) : PM mu_X0_noteOut 0 0 0 [.ref 0, .int (nI k), .int (nI m)] (dyB 0 D) (eqP none (dyB 0 (dNote D k m))) := by
  obtain ⟨pr, ty, os, om, n, fo, ho⟩ := D
  cases hf : fo k with
  | none =>
    have e : dNote (pr, ty, os, om, n, fo, ho) k m = (pr, ty, va_up os n k, va_up om n m, n + 1, va_up fo k (some m), ho) := by
      show (pr, ty, va_up os n k, va_up om n m, n + 1, (match fo k with | none => va_up fo k (some m) | some _ => fo), ho) = _
      rw [hf]
    rw [e]
    refine PM.start (Or.inl (by decide +kernel)) rfl rfl rfl ?_
    intro X hX hR hx hin
    refine PW.aload_n hX dX0_noteOut_0 rfl rfl ?_
    refine PW.getfield hX fl_X0_25 dX0_noteOut_1 rfl rfl ?_
    refine PW.aload_n hX dX0_noteOut_4 rfl rfl ?_
    refine PW.getfield hX fl_X0_32 dX0_noteOut_5 rfl rfl ?_
    refine PW.iload_n hX dX0_noteOut_8 rfl rfl ?_
    refine PW.iastore hX dX0_noteOut_9 rfl rfl rfl (by omega) ?_
    refine PW.aload_n hX dX0_noteOut_10 rfl rfl ?_
    refine PW.getfield hX fl_X0_29 dX0_noteOut_11 rfl rfl ?_
    refine PW.aload_n hX dX0_noteOut_14 rfl rfl ?_
    refine PW.getfield hX fl_X0_32 dX0_noteOut_15 rfl rfl ?_
    refine PW.iload_n hX dX0_noteOut_18 rfl rfl ?_
    refine PW.iastore hX dX0_noteOut_19 rfl rfl rfl (by omega) ?_
    refine PW.aload_n hX dX0_noteOut_20 rfl rfl ?_
    refine PW.dup hX dX0_noteOut_21 rfl ?_
    refine PW.getfield hX fl_X0_32 dX0_noteOut_22 rfl rfl ?_
    refine PW.iconst (v := nI 1) hX dX0_noteOut_25 (by decide) ?_
    refine PW.iadd hX dX0_noteOut_26 ?_
    refine PW.top (nI_add n 1) ?_
    refine PW.putI hX fp_X0_32 dX0_noteOut_27 rfl rfl ?_
    refine PW.aload_n hX dX0_noteOut_30 rfl rfl ?_
    refine PW.getfield hX fl_X0_36 dX0_noteOut_31 rfl rfl ?_
    refine PW.iload_n hX dX0_noteOut_34 rfl rfl ?_
    refine PW.iaload hX dX0_noteOut_35 rfl rfl rfl (by omega) ?_
    refine PW.top (show oI (fo k) = oI none by rw [hf]) ?_
    refine PW.bipush (v := (-9)) hX dX0_noteOut_36 (by decide) ?_
    refine PW.icmp_ne (tgt := 48) hX dX0_noteOut_38 (by decide) (fun c38 => ?_) (fun c38 => ?_)
    · first | rw [nI_eq (by omega) (by omega)] at c38 | rw [oI_eq9] at c38 | skip
      exact absurd trivial c38 -- CLOSED
    · first | rw [nI_eq (by omega) (by omega)] at c38 | rw [oI_eq9] at c38 | skip
      refine PW.aload_n hX dX0_noteOut_41 rfl rfl ?_
      refine PW.getfield hX fl_X0_36 dX0_noteOut_42 rfl rfl ?_
      refine PW.iload_n hX dX0_noteOut_45 rfl rfl ?_
      refine PW.iload_n hX dX0_noteOut_46 rfl rfl ?_
      refine PW.iastore hX dX0_noteOut_47 rfl rfl rfl (by omega) ?_
      refine PW.vret hX hR dX0_noteOut_48 rfl rfl ?_
      exact ⟨rfl, by simp only [upd_nI, upd_oI]; rfl⟩
  | some x =>
    have hx := hfo x hf
    have e : dNote (pr, ty, os, om, n, fo, ho) k m = (pr, ty, va_up os n k, va_up om n m, n + 1, fo, ho) := by
      show (pr, ty, va_up os n k, va_up om n m, n + 1, (match fo k with | none => va_up fo k (some m) | some _ => fo), ho) = _
      rw [hf]
    rw [e]
    refine PM.start (Or.inl (by decide +kernel)) rfl rfl rfl ?_
    intro X hX hR hx hin
    refine PW.aload_n hX dX0_noteOut_0 rfl rfl ?_
    refine PW.getfield hX fl_X0_25 dX0_noteOut_1 rfl rfl ?_
    refine PW.aload_n hX dX0_noteOut_4 rfl rfl ?_
    refine PW.getfield hX fl_X0_32 dX0_noteOut_5 rfl rfl ?_
    refine PW.iload_n hX dX0_noteOut_8 rfl rfl ?_
    refine PW.iastore hX dX0_noteOut_9 rfl rfl rfl (by omega) ?_
    refine PW.aload_n hX dX0_noteOut_10 rfl rfl ?_
    refine PW.getfield hX fl_X0_29 dX0_noteOut_11 rfl rfl ?_
    refine PW.aload_n hX dX0_noteOut_14 rfl rfl ?_
    refine PW.getfield hX fl_X0_32 dX0_noteOut_15 rfl rfl ?_
    refine PW.iload_n hX dX0_noteOut_18 rfl rfl ?_
    refine PW.iastore hX dX0_noteOut_19 rfl rfl rfl (by omega) ?_
    refine PW.aload_n hX dX0_noteOut_20 rfl rfl ?_
    refine PW.dup hX dX0_noteOut_21 rfl ?_
    refine PW.getfield hX fl_X0_32 dX0_noteOut_22 rfl rfl ?_
    refine PW.iconst (v := nI 1) hX dX0_noteOut_25 (by decide) ?_
    refine PW.iadd hX dX0_noteOut_26 ?_
    refine PW.top (nI_add n 1) ?_
    refine PW.putI hX fp_X0_32 dX0_noteOut_27 rfl rfl ?_
    refine PW.aload_n hX dX0_noteOut_30 rfl rfl ?_
    refine PW.getfield hX fl_X0_36 dX0_noteOut_31 rfl rfl ?_
    refine PW.iload_n hX dX0_noteOut_34 rfl rfl ?_
    refine PW.iaload hX dX0_noteOut_35 rfl rfl rfl (by omega) ?_
    refine PW.top (show oI (fo k) = nI x by rw [hf]; rfl) ?_
    refine PW.bipush (v := (-9)) hX dX0_noteOut_36 (by decide) ?_
    refine PW.icmp_ne (tgt := 48) hX dX0_noteOut_38 (by decide) (fun c38 => ?_) (fun c38 => ?_)
    · first | rw [nI_eq (by omega) (by omega)] at c38 | rw [oI_eq9] at c38 | skip
      refine PW.vret hX hR dX0_noteOut_48 rfl rfl ?_
      exact ⟨rfl, by simp only [upd_nI, upd_oI]; rfl⟩
    · first | rw [nI_eq (by omega) (by omega)] at c38 | rw [oI_eq9] at c38 | skip
      exact absurd c38 (nI_ne9 (by omega)) -- CLOSED
def sOut (D : Dy) (f : Nat → Nat) (x : Int32) : Option Nat := bif inB (dyn D) x then some (f x.toNatClampNeg) else none
theorem pm_sheetOut (D : Dy) (hn : dyn D ≤ 100) (x : Int32) : PM mu_X0_sheetOut 0 0 0 [.ref 0, .int x] (dyB 0 D) (eqP (some (.int (oI (sOut D (dyos D) x)))) (dyB 0 D)) := by
  by_cases hb : inB (dyn D) x = true
  · obtain ⟨k, hk, rfl⟩ := inB_of (by omega) hb
    have e : sOut D (dyos D) (nI k) = some (dyos D k) := by unfold sOut; rw [hb, nI_clamp (by omega)]; rfl
    rw [e]
    refine PM.start (Or.inl (by decide +kernel)) rfl rfl rfl ?_
    intro X hX hR hx hin
    refine PW.iload_n hX dX0_sheetOut_0 rfl rfl ?_
    refine PW.if_lt (tgt := 21) hX dX0_sheetOut_1 (by decide) (fun c1 => ?_) (fun c1 => ?_)
    · try rw [nI_lt0 (by omega)] at c1
      exact c1.elim -- CLOSED
    · try rw [nI_lt0 (by omega)] at c1
      refine PW.iload_n hX dX0_sheetOut_4 rfl rfl ?_
      refine PW.aload_n hX dX0_sheetOut_5 rfl rfl ?_
      refine PW.getfield hX fl_X0_32 dX0_sheetOut_6 rfl rfl ?_
      refine PW.icmp_ge (tgt := 21) hX dX0_sheetOut_9 (by decide) (fun c9 => ?_) (fun c9 => ?_)
      · try rw [nI_leI (by omega) (by omega)] at c9
        exfalso; omega -- CLOSED
      · try rw [nI_leI (by omega) (by omega)] at c9
        refine PW.aload_n hX dX0_sheetOut_12 rfl rfl ?_
        refine PW.getfield hX fl_X0_25 dX0_sheetOut_13 rfl rfl ?_
        refine PW.iload_n hX dX0_sheetOut_16 rfl rfl ?_
        refine PW.iaload hX dX0_sheetOut_17 rfl rfl rfl (by omega) ?_
        refine PW.goto (tgt := 23) hX dX0_sheetOut_18 (by decide) ?_
        refine PW.iret hX hR dX0_sheetOut_23 rfl rfl ?_
        exact ⟨rfl, rfl⟩
  · have e : sOut D (dyos D) x = none := by unfold sOut; rw [Bool.not_eq_true] at hb; rw [hb]; rfl
    rw [e]
    refine PM.start (Or.inl (by decide +kernel)) rfl rfl rfl ?_
    intro X hX hR hx hin
    refine PW.iload_n hX dX0_sheetOut_0 rfl rfl ?_
    refine PW.if_lt (tgt := 21) hX dX0_sheetOut_1 (by decide) (fun c1 => ?_) (fun c1 => ?_)
    · refine PW.bipush (v := (-9)) hX dX0_sheetOut_21 (by decide) ?_
      refine PW.iret hX hR dX0_sheetOut_23 rfl rfl ?_
      exact ⟨rfl, rfl⟩
    · refine PW.iload_n hX dX0_sheetOut_4 rfl rfl ?_
      refine PW.aload_n hX dX0_sheetOut_5 rfl rfl ?_
      refine PW.getfield hX fl_X0_32 dX0_sheetOut_6 rfl rfl ?_
      refine PW.icmp_ge (tgt := 21) hX dX0_sheetOut_9 (by decide) (fun c9 => ?_) (fun c9 => ?_)
      · refine PW.bipush (v := (-9)) hX dX0_sheetOut_21 (by decide) ?_
        refine PW.iret hX hR dX0_sheetOut_23 rfl rfl ?_
        exact ⟨rfl, rfl⟩
      · exact absurd (by simp only [inB, Bool.and_eq_true, Bool.not_eq_true', decide_eq_false_iff_not, decide_eq_true_eq]; exact ⟨c1, i32_nle.mp c9⟩) hb -- CLOSED
theorem pm_minuteOut (D : Dy) (hn : dyn D ≤ 100) (x : Int32) : PM mu_X0_minuteOut 0 0 0 [.ref 0, .int x] (dyB 0 D) (eqP (some (.int (oI (sOut D (dyom D) x)))) (dyB 0 D)) := by
  by_cases hb : inB (dyn D) x = true
  · obtain ⟨k, hk, rfl⟩ := inB_of (by omega) hb
    have e : sOut D (dyom D) (nI k) = some (dyom D k) := by unfold sOut; rw [hb, nI_clamp (by omega)]; rfl
    rw [e]
    refine PM.start (Or.inl (by decide +kernel)) rfl rfl rfl ?_
    intro X hX hR hx hin
    refine PW.iload_n hX dX0_minuteOut_0 rfl rfl ?_
    refine PW.if_lt (tgt := 21) hX dX0_minuteOut_1 (by decide) (fun c1 => ?_) (fun c1 => ?_)
    · try rw [nI_lt0 (by omega)] at c1
      exact c1.elim -- CLOSED
    · try rw [nI_lt0 (by omega)] at c1
      refine PW.iload_n hX dX0_minuteOut_4 rfl rfl ?_
      refine PW.aload_n hX dX0_minuteOut_5 rfl rfl ?_
      refine PW.getfield hX fl_X0_32 dX0_minuteOut_6 rfl rfl ?_
      refine PW.icmp_ge (tgt := 21) hX dX0_minuteOut_9 (by decide) (fun c9 => ?_) (fun c9 => ?_)
      · try rw [nI_leI (by omega) (by omega)] at c9
        exfalso; omega -- CLOSED
      · try rw [nI_leI (by omega) (by omega)] at c9
        refine PW.aload_n hX dX0_minuteOut_12 rfl rfl ?_
        refine PW.getfield hX fl_X0_29 dX0_minuteOut_13 rfl rfl ?_
        refine PW.iload_n hX dX0_minuteOut_16 rfl rfl ?_
        refine PW.iaload hX dX0_minuteOut_17 rfl rfl rfl (by omega) ?_
        refine PW.goto (tgt := 23) hX dX0_minuteOut_18 (by decide) ?_
        refine PW.iret hX hR dX0_minuteOut_23 rfl rfl ?_
        exact ⟨rfl, rfl⟩
  · have e : sOut D (dyom D) x = none := by unfold sOut; rw [Bool.not_eq_true] at hb; rw [hb]; rfl
    rw [e]
    refine PM.start (Or.inl (by decide +kernel)) rfl rfl rfl ?_
    intro X hX hR hx hin
    refine PW.iload_n hX dX0_minuteOut_0 rfl rfl ?_
    refine PW.if_lt (tgt := 21) hX dX0_minuteOut_1 (by decide) (fun c1 => ?_) (fun c1 => ?_)
    · refine PW.bipush (v := (-9)) hX dX0_minuteOut_21 (by decide) ?_
      refine PW.iret hX hR dX0_minuteOut_23 rfl rfl ?_
      exact ⟨rfl, rfl⟩
    · refine PW.iload_n hX dX0_minuteOut_4 rfl rfl ?_
      refine PW.aload_n hX dX0_minuteOut_5 rfl rfl ?_
      refine PW.getfield hX fl_X0_32 dX0_minuteOut_6 rfl rfl ?_
      refine PW.icmp_ge (tgt := 21) hX dX0_minuteOut_9 (by decide) (fun c9 => ?_) (fun c9 => ?_)
      · refine PW.bipush (v := (-9)) hX dX0_minuteOut_21 (by decide) ?_
        refine PW.iret hX hR dX0_minuteOut_23 rfl rfl ?_
        exact ⟨rfl, rfl⟩
      · exact absurd (by simp only [inB, Bool.and_eq_true, Bool.not_eq_true', decide_eq_false_iff_not, decide_eq_true_eq]; exact ⟨c1, i32_nle.mp c9⟩) hb -- CLOSED
/-- who has sheet k -/
def hOf (D : Dy) (k : Nat) : Int32 := match dyfo D k with | none => -8 | some _ => oI (dyho D k)
theorem pm_holderOf (D : Dy) (k : Nat) (hk : k < 60) (hfo : ∀ x, dyfo D k = some x → x < 100) : PM mu_X0_holderOf 0 0 0 [.ref 0, .int (nI k)] (dyB 0 D) (eqP (some (.int (hOf D k))) (dyB 0 D)) := by
  cases hf : dyfo D k with
  | none =>
    have e : hOf D k = -8 := by unfold hOf; rw [hf]
    rw [e]
    refine PM.start (Or.inl (by decide +kernel)) rfl rfl rfl ?_
    intro X hX hR hx hin
    refine PW.iload_n hX dX0_holderOf_0 rfl rfl ?_
    refine PW.if_lt (tgt := 21) hX dX0_holderOf_1 (by decide) (fun c1 => ?_) (fun c1 => ?_)
    · try rw [nI_lt0 (by omega)] at c1
      exact c1.elim -- CLOSED
    · try rw [nI_lt0 (by omega)] at c1
      refine PW.iload_n hX dX0_holderOf_4 rfl rfl ?_
      refine PW.bipush (v := nI 60) hX dX0_holderOf_5 (by decide) ?_
      refine PW.icmp_ge (tgt := 21) hX dX0_holderOf_7 (by decide) (fun c7 => ?_) (fun c7 => ?_)
      · try rw [nI_leI (by omega) (by omega)] at c7
        exfalso; omega -- CLOSED
      · try rw [nI_leI (by omega) (by omega)] at c7
        refine PW.aload_n hX dX0_holderOf_10 rfl rfl ?_
        refine PW.getfield hX fl_X0_36 dX0_holderOf_11 rfl rfl ?_
        refine PW.iload_n hX dX0_holderOf_14 rfl rfl ?_
        refine PW.iaload hX dX0_holderOf_15 rfl rfl rfl (by omega) ?_
        refine PW.top (show oI (dyfo D k) = oI none by rw [hf]) ?_
        refine PW.bipush (v := (-9)) hX dX0_holderOf_16 (by decide) ?_
        refine PW.icmp_ne (tgt := 24) hX dX0_holderOf_18 (by decide) (fun c18 => ?_) (fun c18 => ?_)
        · first | rw [nI_eq (by omega) (by omega)] at c18 | rw [oI_eq9] at c18 | skip
          exact absurd trivial c18 -- CLOSED
        · first | rw [nI_eq (by omega) (by omega)] at c18 | rw [oI_eq9] at c18 | skip
          refine PW.bipush (v := (-8)) hX dX0_holderOf_21 (by decide) ?_
          refine PW.iret hX hR dX0_holderOf_23 rfl rfl ?_
          exact ⟨rfl, rfl⟩
  | some x =>
    have hx := hfo x hf
    have e : hOf D k = oI (dyho D k) := by unfold hOf; rw [hf]
    rw [e]
    refine PM.start (Or.inl (by decide +kernel)) rfl rfl rfl ?_
    intro X hX hR hx hin
    refine PW.iload_n hX dX0_holderOf_0 rfl rfl ?_
    refine PW.if_lt (tgt := 21) hX dX0_holderOf_1 (by decide) (fun c1 => ?_) (fun c1 => ?_)
    · try rw [nI_lt0 (by omega)] at c1
      exact c1.elim -- CLOSED
    · try rw [nI_lt0 (by omega)] at c1
      refine PW.iload_n hX dX0_holderOf_4 rfl rfl ?_
      refine PW.bipush (v := nI 60) hX dX0_holderOf_5 (by decide) ?_
      refine PW.icmp_ge (tgt := 21) hX dX0_holderOf_7 (by decide) (fun c7 => ?_) (fun c7 => ?_)
      · try rw [nI_leI (by omega) (by omega)] at c7
        exfalso; omega -- CLOSED
      · try rw [nI_leI (by omega) (by omega)] at c7
        refine PW.aload_n hX dX0_holderOf_10 rfl rfl ?_
        refine PW.getfield hX fl_X0_36 dX0_holderOf_11 rfl rfl ?_
        refine PW.iload_n hX dX0_holderOf_14 rfl rfl ?_
        refine PW.iaload hX dX0_holderOf_15 rfl rfl rfl (by omega) ?_
        refine PW.top (show oI (dyfo D k) = nI x by rw [hf]; rfl) ?_
        refine PW.bipush (v := (-9)) hX dX0_holderOf_16 (by decide) ?_
        refine PW.icmp_ne (tgt := 24) hX dX0_holderOf_18 (by decide) (fun c18 => ?_) (fun c18 => ?_)
        · first | rw [nI_eq (by omega) (by omega)] at c18 | rw [oI_eq9] at c18 | skip
          refine PW.aload_n hX dX0_holderOf_24 rfl rfl ?_
          refine PW.getfield hX fl_X0_39 dX0_holderOf_25 rfl rfl ?_
          refine PW.iload_n hX dX0_holderOf_28 rfl rfl ?_
          refine PW.iaload hX dX0_holderOf_29 rfl rfl rfl (by omega) ?_
          refine PW.iret hX hR dX0_holderOf_30 rfl rfl ?_
          exact ⟨rfl, rfl⟩
        · first | rw [nI_eq (by omega) (by omega)] at c18 | rw [oI_eq9] at c18 | skip
          exact absurd c18 (nI_ne9 (by omega)) -- CLOSED
