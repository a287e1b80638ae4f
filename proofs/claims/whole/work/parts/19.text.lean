/-! ===== the text of letters ===== -/
abbrev Te : Type := (Nat → Nat) × Nat × Nat × Nat × Int32 × Int32 × Int32 × Int32
abbrev tele (T : Te) : Nat → Nat := T.1
abbrev ten (T : Te) : Nat := T.2.1
abbrev tepl (T : Te) : Nat := T.2.2.1
abbrev tehd (T : Te) : Nat := T.2.2.2.1
abbrev teki (T : Te) : Int32 := T.2.2.2.2.1
abbrev teow (T : Te) : Int32 := T.2.2.2.2.2.1
abbrev tefi (T : Te) : Int32 := T.2.2.2.2.2.2.1
abbrev temi (T : Te) : Int32 := T.2.2.2.2.2.2.2
def teB (b : Nat) (T : Te) : List PCell := [.inr (4, [.ref (b + 1), .int (nI (ten T)), .int (nI (tepl T)), .int (nI (tehd T)), .int (teki T), .int (teow T), .int (tefi T), .int (temi T)]), .inl (0, 80, fun j => nI (tele T j))]
def TeR (T : Te) : Prop := ten T ≤ 80 ∧ tepl T ≤ ten T ∧ ∀ i, i < ten T → tele T i < 256
def teAdv (T : Te) : Te := (tele T, ten T, tepl T + 1, tehd T, teki T, teow T, tefi T, temi T)
def teK (T : Te) (x : Int32) : Te := (tele T, ten T, tepl T, tehd T, x, teow T, tefi T, temi T)
def teO (T : Te) (x : Int32) : Te := (tele T, ten T, tepl T, tehd T, teki T, x, tefi T, temi T)
def teF (T : Te) (x : Int32) : Te := (tele T, ten T, tepl T, tehd T, teki T, teow T, x, temi T)
def teM (T : Te) (x : Int32) : Te := (tele T, ten T, tepl T, tehd T, teki T, teow T, tefi T, x)
def teH (T : Te) (x : Nat) : Te := (tele T, ten T, tepl T, x, teki T, teow T, tefi T, temi T)
def teP (T : Te) (x : Nat) : Te := (tele T, ten T, x, tehd T, teki T, teow T, tefi T, temi T)
theorem pm_teAdd (T : Te) (hT : ten T < 80) (c : Nat) : PM mu_X4_add 0 0 0 [.ref 0, .int (nI c)] (teB 0 T) (eqP (some (.int (nI (ten T + 1)))) (teB 0 (va_up (tele T) (ten T) c, ten T + 1, tepl T, tehd T, teki T, teow T, tefi T, temi T))) := by
  refine PM.start (Or.inl (by decide +kernel)) rfl rfl rfl ?_
  intro X hX hR hx hin
  refine PW.aload_n hX dX4_add_0 rfl rfl ?_
  refine PW.getfield hX fl_X4_15 dX4_add_1 rfl rfl ?_
  refine PW.bipush (v := nI 80) hX dX4_add_4 (by decide) ?_
  refine PW.icmp_ge (tgt := 29) hX dX4_add_6 (by decide) (fun c6 => ?_) (fun c6 => ?_)
  · try rw [nI_leI (by omega) (by omega)] at c6
    exfalso; omega -- CLOSED
  · try rw [nI_leI (by omega) (by omega)] at c6
    refine PW.aload_n hX dX4_add_9 rfl rfl ?_
    refine PW.getfield hX fl_X4_9 dX4_add_10 rfl rfl ?_
    refine PW.aload_n hX dX4_add_13 rfl rfl ?_
    refine PW.getfield hX fl_X4_15 dX4_add_14 rfl rfl ?_
    refine PW.iload_n hX dX4_add_17 rfl rfl ?_
    refine PW.iastore hX dX4_add_18 rfl rfl rfl (by omega) ?_
    refine PW.aload_n hX dX4_add_19 rfl rfl ?_
    refine PW.dup hX dX4_add_20 rfl ?_
    refine PW.getfield hX fl_X4_15 dX4_add_21 rfl rfl ?_
    refine PW.iconst (v := nI 1) hX dX4_add_24 (by decide) ?_
    refine PW.iadd hX dX4_add_25 ?_
    refine PW.top (nI_add _ 1) ?_
    refine PW.putI hX fp_X4_15 dX4_add_26 rfl rfl ?_
    refine PW.aload_n hX dX4_add_29 rfl rfl ?_
    refine PW.getfield hX fl_X4_15 dX4_add_30 rfl rfl ?_
    refine PW.iret hX hR dX4_add_33 rfl rfl ?_
    exact ⟨rfl, by simp only [upd_nI]; rfl⟩
theorem pm_teClear (T : Te) : PM mu_X4_clear 0 0 0 [.ref 0] (teB 0 T) (eqP none (teB 0 (tele T, 0, tepl T, tehd T, teki T, teow T, tefi T, temi T))) := by
  refine PM.start (Or.inl (by decide +kernel)) rfl rfl rfl ?_
  intro X hX hR hx hin
  refine PW.aload_n hX dX4_clear_0 rfl rfl ?_
  refine PW.iconst (v := nI 0) hX dX4_clear_1 (by decide) ?_
  refine PW.putI hX fp_X4_15 dX4_clear_2 rfl rfl ?_
  refine PW.vret hX hR dX4_clear_5 rfl rfl ?_
  exact ⟨rfl, rfl⟩
def dgt (T : Te) : Option Nat := if tepl T < ten T ∧ 48 ≤ tele T (tepl T) ∧ tele T (tepl T) ≤ 57 then some (tele T (tepl T) - 48) else none
def teDg (T : Te) : Te := match dgt T with | none => T | some _ => teAdv T
theorem dgt_lt {T : Te} {d : Nat} (h : dgt T = some d) : d < 10 ∧ tepl T < ten T := by
  unfold dgt at h
  split at h
  · rename_i q
    cases h
    omega
  · cases h
theorem pm_readDigit (T : Te) (tr : TeR T) : PM mu_X4_readDigit 0 0 0 [.ref 0] (teB 0 T) (eqP (some (.int (oI (dgt T)))) (teB 0 (teDg T))) := by
  obtain ⟨t1, t2, t3⟩ := tr
  by_cases hc : tepl T < ten T ∧ 48 ≤ tele T (tepl T) ∧ tele T (tepl T) ≤ 57
  · have e : dgt T = some (tele T (tepl T) - 48) := by unfold dgt; rw [if_pos hc]
    have e2 : teDg T = teAdv T := by unfold teDg; rw [e]
    rw [e, e2]
    have b := t3 (tepl T) hc.1
    refine PM.start (Or.inl (by decide +kernel)) rfl rfl rfl ?_
    intro X hX hR hx hin
    refine PW.aload_n hX dX4_readDigit_0 rfl rfl ?_
    refine PW.getfield hX fl_X4_19 dX4_readDigit_1 rfl rfl ?_
    refine PW.aload_n hX dX4_readDigit_4 rfl rfl ?_
    refine PW.getfield hX fl_X4_15 dX4_readDigit_5 rfl rfl ?_
    refine PW.icmp_ge (tgt := 39) hX dX4_readDigit_8 (by decide) (fun c8 => ?_) (fun c8 => ?_)
    · try rw [nI_leI (by omega) (by omega)] at c8
      exfalso; omega -- CLOSED
    · try rw [nI_leI (by omega) (by omega)] at c8
      refine PW.aload_n hX dX4_readDigit_11 rfl rfl ?_
      refine PW.getfield hX fl_X4_9 dX4_readDigit_12 rfl rfl ?_
      refine PW.aload_n hX dX4_readDigit_15 rfl rfl ?_
      refine PW.getfield hX fl_X4_19 dX4_readDigit_16 rfl rfl ?_
      refine PW.iaload hX dX4_readDigit_19 rfl rfl rfl (by omega) ?_
      refine PW.bipush (v := nI 48) hX dX4_readDigit_20 (by decide) ?_
      refine PW.icmp_lt (tgt := 39) hX dX4_readDigit_22 (by decide) (fun c22 => ?_) (fun c22 => ?_)
      · try rw [nI_ltI (by omega) (by omega)] at c22
        exfalso; omega -- CLOSED
      · try rw [nI_ltI (by omega) (by omega)] at c22
        refine PW.aload_n hX dX4_readDigit_25 rfl rfl ?_
        refine PW.getfield hX fl_X4_9 dX4_readDigit_26 rfl rfl ?_
        refine PW.aload_n hX dX4_readDigit_29 rfl rfl ?_
        refine PW.getfield hX fl_X4_19 dX4_readDigit_30 rfl rfl ?_
        refine PW.iaload hX dX4_readDigit_33 rfl rfl rfl (by omega) ?_
        refine PW.bipush (v := nI 57) hX dX4_readDigit_34 (by decide) ?_
        refine PW.icmp_le (tgt := 42) hX dX4_readDigit_36 (by decide) (fun c36 => ?_) (fun c36 => ?_)
        · try rw [nI_leI (by omega) (by omega)] at c36
          refine PW.aload_n hX dX4_readDigit_42 rfl rfl ?_
          refine PW.getfield hX fl_X4_9 dX4_readDigit_43 rfl rfl ?_
          refine PW.aload_n hX dX4_readDigit_46 rfl rfl ?_
          refine PW.getfield hX fl_X4_19 dX4_readDigit_47 rfl rfl ?_
          refine PW.iaload hX dX4_readDigit_50 rfl rfl rfl (by omega) ?_
          refine PW.bipush (v := nI 48) hX dX4_readDigit_51 (by decide) ?_
          refine PW.isub hX dX4_readDigit_53 ?_
          refine PW.top (pk_sub (by omega)) ?_
          refine PW.istore_n hX dX4_readDigit_54 rfl rfl ?_
          refine PW.aload_n hX dX4_readDigit_55 rfl rfl ?_
          refine PW.dup hX dX4_readDigit_56 rfl ?_
          refine PW.getfield hX fl_X4_19 dX4_readDigit_57 rfl rfl ?_
          refine PW.iconst (v := nI 1) hX dX4_readDigit_60 (by decide) ?_
          refine PW.iadd hX dX4_readDigit_61 ?_
          refine PW.top (nI_add _ 1) ?_
          refine PW.putI hX fp_X4_19 dX4_readDigit_62 rfl rfl ?_
          refine PW.iload_n hX dX4_readDigit_65 rfl rfl ?_
          refine PW.iret hX hR dX4_readDigit_66 rfl rfl ?_
          exact ⟨rfl, rfl⟩
        · try rw [nI_leI (by omega) (by omega)] at c36
          exfalso; omega -- CLOSED
  · have e : dgt T = none := by unfold dgt; rw [if_neg hc]
    have e2 : teDg T = T := by unfold teDg; rw [e]
    rw [e, e2]
    by_cases hp : tepl T < ten T
    · have b := t3 (tepl T) hp
      refine PM.start (Or.inl (by decide +kernel)) rfl rfl rfl ?_
      intro X hX hR hx hin
      refine PW.aload_n hX dX4_readDigit_0 rfl rfl ?_
      refine PW.getfield hX fl_X4_19 dX4_readDigit_1 rfl rfl ?_
      refine PW.aload_n hX dX4_readDigit_4 rfl rfl ?_
      refine PW.getfield hX fl_X4_15 dX4_readDigit_5 rfl rfl ?_
      refine PW.icmp_ge (tgt := 39) hX dX4_readDigit_8 (by decide) (fun c8 => ?_) (fun c8 => ?_)
      · try rw [nI_leI (by omega) (by omega)] at c8
        exfalso; omega -- CLOSED
      · try rw [nI_leI (by omega) (by omega)] at c8
        refine PW.aload_n hX dX4_readDigit_11 rfl rfl ?_
        refine PW.getfield hX fl_X4_9 dX4_readDigit_12 rfl rfl ?_
        refine PW.aload_n hX dX4_readDigit_15 rfl rfl ?_
        refine PW.getfield hX fl_X4_19 dX4_readDigit_16 rfl rfl ?_
        refine PW.iaload hX dX4_readDigit_19 rfl rfl rfl (by omega) ?_
        refine PW.bipush (v := nI 48) hX dX4_readDigit_20 (by decide) ?_
        refine PW.icmp_lt (tgt := 39) hX dX4_readDigit_22 (by decide) (fun c22 => ?_) (fun c22 => ?_)
        · try rw [nI_ltI (by omega) (by omega)] at c22
          refine PW.bipush (v := (-9)) hX dX4_readDigit_39 (by decide) ?_
          refine PW.iret hX hR dX4_readDigit_41 rfl rfl ?_
          exact ⟨rfl, rfl⟩
        · try rw [nI_ltI (by omega) (by omega)] at c22
          refine PW.aload_n hX dX4_readDigit_25 rfl rfl ?_
          refine PW.getfield hX fl_X4_9 dX4_readDigit_26 rfl rfl ?_
          refine PW.aload_n hX dX4_readDigit_29 rfl rfl ?_
          refine PW.getfield hX fl_X4_19 dX4_readDigit_30 rfl rfl ?_
          refine PW.iaload hX dX4_readDigit_33 rfl rfl rfl (by omega) ?_
          refine PW.bipush (v := nI 57) hX dX4_readDigit_34 (by decide) ?_
          refine PW.icmp_le (tgt := 42) hX dX4_readDigit_36 (by decide) (fun c36 => ?_) (fun c36 => ?_)
          · try rw [nI_leI (by omega) (by omega)] at c36
            exfalso; omega -- CLOSED
          · try rw [nI_leI (by omega) (by omega)] at c36
            refine PW.bipush (v := (-9)) hX dX4_readDigit_39 (by decide) ?_
            refine PW.iret hX hR dX4_readDigit_41 rfl rfl ?_
            exact ⟨rfl, rfl⟩
    · refine PM.start (Or.inl (by decide +kernel)) rfl rfl rfl ?_
      intro X hX hR hx hin
      refine PW.aload_n hX dX4_readDigit_0 rfl rfl ?_
      refine PW.getfield hX fl_X4_19 dX4_readDigit_1 rfl rfl ?_
      refine PW.aload_n hX dX4_readDigit_4 rfl rfl ?_
      refine PW.getfield hX fl_X4_15 dX4_readDigit_5 rfl rfl ?_
      refine PW.icmp_ge (tgt := 39) hX dX4_readDigit_8 (by decide) (fun c8 => ?_) (fun c8 => ?_)
      · try rw [nI_leI (by omega) (by omega)] at c8
        refine PW.bipush (v := (-9)) hX dX4_readDigit_39 (by decide) ?_
        refine PW.iret hX hR dX4_readDigit_41 rfl rfl ?_
        exact ⟨rfl, rfl⟩
      · try rw [nI_leI (by omega) (by omega)] at c8
        exfalso; omega -- CLOSED
def rSign (c : Nat) (T : Te) : Bool × Te := if tepl T < ten T ∧ tele T (tepl T) = c then (true, teAdv T) else (false, T)
theorem pm_readSign (T : Te) (tr : TeR T) (c : Nat) (hc : c < 256) : PM mu_X4_readSign 0 0 0 [.ref 0, .int (nI c)] (teB 0 T) (eqP (some (.int (bI (rSign c T).1))) (teB 0 (rSign c T).2)) := by
  obtain ⟨t1, t2, t3⟩ := tr
  by_cases hp : tepl T < ten T
  · have b := t3 (tepl T) hp
    by_cases hq : tele T (tepl T) = c
    · have e : rSign c T = (true, teAdv T) := by unfold rSign; rw [if_pos ⟨hp, hq⟩]
      rw [e]
      refine PM.start (Or.inl (by decide +kernel)) rfl rfl rfl ?_
      intro X hX hR hx hin
      refine PW.aload_n hX dX4_readSign_0 rfl rfl ?_
      refine PW.getfield hX fl_X4_19 dX4_readSign_1 rfl rfl ?_
      refine PW.aload_n hX dX4_readSign_4 rfl rfl ?_
      refine PW.getfield hX fl_X4_15 dX4_readSign_5 rfl rfl ?_
      refine PW.icmp_ge (tgt := 24) hX dX4_readSign_8 (by decide) (fun c8 => ?_) (fun c8 => ?_)
      · try rw [nI_leI (by omega) (by omega)] at c8
        exfalso; omega -- CLOSED
      · try rw [nI_leI (by omega) (by omega)] at c8
        refine PW.aload_n hX dX4_readSign_11 rfl rfl ?_
        refine PW.getfield hX fl_X4_9 dX4_readSign_12 rfl rfl ?_
        refine PW.aload_n hX dX4_readSign_15 rfl rfl ?_
        refine PW.getfield hX fl_X4_19 dX4_readSign_16 rfl rfl ?_
        refine PW.iaload hX dX4_readSign_19 rfl rfl rfl (by omega) ?_
        refine PW.iload_n hX dX4_readSign_20 rfl rfl ?_
        refine PW.icmp_eq (tgt := 26) hX dX4_readSign_21 (by decide) (fun c21 => ?_) (fun c21 => ?_)
        · first | rw [nI_eq (by omega) (by omega)] at c21 | rw [oI_eq9] at c21 | skip
          refine PW.aload_n hX dX4_readSign_26 rfl rfl ?_
          refine PW.dup hX dX4_readSign_27 rfl ?_
          refine PW.getfield hX fl_X4_19 dX4_readSign_28 rfl rfl ?_
          refine PW.iconst (v := nI 1) hX dX4_readSign_31 (by decide) ?_
          refine PW.iadd hX dX4_readSign_32 ?_
          refine PW.top (nI_add _ 1) ?_
          refine PW.putI hX fp_X4_19 dX4_readSign_33 rfl rfl ?_
          refine PW.iconst (v := nI 1) hX dX4_readSign_36 (by decide) ?_
          refine PW.zret hX hR dX4_readSign_37 (by first | exact Or.inl rfl | exact Or.inr rfl | assumption) rfl rfl ?_
          exact ⟨rfl, rfl⟩
        · first | rw [nI_eq (by omega) (by omega)] at c21 | rw [oI_eq9] at c21 | skip
          exfalso; omega -- CLOSED
    · have e : rSign c T = (false, T) := by unfold rSign; rw [if_neg (fun z => hq z.2)]
      rw [e]
      refine PM.start (Or.inl (by decide +kernel)) rfl rfl rfl ?_
      intro X hX hR hx hin
      refine PW.aload_n hX dX4_readSign_0 rfl rfl ?_
      refine PW.getfield hX fl_X4_19 dX4_readSign_1 rfl rfl ?_
      refine PW.aload_n hX dX4_readSign_4 rfl rfl ?_
      refine PW.getfield hX fl_X4_15 dX4_readSign_5 rfl rfl ?_
      refine PW.icmp_ge (tgt := 24) hX dX4_readSign_8 (by decide) (fun c8 => ?_) (fun c8 => ?_)
      · try rw [nI_leI (by omega) (by omega)] at c8
        exfalso; omega -- CLOSED
      · try rw [nI_leI (by omega) (by omega)] at c8
        refine PW.aload_n hX dX4_readSign_11 rfl rfl ?_
        refine PW.getfield hX fl_X4_9 dX4_readSign_12 rfl rfl ?_
        refine PW.aload_n hX dX4_readSign_15 rfl rfl ?_
        refine PW.getfield hX fl_X4_19 dX4_readSign_16 rfl rfl ?_
        refine PW.iaload hX dX4_readSign_19 rfl rfl rfl (by omega) ?_
        refine PW.iload_n hX dX4_readSign_20 rfl rfl ?_
        refine PW.icmp_eq (tgt := 26) hX dX4_readSign_21 (by decide) (fun c21 => ?_) (fun c21 => ?_)
        · first | rw [nI_eq (by omega) (by omega)] at c21 | rw [oI_eq9] at c21 | skip
          exfalso; omega -- CLOSED
        · first | rw [nI_eq (by omega) (by omega)] at c21 | rw [oI_eq9] at c21 | skip
          refine PW.iconst (v := nI 0) hX dX4_readSign_24 (by decide) ?_
          refine PW.zret hX hR dX4_readSign_25 (by first | exact Or.inl rfl | exact Or.inr rfl | assumption) rfl rfl ?_
          exact ⟨rfl, rfl⟩
  · have e : rSign c T = (false, T) := by unfold rSign; rw [if_neg (fun z => hp z.1)]
    rw [e]
    refine PM.start (Or.inl (by decide +kernel)) rfl rfl rfl ?_
    intro X hX hR hx hin
    refine PW.aload_n hX dX4_readSign_0 rfl rfl ?_
    refine PW.getfield hX fl_X4_19 dX4_readSign_1 rfl rfl ?_
    refine PW.aload_n hX dX4_readSign_4 rfl rfl ?_
    refine PW.getfield hX fl_X4_15 dX4_readSign_5 rfl rfl ?_
    refine PW.icmp_ge (tgt := 24) hX dX4_readSign_8 (by decide) (fun c8 => ?_) (fun c8 => ?_)
    · try rw [nI_leI (by omega) (by omega)] at c8
      refine PW.iconst (v := nI 0) hX dX4_readSign_24 (by decide) ?_
      refine PW.zret hX hR dX4_readSign_25 (by first | exact Or.inl rfl | exact Or.inr rfl | assumption) rfl rfl ?_
      exact ⟨rfl, rfl⟩
    · try rw [nI_leI (by omega) (by omega)] at c8
      exfalso; omega -- CLOSED
def rFig (T : Te) : Bool × Te := match dgt T with
  | none => (false, teF T (-9))
  | some x => (true, teF (teAdv T) (nI x))
def rOwn (T : Te) : Bool × Te := match dgt T with
  | none => (false, teO T (-9))
  | some x => (true, teO (teAdv T) (nI x))
def rMin (T : Te) : Bool × Te := match dgt T with
  | none => (false, teM T (-9))
  | some x => match dgt (teM (teAdv T) (nI x)) with
    | none => (true, teM (teAdv T) (nI x))
    | some y => (true, teM (teAdv (teM (teAdv T) (nI x))) (nI (10 * x + y)))
theorem adv_R {T : Te} (tr : TeR T) (h : tepl T < ten T) : TeR (teAdv T) := ⟨tr.1, h, tr.2.2⟩
theorem pm_readFigure (T : Te) (tr : TeR T) : PM mu_X4_readFigure 1 0 0 [.ref 0] (teB 0 T) (eqP (some (.int (bI (rFig T).1))) (teB 0 (rFig T).2)) := by
  have cM := pm_readDigit T tr
  cases hd : dgt T with
  | none =>
    have e : rFig T = (false, teF T (-9)) := by unfold rFig; rw [hd]
    have e2 : teDg T = T := by unfold teDg; rw [hd]
    rw [hd, e2] at cM
    rw [e]
    refine PM.start (Or.inl (by decide +kernel)) rfl rfl rfl ?_
    intro X hX hR hx hin
    refine PW.aload_n hX dX4_readFigure_0 rfl rfl ?_
    refine PW.aload_n hX dX4_readFigure_1 rfl rfl ?_
    refine PW.vIi hX ml_X4_73 (id cM) dX4_readFigure_2 2 rfl rfl rfl rfl rfl rfl rfl rfl rfl rfl rfl rfl rfl rfl rfl ?_
    refine PW.putI hX fp_X4_31 dX4_readFigure_5 rfl rfl ?_
    refine PW.aload_n hX dX4_readFigure_8 rfl rfl ?_
    refine PW.getfield hX fl_X4_31 dX4_readFigure_9 rfl rfl ?_
    refine PW.if_lt (tgt := 19) hX dX4_readFigure_12 (by decide) (fun c12 => ?_) (fun c12 => ?_)
    · try rw [nI_lt0 (by omega)] at c12
      refine PW.iconst (v := nI 0) hX dX4_readFigure_19 (by decide) ?_
      refine PW.zret hX hR dX4_readFigure_20 (by first | exact Or.inl rfl | exact Or.inr rfl | assumption) rfl rfl ?_
      exact ⟨rfl, rfl⟩
    · try rw [nI_lt0 (by omega)] at c12
      exact absurd (show (-9 : Int32) < 0 by decide) c12 -- CLOSED
  | some x =>
    have hx := dgt_lt hd
    have e : rFig T = (true, teF (teAdv T) (nI x)) := by unfold rFig; rw [hd]
    have e2 : teDg T = teAdv T := by unfold teDg; rw [hd]
    rw [hd, e2] at cM
    rw [e]
    refine PM.start (Or.inl (by decide +kernel)) rfl rfl rfl ?_
    intro X hX hR hx hin
    refine PW.aload_n hX dX4_readFigure_0 rfl rfl ?_
    refine PW.aload_n hX dX4_readFigure_1 rfl rfl ?_
    refine PW.vIi hX ml_X4_73 (id cM) dX4_readFigure_2 2 rfl rfl rfl rfl rfl rfl rfl rfl rfl rfl rfl rfl rfl rfl rfl ?_
    refine PW.putI hX fp_X4_31 dX4_readFigure_5 rfl rfl ?_
    refine PW.aload_n hX dX4_readFigure_8 rfl rfl ?_
    refine PW.getfield hX fl_X4_31 dX4_readFigure_9 rfl rfl ?_
    refine PW.if_lt (tgt := 19) hX dX4_readFigure_12 (by decide) (fun c12 => ?_) (fun c12 => ?_)
    · try rw [nI_lt0 (by omega)] at c12
      exact absurd c12 (nI_pos (show x < 2 ^ 31 by omega)) -- CLOSED
    · try rw [nI_lt0 (by omega)] at c12
      refine PW.iconst (v := nI 1) hX dX4_readFigure_15 (by decide) ?_
      refine PW.goto (tgt := 20) hX dX4_readFigure_16 (by decide) ?_
      refine PW.zret hX hR dX4_readFigure_20 (by first | exact Or.inl rfl | exact Or.inr rfl | assumption) rfl rfl ?_
      exact ⟨rfl, rfl⟩
theorem pm_readMinute (T : Te) (tr : TeR T) : PM mu_X4_readMinute 1 0 0 [.ref 0] (teB 0 T) (eqP (some (.int (bI (rMin T).1))) (teB 0 (rMin T).2)) := by
  have cM := pm_readDigit T tr
  cases hd : dgt T with
  | none =>
    have e : rMin T = (false, teM T (-9)) := by unfold rMin; rw [hd]
    have e2 : teDg T = T := by unfold teDg; rw [hd]
    rw [hd, e2] at cM
    rw [e]
    refine PM.start (Or.inl (by decide +kernel)) rfl rfl rfl ?_
    intro X hX hR hx hin
    refine PW.aload_n hX dX4_readMinute_0 rfl rfl ?_
    refine PW.aload_n hX dX4_readMinute_1 rfl rfl ?_
    refine PW.vIi hX ml_X4_73 (id cM) dX4_readMinute_2 2 rfl rfl rfl rfl rfl rfl rfl rfl rfl rfl rfl rfl rfl rfl rfl ?_
    refine PW.putI hX fp_X4_34 dX4_readMinute_5 rfl rfl ?_
    refine PW.aload_n hX dX4_readMinute_8 rfl rfl ?_
    refine PW.getfield hX fl_X4_34 dX4_readMinute_9 rfl rfl ?_
    refine PW.if_ge (tgt := 17) hX dX4_readMinute_12 (by decide) (fun c12 => ?_) (fun c12 => ?_)
    · exact absurd (show (0 : Int32) ≤ -9 from c12) (by decide) -- CLOSED
    · refine PW.iconst (v := nI 0) hX dX4_readMinute_15 (by decide) ?_
      refine PW.zret hX hR dX4_readMinute_16 (by first | exact Or.inl rfl | exact Or.inr rfl | assumption) rfl rfl ?_
      exact ⟨rfl, rfl⟩
  | some x =>
    have hx := dgt_lt hd
    have e2 : teDg T = teAdv T := by unfold teDg; rw [hd]
    rw [hd, e2] at cM
    have cN := pm_readDigit (teM (teAdv T) (nI x)) (adv_R tr hx.2)
    cases hd2 : dgt (teM (teAdv T) (nI x)) with
    | none =>
      have e : rMin T = (true, teM (teAdv T) (nI x)) := by unfold rMin; rw [hd]; dsimp only; rw [hd2]
      have e3 : teDg (teM (teAdv T) (nI x)) = teM (teAdv T) (nI x) := by unfold teDg; rw [hd2]
      rw [hd2, e3] at cN
      rw [e]
      refine PM.start (Or.inl (by decide +kernel)) rfl rfl rfl ?_
      intro X hX hR hx hin
      refine PW.aload_n hX dX4_readMinute_0 rfl rfl ?_
      refine PW.aload_n hX dX4_readMinute_1 rfl rfl ?_
      refine PW.vIi hX ml_X4_73 (id cM) dX4_readMinute_2 2 rfl rfl rfl rfl rfl rfl rfl rfl rfl rfl rfl rfl rfl rfl rfl ?_
      refine PW.putI hX fp_X4_34 dX4_readMinute_5 rfl rfl ?_
      refine PW.aload_n hX dX4_readMinute_8 rfl rfl ?_
      refine PW.getfield hX fl_X4_34 dX4_readMinute_9 rfl rfl ?_
      refine PW.if_ge (tgt := 17) hX dX4_readMinute_12 (by decide) (fun c12 => ?_) (fun c12 => ?_)
      · refine PW.aload_n hX dX4_readMinute_17 rfl rfl ?_
        refine PW.vIi hX ml_X4_73 (id cN) dX4_readMinute_18 2 rfl rfl rfl rfl rfl rfl rfl rfl rfl rfl rfl rfl rfl rfl rfl ?_
        refine PW.istore_n hX dX4_readMinute_21 rfl rfl ?_
        refine PW.iload_n hX dX4_readMinute_22 rfl rfl ?_
        refine PW.if_lt (tgt := 39) hX dX4_readMinute_23 (by decide) (fun c23 => ?_) (fun c23 => ?_)
        · refine PW.iconst (v := nI 1) hX dX4_readMinute_39 (by decide) ?_
          refine PW.zret hX hR dX4_readMinute_40 (by first | exact Or.inl rfl | exact Or.inr rfl | assumption) rfl rfl ?_
          exact ⟨rfl, rfl⟩
        · exact absurd (show (-9 : Int32) < 0 by decide) c23 -- CLOSED
      · exact absurd (nI_pos' (show x < 2 ^ 31 by omega)) c12 -- CLOSED
    | some y =>
      have hy := dgt_lt hd2
      have e : rMin T = (true, teM (teAdv (teM (teAdv T) (nI x))) (nI (10 * x + y))) := by unfold rMin; rw [hd]; dsimp only; rw [hd2]
      have e3 : teDg (teM (teAdv T) (nI x)) = teAdv (teM (teAdv T) (nI x)) := by unfold teDg; rw [hd2]
      rw [hd2, e3] at cN
      rw [e]
      refine PM.start (Or.inl (by decide +kernel)) rfl rfl rfl ?_
      intro X hX hR hx hin
      refine PW.aload_n hX dX4_readMinute_0 rfl rfl ?_
      refine PW.aload_n hX dX4_readMinute_1 rfl rfl ?_
      refine PW.vIi hX ml_X4_73 (id cM) dX4_readMinute_2 2 rfl rfl rfl rfl rfl rfl rfl rfl rfl rfl rfl rfl rfl rfl rfl ?_
      refine PW.putI hX fp_X4_34 dX4_readMinute_5 rfl rfl ?_
      refine PW.aload_n hX dX4_readMinute_8 rfl rfl ?_
      refine PW.getfield hX fl_X4_34 dX4_readMinute_9 rfl rfl ?_
      refine PW.if_ge (tgt := 17) hX dX4_readMinute_12 (by decide) (fun c12 => ?_) (fun c12 => ?_)
      · refine PW.aload_n hX dX4_readMinute_17 rfl rfl ?_
        refine PW.vIi hX ml_X4_73 (id cN) dX4_readMinute_18 2 rfl rfl rfl rfl rfl rfl rfl rfl rfl rfl rfl rfl rfl rfl rfl ?_
        refine PW.istore_n hX dX4_readMinute_21 rfl rfl ?_
        refine PW.iload_n hX dX4_readMinute_22 rfl rfl ?_
        refine PW.if_lt (tgt := 39) hX dX4_readMinute_23 (by decide) (fun c23 => ?_) (fun c23 => ?_)
        · exact absurd c23 (nI_pos (show y < 2 ^ 31 by omega)) -- CLOSED
        · refine PW.aload_n hX dX4_readMinute_26 rfl rfl ?_
          refine PW.bipush (v := nI 10) hX dX4_readMinute_27 (by decide) ?_
          refine PW.aload_n hX dX4_readMinute_29 rfl rfl ?_
          refine PW.getfield hX fl_X4_34 dX4_readMinute_30 rfl rfl ?_
          refine PW.imul hX dX4_readMinute_33 ?_
          refine PW.iload_n hX dX4_readMinute_34 rfl rfl ?_
          refine PW.iadd hX dX4_readMinute_35 ?_
          refine PW.top (show nI 10 * nI x + nI y = nI (10 * x + y) by rw [pk_mul, nI_add]) ?_
          refine PW.putI hX fp_X4_34 dX4_readMinute_36 rfl rfl ?_
          refine PW.iconst (v := nI 1) hX dX4_readMinute_39 (by decide) ?_
          refine PW.zret hX hR dX4_readMinute_40 (by first | exact Or.inl rfl | exact Or.inr rfl | assumption) rfl rfl ?_
          exact ⟨rfl, rfl⟩
      · exact absurd (nI_pos' (show x < 2 ^ 31 by omega)) c12 -- CLOSED
def rKind (i : Nat) (T : Te) : Bool × Te := if tepl T < ten T then (match ixF i (tele T (tepl T)) 6 0 with | none => (false, teK T (-1)) | some k => (true, teAdv (teK T (nI k)))) else (false, teK T (-9))
theorem ixF_lt (i c : Nat) : ∀ n k x, ixF i c n k = some x → k ≤ x ∧ x < k + n
  | 0, k, x, h => by cases h
  | n + 1, k, x, h => by
    rw [ixF] at h
    split at h
    · cases h; omega
    · have := ixF_lt i c n (k + 1) x h; omega
theorem i2cN {c : Nat} (hc : c < 256) : ((nI c).toUInt32 % 65536).toInt32 = nI c := (sb_byte c hc).2.1
theorem pm_readKind (T : Te) (tr : TeR T) (i : Nat) (hi : i < 2) : PM mu_X4_readKind 4 0 0 [.ref 0, .ref (1000 + i)] (teB 0 T) (eqP (some (.int (bI (rKind i T).1))) (teB 0 (rKind i T).2)) := by
  obtain ⟨t1, t2, t3⟩ := tr
  by_cases hp : tepl T < ten T
  · have b := t3 (tepl T) hp
    have cM := pm_indexOf i (tele T (tepl T)) hi b
    cases hx : ixF i (tele T (tepl T)) 6 0 with
    | none =>
      have e : rKind i T = (false, teK T (-1)) := by unfold rKind; rw [if_pos hp, hx]
      rw [e]
      rw [hx] at cM
      refine PM.start (Or.inl (by decide +kernel)) rfl rfl rfl ?_
      intro X hX hR hx hin
      refine PW.aload_n hX dX4_readKind_0 rfl rfl ?_
      refine PW.aload_n hX dX4_readKind_1 rfl rfl ?_
      refine PW.getfield hX fl_X4_19 dX4_readKind_2 rfl rfl ?_
      refine PW.aload_n hX dX4_readKind_5 rfl rfl ?_
      refine PW.getfield hX fl_X4_15 dX4_readKind_6 rfl rfl ?_
      refine PW.icmp_ge (tgt := 29) hX dX4_readKind_9 (by decide) (fun c9 => ?_) (fun c9 => ?_)
      · rw [nI_leI (by omega) (by omega)] at c9
        exfalso; omega -- CLOSED
      · refine PW.aload_n hX dX4_readKind_12 rfl rfl ?_
        refine PW.aload_n hX dX4_readKind_13 rfl rfl ?_
        refine PW.getfield hX fl_X4_9 dX4_readKind_14 rfl rfl ?_
        refine PW.aload_n hX dX4_readKind_17 rfl rfl ?_
        refine PW.getfield hX fl_X4_19 dX4_readKind_18 rfl rfl ?_
        refine PW.iaload hX dX4_readKind_21 rfl rfl rfl (by omega) ?_
        refine PW.i2c hX dX4_readKind_22 (i2cN b) ?_
        refine PW.tR (i := i) (As := [.int (nI (tele T (tepl T)))]) hX ml_X4_80 rfl hi cM dX4_readKind_23 rfl rfl rfl rfl rfl rfl rfl ?_
        refine PW.goto (tgt := 31) hX dX4_readKind_26 (by decide) ?_
        refine PW.putI hX fp_X4_25 dX4_readKind_31 rfl rfl ?_
        refine PW.aload_n hX dX4_readKind_34 rfl rfl ?_
        refine PW.getfield hX fl_X4_25 dX4_readKind_35 rfl rfl ?_
        refine PW.if_ge (tgt := 43) hX dX4_readKind_38 (by decide) (fun c38 => ?_) (fun c38 => ?_)
        · exact absurd (show (0 : Int32) ≤ -1 from c38) (by decide) -- CLOSED
        · refine PW.iconst (v := nI 0) hX dX4_readKind_41 (by decide) ?_
          refine PW.zret hX hR dX4_readKind_42 (by first | exact Or.inl rfl | exact Or.inr rfl | assumption) rfl rfl ?_
          exact ⟨rfl, rfl⟩
    | some k =>
      have hk := ixF_lt _ _ _ _ _ hx
      have e : rKind i T = (true, teAdv (teK T (nI k))) := by unfold rKind; rw [if_pos hp, hx]
      rw [e]
      rw [hx] at cM
      refine PM.start (Or.inl (by decide +kernel)) rfl rfl rfl ?_
      intro X hX hR hx hin
      refine PW.aload_n hX dX4_readKind_0 rfl rfl ?_
      refine PW.aload_n hX dX4_readKind_1 rfl rfl ?_
      refine PW.getfield hX fl_X4_19 dX4_readKind_2 rfl rfl ?_
      refine PW.aload_n hX dX4_readKind_5 rfl rfl ?_
      refine PW.getfield hX fl_X4_15 dX4_readKind_6 rfl rfl ?_
      refine PW.icmp_ge (tgt := 29) hX dX4_readKind_9 (by decide) (fun c9 => ?_) (fun c9 => ?_)
      · rw [nI_leI (by omega) (by omega)] at c9
        exfalso; omega -- CLOSED
      · refine PW.aload_n hX dX4_readKind_12 rfl rfl ?_
        refine PW.aload_n hX dX4_readKind_13 rfl rfl ?_
        refine PW.getfield hX fl_X4_9 dX4_readKind_14 rfl rfl ?_
        refine PW.aload_n hX dX4_readKind_17 rfl rfl ?_
        refine PW.getfield hX fl_X4_19 dX4_readKind_18 rfl rfl ?_
        refine PW.iaload hX dX4_readKind_21 rfl rfl rfl (by omega) ?_
        refine PW.i2c hX dX4_readKind_22 (i2cN b) ?_
        refine PW.tR (i := i) (As := [.int (nI (tele T (tepl T)))]) hX ml_X4_80 rfl hi cM dX4_readKind_23 rfl rfl rfl rfl rfl rfl rfl ?_
        refine PW.goto (tgt := 31) hX dX4_readKind_26 (by decide) ?_
        refine PW.putI hX fp_X4_25 dX4_readKind_31 rfl rfl ?_
        refine PW.aload_n hX dX4_readKind_34 rfl rfl ?_
        refine PW.getfield hX fl_X4_25 dX4_readKind_35 rfl rfl ?_
        refine PW.if_ge (tgt := 43) hX dX4_readKind_38 (by decide) (fun c38 => ?_) (fun c38 => ?_)
        · refine PW.aload_n hX dX4_readKind_43 rfl rfl ?_
          refine PW.dup hX dX4_readKind_44 rfl ?_
          refine PW.getfield hX fl_X4_19 dX4_readKind_45 rfl rfl ?_
          refine PW.iconst (v := nI 1) hX dX4_readKind_48 (by decide) ?_
          refine PW.iadd hX dX4_readKind_49 ?_
          refine PW.top (nI_add _ 1) ?_
          refine PW.putI hX fp_X4_19 dX4_readKind_50 rfl rfl ?_
          refine PW.iconst (v := nI 1) hX dX4_readKind_53 (by decide) ?_
          refine PW.zret hX hR dX4_readKind_54 (by first | exact Or.inl rfl | exact Or.inr rfl | assumption) rfl rfl ?_
          exact ⟨rfl, rfl⟩
        · exact absurd (nI_pos' (show k < 2 ^ 31 by omega)) c38 -- CLOSED
  · have e : rKind i T = (false, teK T (-9)) := by unfold rKind; rw [if_neg hp]
    rw [e]
    refine PM.start (Or.inl (by decide +kernel)) rfl rfl rfl ?_
    intro X hX hR hx hin
    refine PW.aload_n hX dX4_readKind_0 rfl rfl ?_
    refine PW.aload_n hX dX4_readKind_1 rfl rfl ?_
    refine PW.getfield hX fl_X4_19 dX4_readKind_2 rfl rfl ?_
    refine PW.aload_n hX dX4_readKind_5 rfl rfl ?_
    refine PW.getfield hX fl_X4_15 dX4_readKind_6 rfl rfl ?_
    refine PW.icmp_ge (tgt := 29) hX dX4_readKind_9 (by decide) (fun c9 => ?_) (fun c9 => ?_)
    · refine PW.bipush (v := (-9)) hX dX4_readKind_29 (by decide) ?_
      refine PW.putI hX fp_X4_25 dX4_readKind_31 rfl rfl ?_
      refine PW.aload_n hX dX4_readKind_34 rfl rfl ?_
      refine PW.getfield hX fl_X4_25 dX4_readKind_35 rfl rfl ?_
      refine PW.if_ge (tgt := 43) hX dX4_readKind_38 (by decide) (fun c38 => ?_) (fun c38 => ?_)
      · exact absurd (show (0 : Int32) ≤ -9 from c38) (by decide) -- CLOSED
      · refine PW.iconst (v := nI 0) hX dX4_readKind_41 (by decide) ?_
        refine PW.zret hX hR dX4_readKind_42 (by first | exact Or.inl rfl | exact Or.inr rfl | assumption) rfl rfl ?_
        exact ⟨rfl, rfl⟩
    · rw [nI_leI (by omega) (by omega)] at c9
      exfalso; omega -- CLOSED
