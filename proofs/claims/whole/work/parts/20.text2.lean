def andT (f g : Te → Bool × Te) (T : Te) : Bool × Te := bif (f T).1 then g (f T).2 else (false, (f T).2)
theorem andT_t {f g : Te → Bool × Te} {T : Te} (h : (f T).1 = true) : andT f g T = g (f T).2 := by unfold andT; rw [h]; rfl
theorem andT_f {f g : Te → Bool × Te} {T : Te} (h : (f T).1 = false) : andT f g T = (false, (f T).2) := by unfold andT; rw [h]; rfl
def TeS (f : Te → Bool × Te) : Prop := ∀ T, TeR T → TeR (f T).2 ∧ tele (f T).2 = tele T ∧ ten (f T).2 = ten T ∧ tehd (f T).2 = tehd T ∧ tepl T ≤ tepl (f T).2
theorem andT_S {f g : Te → Bool × Te} (hf : TeS f) (hg : TeS g) : TeS (andT f g) := by
  intro T tr
  obtain ⟨f1, f2, f3, f4, f5⟩ := hf T tr
  cases h : (f T).1 with
  | true =>
    rw [andT_t h]
    obtain ⟨g1, g2, g3, g4, g5⟩ := hg _ f1
    exact ⟨g1, g2.trans f2, g3.trans f3, g4.trans f4, Nat.le_trans f5 g5⟩
  | false => rw [andT_f h]; exact ⟨f1, f2, f3, f4, f5⟩
theorem rFig_S : TeS rFig := by
  intro T tr
  unfold rFig
  cases hd : dgt T with
  | none => exact ⟨tr, rfl, rfl, rfl, Nat.le_refl _⟩
  | some x => exact ⟨adv_R tr (dgt_lt hd).2, rfl, rfl, rfl, Nat.le_succ _⟩
theorem rOwn_S : TeS rOwn := by
  intro T tr
  unfold rOwn
  cases hd : dgt T with
  | none => exact ⟨tr, rfl, rfl, rfl, Nat.le_refl _⟩
  | some x => exact ⟨adv_R tr (dgt_lt hd).2, rfl, rfl, rfl, Nat.le_succ _⟩
theorem rMin_S : TeS rMin := by
  intro T tr
  unfold rMin
  cases hd : dgt T with
  | none => exact ⟨tr, rfl, rfl, rfl, Nat.le_refl _⟩
  | some x =>
    dsimp only
    have h1 := adv_R tr (dgt_lt hd).2
    cases hd2 : dgt (teM (teAdv T) (nI x)) with
    | none => exact ⟨h1, rfl, rfl, rfl, Nat.le_succ _⟩
    | some y => exact ⟨adv_R (T := teM (teAdv T) (nI x)) h1 (dgt_lt hd2).2, rfl, rfl, rfl, Nat.le_succ_of_le (Nat.le_succ _)⟩
theorem rSign_S (c : Nat) : TeS (rSign c) := by
  intro T tr
  unfold rSign
  split
  · rename_i h
    exact ⟨adv_R tr h.1, rfl, rfl, rfl, Nat.le_succ _⟩
  · exact ⟨tr, rfl, rfl, rfl, Nat.le_refl _⟩
theorem rKind_S (i : Nat) : TeS (rKind i) := by
  intro T tr
  unfold rKind
  split
  · rename_i h
    cases hx : ixF i (tele T (tepl T)) 6 0 with
    | none => exact ⟨tr, rfl, rfl, rfl, Nat.le_refl _⟩
    | some k => exact ⟨adv_R (T := teK T (nI k)) tr h, rfl, rfl, rfl, Nat.le_succ _⟩
  · exact ⟨tr, rfl, rfl, rfl, Nat.le_refl _⟩
def rOFM : Te → Bool × Te := andT rOwn (andT rFig (andT (rSign 44) (andT rMin (rSign 59))))
theorem rOFM_S : TeS rOFM := andT_S rOwn_S (andT_S rFig_S (andT_S (rSign_S 44) (andT_S rMin_S (rSign_S 59))))
theorem pm_rOFM (T : Te) (tr : TeR T) : PM mu_X4_readOwnerFigureMinute 2 0 0 [.ref 0] (teB 0 T) (eqP (some (.int (bI (rOFM T).1))) (teB 0 (rOFM T).2)) := by
  have cM := pm_readDigit T tr
  cases hd : dgt T with
  | none =>
    have e1 : rOwn T = (false, teO T (-9)) := by unfold rOwn; rw [hd]
    have e : rOFM T = (false, teO T (-9)) := by unfold rOFM; rw [andT_f (by rw [e1]), e1]
    have e2 : teDg T = T := by unfold teDg; rw [hd]
    rw [hd, e2] at cM
    rw [e]
    refine PM.start (Or.inl (by decide +kernel)) rfl rfl rfl ?_
    intro X hX hR hx hin
    refine PW.aload_n hX dX4_readOwnerFigureMinute_0 rfl rfl ?_
    refine PW.aload_n hX dX4_readOwnerFigureMinute_1 rfl rfl ?_
    refine PW.vIi hX ml_X4_73 (id cM) dX4_readOwnerFigureMinute_2 2 rfl rfl rfl rfl rfl rfl rfl rfl rfl rfl rfl rfl rfl rfl rfl ?_
    refine PW.putI hX fp_X4_28 dX4_readOwnerFigureMinute_5 rfl rfl ?_
    refine PW.aload_n hX dX4_readOwnerFigureMinute_8 rfl rfl ?_
    refine PW.getfield hX fl_X4_28 dX4_readOwnerFigureMinute_9 rfl rfl ?_
    refine PW.if_lt (tgt := 51) hX dX4_readOwnerFigureMinute_12 (by decide) (fun c12 => ?_) (fun c12 => ?_)
    · refine PW.iconst (v := nI 0) hX dX4_readOwnerFigureMinute_51 (by decide) ?_
      refine PW.zret hX hR dX4_readOwnerFigureMinute_52 (by first | exact Or.inl rfl | exact Or.inr rfl | assumption) rfl rfl ?_
      exact ⟨rfl, rfl⟩
    · exact absurd (show (-9 : Int32) < 0 by decide) c12 -- CLOSED
  | some x =>
    have hx := dgt_lt hd
    have e1 : rOwn T = (true, teO (teAdv T) (nI x)) := by unfold rOwn; rw [hd]
    have e : rOFM T = andT rFig (andT (rSign 44) (andT rMin (rSign 59))) (teO (teAdv T) (nI x)) := by unfold rOFM; rw [andT_t (by rw [e1]), e1]
    have e2 : teDg T = teAdv T := by unfold teDg; rw [hd]
    rw [hd, e2] at cM
    rw [e]
    have tr1 : TeR (teO (teAdv T) (nI x)) := adv_R tr hx.2
    have cF := pm_readFigure _ tr1
    have tr2 := (rFig_S _ tr1).1
    have cS := pm_readSign _ tr2 44 (by decide)
    have tr3 := (rSign_S 44 _ tr2).1
    have cN := pm_readMinute _ tr3
    have tr4 := (rMin_S _ tr3).1
    have cE := pm_readSign _ tr4 59 (by decide)
    refine PM.start (Or.inl (by decide +kernel)) rfl rfl rfl ?_
    intro X hX hR hx hin
    refine PW.aload_n hX dX4_readOwnerFigureMinute_0 rfl rfl ?_
    refine PW.aload_n hX dX4_readOwnerFigureMinute_1 rfl rfl ?_
    refine PW.vIi hX ml_X4_73 (id cM) dX4_readOwnerFigureMinute_2 2 rfl rfl rfl rfl rfl rfl rfl rfl rfl rfl rfl rfl rfl rfl rfl ?_
    refine PW.putI hX fp_X4_28 dX4_readOwnerFigureMinute_5 rfl rfl ?_
    refine PW.aload_n hX dX4_readOwnerFigureMinute_8 rfl rfl ?_
    refine PW.getfield hX fl_X4_28 dX4_readOwnerFigureMinute_9 rfl rfl ?_
    refine PW.if_lt (tgt := 51) hX dX4_readOwnerFigureMinute_12 (by decide) (fun c12 => ?_) (fun c12 => ?_)
    · try rw [nI_lt0 (by omega)] at c12
      exact absurd c12 (nI_pos (show x < 2 ^ 31 by omega)) -- CLOSED
    · try rw [nI_lt0 (by omega)] at c12
      refine PW.aload_n hX dX4_readOwnerFigureMinute_15 rfl rfl ?_
      refine PW.vIi hX ml_X4_50 (id cF) dX4_readOwnerFigureMinute_16 2 rfl rfl rfl rfl rfl rfl rfl rfl rfl rfl rfl rfl rfl rfl rfl ?_
      refine PW.if_eq (tgt := 51) hX dX4_readOwnerFigureMinute_19 (by decide) (fun c19 => ?_) (fun c19 => ?_)
      · first | rw [bI_d0] at c19 | rw [bI_eq0] at c19 | rw [nI_eq0 (by omega)] at c19 | skip
        refine PW.iconst (v := nI 0) hX dX4_readOwnerFigureMinute_51 (by decide) ?_
        refine PW.zret hX hR dX4_readOwnerFigureMinute_52 (by first | exact Or.inl rfl | exact Or.inr rfl | assumption) rfl rfl ?_
        rw [andT_f c19]
        exact ⟨rfl, rfl⟩
      · first | rw [bI_d0] at c19 | rw [bI_eq0] at c19 | rw [nI_eq0 (by omega)] at c19 | skip
        rw [Bool.not_eq_false] at c19
        refine PW.aload_n hX dX4_readOwnerFigureMinute_22 rfl rfl ?_
        refine PW.bipush (v := nI 44) hX dX4_readOwnerFigureMinute_23 (by decide) ?_
        refine PW.vIi hX ml_X4_53 (id cS) dX4_readOwnerFigureMinute_25 2 rfl rfl rfl rfl rfl rfl rfl rfl rfl rfl rfl rfl rfl rfl rfl ?_
        refine PW.if_eq (tgt := 51) hX dX4_readOwnerFigureMinute_28 (by decide) (fun c28 => ?_) (fun c28 => ?_)
        · first | rw [bI_d0] at c28 | rw [bI_eq0] at c28 | rw [nI_eq0 (by omega)] at c28 | skip
          refine PW.iconst (v := nI 0) hX dX4_readOwnerFigureMinute_51 (by decide) ?_
          refine PW.zret hX hR dX4_readOwnerFigureMinute_52 (by first | exact Or.inl rfl | exact Or.inr rfl | assumption) rfl rfl ?_
          rw [andT_t c19, andT_f c28]
          exact ⟨rfl, rfl⟩
        · first | rw [bI_d0] at c28 | rw [bI_eq0] at c28 | rw [nI_eq0 (by omega)] at c28 | skip
          rw [Bool.not_eq_false] at c28
          refine PW.aload_n hX dX4_readOwnerFigureMinute_31 rfl rfl ?_
          refine PW.vIi hX ml_X4_77 (id cN) dX4_readOwnerFigureMinute_32 2 rfl rfl rfl rfl rfl rfl rfl rfl rfl rfl rfl rfl rfl rfl rfl ?_
          refine PW.if_eq (tgt := 51) hX dX4_readOwnerFigureMinute_35 (by decide) (fun c35 => ?_) (fun c35 => ?_)
          · first | rw [bI_d0] at c35 | rw [bI_eq0] at c35 | rw [nI_eq0 (by omega)] at c35 | skip
            refine PW.iconst (v := nI 0) hX dX4_readOwnerFigureMinute_51 (by decide) ?_
            refine PW.zret hX hR dX4_readOwnerFigureMinute_52 (by first | exact Or.inl rfl | exact Or.inr rfl | assumption) rfl rfl ?_
            rw [andT_t c19, andT_t c28, andT_f c35]
            exact ⟨rfl, rfl⟩
          · first | rw [bI_d0] at c35 | rw [bI_eq0] at c35 | rw [nI_eq0 (by omega)] at c35 | skip
            rw [Bool.not_eq_false] at c35
            refine PW.aload_n hX dX4_readOwnerFigureMinute_38 rfl rfl ?_
            refine PW.bipush (v := nI 59) hX dX4_readOwnerFigureMinute_39 (by decide) ?_
            refine PW.vIi hX ml_X4_53 (id cE) dX4_readOwnerFigureMinute_41 2 rfl rfl rfl rfl rfl rfl rfl rfl rfl rfl rfl rfl rfl rfl rfl ?_
            refine PW.if_eq (tgt := 51) hX dX4_readOwnerFigureMinute_44 (by decide) (fun c44 => ?_) (fun c44 => ?_)
            · first | rw [bI_d0] at c44 | rw [bI_eq0] at c44 | rw [nI_eq0 (by omega)] at c44 | skip
              refine PW.iconst (v := nI 0) hX dX4_readOwnerFigureMinute_51 (by decide) ?_
              refine PW.zret hX hR dX4_readOwnerFigureMinute_52 (by first | exact Or.inl rfl | exact Or.inr rfl | assumption) rfl rfl ?_
              rw [andT_t c19, andT_t c28, andT_t c35]
              exact ⟨rF c44, rfl⟩
            · first | rw [bI_d0] at c44 | rw [bI_eq0] at c44 | rw [nI_eq0 (by omega)] at c44 | skip
              rw [Bool.not_eq_false] at c44
              refine PW.iconst (v := nI 1) hX dX4_readOwnerFigureMinute_47 (by decide) ?_
              refine PW.goto (tgt := 52) hX dX4_readOwnerFigureMinute_48 (by decide) ?_
              refine PW.zret hX hR dX4_readOwnerFigureMinute_52 (by first | exact Or.inl rfl | exact Or.inr rfl | assumption) rfl rfl ?_
              rw [andT_t c19, andT_t c28, andT_t c35]
              exact ⟨rT c44, rfl⟩
def hdO (T : Te) : Nat := if tepl T < ten T then tele T (tepl T) else 0
def rSt (T : Te) : Bool × Te :=
  if hdO T = 106 then rOFM (teAdv (teH T 106)) else if hdO T = 109 then andT (rKind 0) (andT rFig (rSign 59)) (teAdv (teH T 109)) else if hdO T = 116 then andT (rKind 1) rOFM (teAdv (teH T 116)) else (false, teH T (hdO T))
theorem hdO_lt {T : Te} (h : ¬ hdO T = 0) : tepl T < ten T ∧ tele T (tepl T) = hdO T := by
  unfold hdO at h ⊢
  split at h
  · rename_i q; exact ⟨q, by rw [if_pos q]⟩
  · exact absurd rfl h
theorem rSt_R (T : Te) (tr : TeR T) : TeR (rSt T).2 ∧ tele (rSt T).2 = tele T ∧ ten (rSt T).2 = ten T ∧ tehd (rSt T).2 = hdO T ∧ ((rSt T).1 = true → tepl T < tepl (rSt T).2) := by
  unfold rSt
  split
  · rename_i h
    have hl := hdO_lt (T := T) (by omega)
    obtain ⟨a, b, c, d, e⟩ := rOFM_S (teAdv (teH T 106)) (adv_R (T := teH T 106) tr hl.1)
    exact ⟨a, b, c, d.trans h.symm, fun _ => e⟩
  · split
    · rename_i h
      have hl := hdO_lt (T := T) (by omega)
      obtain ⟨a, b, c, d, e⟩ := andT_S (rKind_S 0) (andT_S rFig_S (rSign_S 59)) (teAdv (teH T 109)) (adv_R (T := teH T 109) tr hl.1)
      exact ⟨a, b, c, d.trans h.symm, fun _ => e⟩
    · split
      · rename_i h
        have hl := hdO_lt (T := T) (by omega)
        obtain ⟨a, b, c, d, e⟩ := andT_S (rKind_S 1) rOFM_S (teAdv (teH T 116)) (adv_R (T := teH T 116) tr hl.1)
        exact ⟨a, b, c, d.trans h.symm, fun _ => e⟩
      · exact ⟨tr, rfl, rfl, rfl, fun h => by cases h⟩
theorem pm_readStatement (T : Te) (tr : TeR T) : PM mu_X4_readStatement 5 0 0 [.ref 0] (teB 0 T) (eqP (some (.int (bI (rSt T).1))) (teB 0 (rSt T).2)) := by
  have hb : hdO T < 256 := by
    unfold hdO
    split
    · rename_i q; exact tr.2.2 _ q
    · decide
  refine PM.start (Or.inl (by decide +kernel)) rfl rfl rfl ?_
  intro X hX hR hx hin
  have h25 : PW X 25 [some (.ref 0)] [.int (nI (hdO T)), .ref 0] (teB 0 T) 0 0 := by
    by_cases h1 : hdO T = 106
    · have e : rSt T = rOFM (teAdv (teH T 106)) := by unfold rSt; rw [if_pos h1]
      have cM := pm_rOFM (teAdv (teH T 106)) (adv_R (T := teH T 106) tr (hdO_lt (T := T) (by omega)).1)
      rw [h1]
      rw [e] at hR
      refine PW.putI hX fp_X4_22 dX4_readStatement_25 rfl rfl ?_
      refine PW.aload_n hX dX4_readStatement_28 rfl rfl ?_
      refine PW.getfield hX fl_X4_22 dX4_readStatement_29 rfl rfl ?_
      refine PW.lookup (off := 36) (tgt := 68) hX dX4_readStatement_32 (by decide) (by decide) (by decide) ?_
      refine PW.aload_n hX dX4_readStatement_68 rfl rfl ?_
      refine PW.dup hX dX4_readStatement_69 rfl ?_
      refine PW.getfield hX fl_X4_19 dX4_readStatement_70 rfl rfl ?_
      refine PW.iconst (v := nI 1) hX dX4_readStatement_73 (by decide) ?_
      refine PW.iadd hX dX4_readStatement_74 ?_
      refine PW.top (nI_add _ 1) ?_
      refine PW.putI hX fp_X4_19 dX4_readStatement_75 rfl rfl ?_
      refine PW.aload_n hX dX4_readStatement_78 rfl rfl ?_
      refine PW.vIi hX ml_X4_41 (id cM) dX4_readStatement_79 2 rfl rfl rfl rfl rfl rfl rfl rfl rfl rfl rfl rfl rfl rfl rfl ?_
      refine PW.zret hX hR dX4_readStatement_82 (bI_01 _) rfl rfl ?_
      exact ⟨rfl, rfl⟩
    · by_cases h2 : hdO T = 109
      · have e : rSt T = andT (rKind 0) (andT rFig (rSign 59)) (teAdv (teH T 109)) := by unfold rSt; rw [if_neg h1, if_pos h2]
        have tr1 : TeR (teAdv (teH T 109)) := adv_R (T := teH T 109) tr (hdO_lt (T := T) (by omega)).1
        have cK := pm_readKind (teAdv (teH T 109)) tr1 0 (by decide)
        have tr2 := (rKind_S 0 _ tr1).1
        have cF := pm_readFigure _ tr2
        have tr3 := (rFig_S _ tr2).1
        have cS := pm_readSign _ tr3 59 (by decide)
        rw [h2]
        rw [e] at hR
        refine PW.putI hX fp_X4_22 dX4_readStatement_25 rfl rfl ?_
        refine PW.aload_n hX dX4_readStatement_28 rfl rfl ?_
        refine PW.getfield hX fl_X4_22 dX4_readStatement_29 rfl rfl ?_
        refine PW.lookup (off := 51) (tgt := 83) hX dX4_readStatement_32 (by decide) (by decide) (by decide) ?_
        refine PW.aload_n hX dX4_readStatement_83 rfl rfl ?_
        refine PW.dup hX dX4_readStatement_84 rfl ?_
        refine PW.getfield hX fl_X4_19 dX4_readStatement_85 rfl rfl ?_
        refine PW.iconst (v := nI 1) hX dX4_readStatement_88 (by decide) ?_
        refine PW.iadd hX dX4_readStatement_89 ?_
        refine PW.top (nI_add _ 1) ?_
        refine PW.putI hX fp_X4_19 dX4_readStatement_90 rfl rfl ?_
        refine PW.aload_n hX dX4_readStatement_93 rfl rfl ?_
        refine PW.ldcT0 hX dX4_readStatement_94 ?_
        refine PW.vIi hX ml_X4_46 (id cK) dX4_readStatement_96 2 rfl rfl rfl rfl rfl rfl rfl rfl rfl rfl rfl rfl rfl rfl rfl ?_
        refine PW.if_eq (tgt := 122) hX dX4_readStatement_99 (by decide) (fun c99 => ?_) (fun c99 => ?_)
        · first | rw [bI_d0] at c99 | rw [bI_eq0] at c99 | rw [nI_eq0 (by omega)] at c99 | skip
          refine PW.iconst (v := nI 0) hX dX4_readStatement_122 (by decide) ?_
          refine PW.zret hX hR dX4_readStatement_123 (by first | exact Or.inl rfl | exact Or.inr rfl | assumption) rfl rfl ?_
          rw [andT_f c99]
          exact ⟨rfl, rfl⟩
        · first | rw [bI_d0] at c99 | rw [bI_eq0] at c99 | rw [nI_eq0 (by omega)] at c99 | skip
          rw [Bool.not_eq_false] at c99
          refine PW.aload_n hX dX4_readStatement_102 rfl rfl ?_
          refine PW.vIi hX ml_X4_50 (id cF) dX4_readStatement_103 2 rfl rfl rfl rfl rfl rfl rfl rfl rfl rfl rfl rfl rfl rfl rfl ?_
          refine PW.if_eq (tgt := 122) hX dX4_readStatement_106 (by decide) (fun c106 => ?_) (fun c106 => ?_)
          · first | rw [bI_d0] at c106 | rw [bI_eq0] at c106 | rw [nI_eq0 (by omega)] at c106 | skip
            refine PW.iconst (v := nI 0) hX dX4_readStatement_122 (by decide) ?_
            refine PW.zret hX hR dX4_readStatement_123 (by first | exact Or.inl rfl | exact Or.inr rfl | assumption) rfl rfl ?_
            rw [andT_t c99, andT_f c106]
            exact ⟨rfl, rfl⟩
          · first | rw [bI_d0] at c106 | rw [bI_eq0] at c106 | rw [nI_eq0 (by omega)] at c106 | skip
            rw [Bool.not_eq_false] at c106
            refine PW.aload_n hX dX4_readStatement_109 rfl rfl ?_
            refine PW.bipush (v := nI 59) hX dX4_readStatement_110 (by decide) ?_
            refine PW.vIi hX ml_X4_53 (id cS) dX4_readStatement_112 2 rfl rfl rfl rfl rfl rfl rfl rfl rfl rfl rfl rfl rfl rfl rfl ?_
            refine PW.if_eq (tgt := 122) hX dX4_readStatement_115 (by decide) (fun c115 => ?_) (fun c115 => ?_)
            · first | rw [bI_d0] at c115 | rw [bI_eq0] at c115 | rw [nI_eq0 (by omega)] at c115 | skip
              refine PW.iconst (v := nI 0) hX dX4_readStatement_122 (by decide) ?_
              refine PW.zret hX hR dX4_readStatement_123 (by first | exact Or.inl rfl | exact Or.inr rfl | assumption) rfl rfl ?_
              rw [andT_t c99, andT_t c106]
              exact ⟨rF c115, rfl⟩
            · first | rw [bI_d0] at c115 | rw [bI_eq0] at c115 | rw [nI_eq0 (by omega)] at c115 | skip
              rw [Bool.not_eq_false] at c115
              refine PW.iconst (v := nI 1) hX dX4_readStatement_118 (by decide) ?_
              refine PW.goto (tgt := 123) hX dX4_readStatement_119 (by decide) ?_
              refine PW.zret hX hR dX4_readStatement_123 (by first | exact Or.inl rfl | exact Or.inr rfl | assumption) rfl rfl ?_
              rw [andT_t c99, andT_t c106]
              exact ⟨rT c115, rfl⟩
      · by_cases h3 : hdO T = 116
        · have e : rSt T = andT (rKind 1) rOFM (teAdv (teH T 116)) := by unfold rSt; rw [if_neg h1, if_neg h2, if_pos h3]
          have tr1 : TeR (teAdv (teH T 116)) := adv_R (T := teH T 116) tr (hdO_lt (T := T) (by omega)).1
          have cK := pm_readKind (teAdv (teH T 116)) tr1 1 (by decide)
          have tr2 := (rKind_S 1 _ tr1).1
          have cF := pm_rOFM _ tr2
          rw [h3]
          rw [e] at hR
          refine PW.putI hX fp_X4_22 dX4_readStatement_25 rfl rfl ?_
          refine PW.aload_n hX dX4_readStatement_28 rfl rfl ?_
          refine PW.getfield hX fl_X4_22 dX4_readStatement_29 rfl rfl ?_
          refine PW.lookup (off := 92) (tgt := 124) hX dX4_readStatement_32 (by decide) (by decide) (by decide) ?_
          refine PW.aload_n hX dX4_readStatement_124 rfl rfl ?_
          refine PW.dup hX dX4_readStatement_125 rfl ?_
          refine PW.getfield hX fl_X4_19 dX4_readStatement_126 rfl rfl ?_
          refine PW.iconst (v := nI 1) hX dX4_readStatement_129 (by decide) ?_
          refine PW.iadd hX dX4_readStatement_130 ?_
          refine PW.top (nI_add _ 1) ?_
          refine PW.putI hX fp_X4_19 dX4_readStatement_131 rfl rfl ?_
          refine PW.aload_n hX dX4_readStatement_134 rfl rfl ?_
          refine PW.ldcT1 hX dX4_readStatement_135 ?_
          refine PW.vIi hX ml_X4_46 (id cK) dX4_readStatement_137 2 rfl rfl rfl rfl rfl rfl rfl rfl rfl rfl rfl rfl rfl rfl rfl ?_
          refine PW.if_eq (tgt := 154) hX dX4_readStatement_140 (by decide) (fun c140 => ?_) (fun c140 => ?_)
          · first | rw [bI_d0] at c140 | rw [bI_eq0] at c140 | rw [nI_eq0 (by omega)] at c140 | skip
            refine PW.iconst (v := nI 0) hX dX4_readStatement_154 (by decide) ?_
            refine PW.zret hX hR dX4_readStatement_155 (by first | exact Or.inl rfl | exact Or.inr rfl | assumption) rfl rfl ?_
            rw [andT_f c140]
            exact ⟨rfl, rfl⟩
          · first | rw [bI_d0] at c140 | rw [bI_eq0] at c140 | rw [nI_eq0 (by omega)] at c140 | skip
            rw [Bool.not_eq_false] at c140
            refine PW.aload_n hX dX4_readStatement_143 rfl rfl ?_
            refine PW.vIi hX ml_X4_41 (id cF) dX4_readStatement_144 2 rfl rfl rfl rfl rfl rfl rfl rfl rfl rfl rfl rfl rfl rfl rfl ?_
            refine PW.if_eq (tgt := 154) hX dX4_readStatement_147 (by decide) (fun c147 => ?_) (fun c147 => ?_)
            · first | rw [bI_d0] at c147 | rw [bI_eq0] at c147 | rw [nI_eq0 (by omega)] at c147 | skip
              refine PW.iconst (v := nI 0) hX dX4_readStatement_154 (by decide) ?_
              refine PW.zret hX hR dX4_readStatement_155 (by first | exact Or.inl rfl | exact Or.inr rfl | assumption) rfl rfl ?_
              rw [andT_t c140]
              exact ⟨rF c147, rfl⟩
            · first | rw [bI_d0] at c147 | rw [bI_eq0] at c147 | rw [nI_eq0 (by omega)] at c147 | skip
              rw [Bool.not_eq_false] at c147
              refine PW.iconst (v := nI 1) hX dX4_readStatement_150 (by decide) ?_
              refine PW.goto (tgt := 155) hX dX4_readStatement_151 (by decide) ?_
              refine PW.zret hX hR dX4_readStatement_155 (by first | exact Or.inl rfl | exact Or.inr rfl | assumption) rfl rfl ?_
              rw [andT_t c140]
              exact ⟨rT c147, rfl⟩
        · have e : rSt T = (false, teH T (hdO T)) := by unfold rSt; rw [if_neg h1, if_neg h2, if_neg h3]
          rw [e] at hR
          have n1 : ¬ nI (hdO T) = 106 := fun q => h1 ((nI_eq (b := 106) (by omega) (by decide)).mp q)
          have n2 : ¬ nI (hdO T) = 109 := fun q => h2 ((nI_eq (b := 109) (by omega) (by decide)).mp q)
          have n3 : ¬ nI (hdO T) = 116 := fun q => h3 ((nI_eq (b := 116) (by omega) (by decide)).mp q)
          refine PW.putI hX fp_X4_22 dX4_readStatement_25 rfl rfl ?_
          refine PW.aload_n hX dX4_readStatement_28 rfl rfl ?_
          refine PW.getfield hX fl_X4_22 dX4_readStatement_29 rfl rfl ?_
          refine PW.lookup (off := 124) (tgt := 156) hX dX4_readStatement_32 (by decide) (by show Op.lookupswitch.offset [(106, 36), (109, 51), (116, 92)] 124 (nI (hdO T)).toInt = 124; rw [lv_osw n1 (by decide), lv_osw n2 (by decide), lv_osw n3 (by decide)]; rfl) (by decide) ?_
          refine PW.iconst (v := nI 0) hX dX4_readStatement_156 (by decide) ?_
          refine PW.zret hX hR dX4_readStatement_157 (by first | exact Or.inl rfl | exact Or.inr rfl | assumption) rfl rfl ?_
          exact ⟨rfl, rfl⟩
  by_cases hp : tepl T < ten T
  · have eh : hdO T = tele T (tepl T) := by unfold hdO; rw [if_pos hp]
    rw [eh] at h25
    have t1 := tr.1
    refine PW.aload_n hX dX4_readStatement_0 rfl rfl ?_
    refine PW.aload_n hX dX4_readStatement_1 rfl rfl ?_
    refine PW.getfield hX fl_X4_19 dX4_readStatement_2 rfl rfl ?_
    refine PW.aload_n hX dX4_readStatement_5 rfl rfl ?_
    refine PW.getfield hX fl_X4_15 dX4_readStatement_6 rfl rfl ?_
    refine PW.icmp_ge (tgt := 24) hX dX4_readStatement_9 (by decide) (fun c9 => ?_) (fun c9 => ?_)
    · try rw [nI_leI (by omega) (by omega)] at c9
      exfalso; omega -- CLOSED
    · try rw [nI_leI (by omega) (by omega)] at c9
      refine PW.aload_n hX dX4_readStatement_12 rfl rfl ?_
      refine PW.getfield hX fl_X4_9 dX4_readStatement_13 rfl rfl ?_
      refine PW.aload_n hX dX4_readStatement_16 rfl rfl ?_
      refine PW.getfield hX fl_X4_19 dX4_readStatement_17 rfl rfl ?_
      refine PW.iaload hX dX4_readStatement_20 rfl rfl rfl (by omega) ?_
      refine PW.goto (tgt := 25) hX dX4_readStatement_21 (by decide) ?_
      exact h25
  · have eh : hdO T = 0 := by unfold hdO; rw [if_neg hp]
    rw [eh] at h25
    have t1 := tr.1
    have t2 := tr.2.1
    refine PW.aload_n hX dX4_readStatement_0 rfl rfl ?_
    refine PW.aload_n hX dX4_readStatement_1 rfl rfl ?_
    refine PW.getfield hX fl_X4_19 dX4_readStatement_2 rfl rfl ?_
    refine PW.aload_n hX dX4_readStatement_5 rfl rfl ?_
    refine PW.getfield hX fl_X4_15 dX4_readStatement_6 rfl rfl ?_
    refine PW.icmp_ge (tgt := 24) hX dX4_readStatement_9 (by decide) (fun c9 => ?_) (fun c9 => ?_)
    · try rw [nI_leI (by omega) (by omega)] at c9
      refine PW.iconst (v := nI 0) hX dX4_readStatement_24 (by decide) ?_
      exact h25
    · try rw [nI_leI (by omega) (by omega)] at c9
      exfalso; omega -- CLOSED
