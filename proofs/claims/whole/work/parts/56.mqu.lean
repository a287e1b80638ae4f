/-! ===== the reference: what is asked of a day ===== -/
theorem sOut_nI {D : Dy} {g : Nat → Nat} {k : Nat} (hn : dyn D ≤ 100) (hk : k < 2 ^ 31) : sOut D g (nI k) = if k < dyn D then some (g k) else none := by
  unfold sOut
  rw [inB_nI (by omega) hk, nI_clamp hk]
  by_cases h : k < dyn D
  · rw [decide_eq_true h, if_pos h]; rfl
  · rw [decide_eq_false h, if_neg h]; rfl
theorem inB2_f {y : Int32} (h : inB 2 y = false) : ¬ y = nI 0 ∧ ¬ y = nI 1 := by
  refine ⟨fun q => ?_, fun q => ?_⟩
  · rw [q] at h; exact absurd h (by decide)
  · rw [q] at h; exact absurd h (by decide)
def qOut (D : Dy) (M M' : Md) (x y : Int32) : Int32 × Md := if x < 0 then (-4, mNo M 4) else if y = nI 0 then (oI (sOut D (dyos D) x), M') else if y = nI 1 then (oI (sOut D (dyom D) x), M') else (-2, mNo M 2)
theorem pm_mout (M : Md) (C : MC) (P : Pl) (D : Dy) (pr : PR P (mno M)) (ok : PlOk P) (dk : DyOk P D 100) (df : DF P D 100) (cr : CRl D C) (di : DIn P D) (h3 : ∀ j, j < 80 → mno M j < 100) (cG : PM mu_X7_goTo 3 0 0 [.ref 0, .int (nI 99)] (mdB M) (eqP none (mdB (sC M C)))) (x y : Int32) : PM mu_X7_out 4 0 0 [.ref 0, .int x, .int y] (mdB M) (eqP (some (.int (qOut D M (sC M C) x y).1)) (mdB (qOut D M (sC M C) x y).2)) := by
  obtain ⟨r1, r2, r3, r4, r5⟩ := cr
  have n1 := dk.2.2.1
  unfold qOut
  by_cases h0 : x < 0
  · rw [if_pos h0]
    refine PM.start (Or.inl (by decide +kernel)) rfl rfl rfl ?_
    intro X hX hR hx hin
    refine PW.iload_n hX dX7_out_0 rfl rfl ?_
    refine PW.if_ge (tgt := 11) hX dX7_out_1 (by decide) (fun c1 => ?_) (fun c1 => ?_)
    · exact absurd h0 (i32_ge0 c1) -- CLOSED
    · refine PW.aload_n hX dX7_out_4 rfl rfl ?_
      refine PW.bipush (v := (-4)) hX dX7_out_5 (by decide) ?_
      refine PW.vIi hX ml_X7_64 (pm_no M (-4) 4 (by decide) (by decide)) dX7_out_7 17 rfl rfl rfl rfl rfl rfl rfl rfl rfl rfl rfl rfl rfl rfl rfl ?_
      refine PW.iret hX hR dX7_out_10 rfl rfl ?_
      exact ⟨rfl, rfl⟩
  · rw [if_neg h0]
    obtain ⟨k, hk, rfl⟩ := nI_of h0
    rw [sOut_nI n1 hk, sOut_nI n1 hk]
    cases hy : inB 2 y with
    | false =>
      have hn := inB_neg hy
      obtain ⟨y0, y1⟩ := inB2_f hy
      rw [if_neg y0, if_neg y1]
      refine PM.start (Or.inl (by decide +kernel)) rfl rfl rfl ?_
      intro X hX hR hx hin
      refine PW.iload_n hX dX7_out_0 rfl rfl ?_
      refine PW.if_ge (tgt := 11) hX dX7_out_1 (by decide) (fun c1 => ?_) (fun c1 => ?_)
      · refine PW.iload_n hX dX7_out_11 rfl rfl ?_
        refine PW.if_lt (tgt := 20) hX dX7_out_12 (by decide) (fun c12 => ?_) (fun c12 => ?_)
        · refine PW.aload_n hX dX7_out_20 rfl rfl ?_
          refine PW.bipush (v := (-2)) hX dX7_out_21 (by decide) ?_
          refine PW.vIi hX ml_X7_64 (pm_no M (-2) 2 (by decide) (by decide)) dX7_out_23 17 rfl rfl rfl rfl rfl rfl rfl rfl rfl rfl rfl rfl rfl rfl rfl ?_
          refine PW.iret hX hR dX7_out_26 rfl rfl ?_
          exact ⟨rfl, rfl⟩
        · refine PW.iload_n hX dX7_out_15 rfl rfl ?_
          refine PW.iconst (v := nI 1) hX dX7_out_16 (by decide) ?_
          refine PW.icmp_le (tgt := 27) hX dX7_out_17 (by decide) (fun c17 => ?_) (fun c17 => ?_)
          · exact absurd c17 (mnI_nle (n := 1) (by decide) (hn.resolve_left c12)) -- CLOSED
          · refine PW.aload_n hX dX7_out_20 rfl rfl ?_
            refine PW.bipush (v := (-2)) hX dX7_out_21 (by decide) ?_
            refine PW.vIi hX ml_X7_64 (pm_no M (-2) 2 (by decide) (by decide)) dX7_out_23 17 rfl rfl rfl rfl rfl rfl rfl rfl rfl rfl rfl rfl rfl rfl rfl ?_
            refine PW.iret hX hR dX7_out_26 rfl rfl ?_
            exact ⟨rfl, rfl⟩
      · exact absurd (i32_lt0 c1) h0 -- CLOSED
    | true =>
      obtain ⟨w, hw, rfl⟩ := inB_of (by decide) hy
      have e : (if nI w = nI 0 then (oI (if k < dyn D then some (dyos D k) else none), sC M C) else if nI w = nI 1 then (oI (if k < dyn D then some (dyom D k) else none), sC M C) else (-2, mNo M 2)) = ((if k < dyn D then (if w = 0 then nI (dyos D k) else nI (dyom D k)) else -9), sC M C) := by
        have : w = 0 ∨ w = 1 := by omega
        rcases this with rfl | rfl
        · rw [if_pos rfl]
          by_cases h : k < dyn D
          · rw [if_pos h, if_pos h]; rfl
          · rw [if_neg h, if_neg h]; rfl
        · rw [if_neg (by decide), if_pos rfl]
          by_cases h : k < dyn D
          · rw [if_pos h, if_pos h]; rfl
          · rw [if_neg h, if_neg h]; rfl
      rw [e]
      refine PM.start (Or.inl (by decide +kernel)) rfl rfl rfl ?_
      intro X hX hR hx hin
      refine PW.iload_n hX dX7_out_0 rfl rfl ?_
      refine PW.if_ge (tgt := 11) hX dX7_out_1 (by decide) (fun c1 => ?_) (fun c1 => ?_)
      · try rw [nI_ge0 (by omega)] at c1
        refine PW.iload_n hX dX7_out_11 rfl rfl ?_
        refine PW.if_lt (tgt := 20) hX dX7_out_12 (by decide) (fun c12 => ?_) (fun c12 => ?_)
        · try rw [nI_lt0 (by omega)] at c12
          exact c12.elim -- CLOSED
        · try rw [nI_lt0 (by omega)] at c12
          refine PW.iload_n hX dX7_out_15 rfl rfl ?_
          refine PW.iconst (v := nI 1) hX dX7_out_16 (by decide) ?_
          refine PW.icmp_le (tgt := 27) hX dX7_out_17 (by decide) (fun c17 => ?_) (fun c17 => ?_)
          · try rw [nI_leI (by omega) (by omega)] at c17
            refine PW.aload_n hX dX7_out_27 rfl rfl ?_
            refine PW.bipush (v := nI 99) hX dX7_out_28 (by decide) ?_
            refine PW.vVi hX ml_X7_147 (cG) dX7_out_30 17 rfl rfl rfl rfl rfl rfl rfl rfl rfl rfl rfl rfl rfl rfl rfl ?_
            refine PW.iload_n hX dX7_out_33 rfl rfl ?_
            refine PW.aload_n hX dX7_out_34 rfl rfl ?_
            refine PW.getfield hX fl_X7_113 dX7_out_35 rfl rfl ?_
            refine PW.top (show _ = nI (dyn D) from congrArg nI r1) ?_
            refine PW.icmp_lt (tgt := 46) hX dX7_out_38 (by decide) (fun c38 => ?_) (fun c38 => ?_)
            · try rw [nI_ltI (by omega) (by omega)] at c38
              refine PW.iload_n hX dX7_out_46 rfl rfl ?_
              refine PW.if_ne (tgt := 59) hX dX7_out_47 (by decide) (fun c47 => ?_) (fun c47 => ?_)
              · first | rw [bI_d0] at c47 | rw [bI_eq0] at c47 | rw [nI_eq0 (by omega)] at c47 | skip
                refine PW.aload_n hX dX7_out_59 rfl rfl ?_
                refine PW.getfield hX fl_X7_41 dX7_out_60 rfl rfl ?_
                refine PW.iload_n hX dX7_out_63 rfl rfl ?_
                refine PW.iaload (k := k) hX dX7_out_64 rfl rfl rfl (by omega) ?_
                refine PW.iret hX hR dX7_out_65 rfl rfl ?_
                rw [if_pos c38, if_neg c47, ← (r2 k c38).2]
                exact ⟨rfl, rfl⟩
              · first | rw [bI_d0] at c47 | rw [bI_eq0] at c47 | rw [nI_eq0 (by omega)] at c47 | skip
                refine PW.aload_n hX dX7_out_50 rfl rfl ?_
                refine PW.getfield hX fl_X7_38 dX7_out_51 rfl rfl ?_
                refine PW.iload_n hX dX7_out_54 rfl rfl ?_
                refine PW.iaload (k := k) hX dX7_out_55 rfl rfl rfl (by omega) ?_
                refine PW.goto (tgt := 65) hX dX7_out_56 (by decide) ?_
                refine PW.iret hX hR dX7_out_65 rfl rfl ?_
                rw [if_pos c38, if_pos c47, ← (r2 k c38).1]
                exact ⟨rfl, rfl⟩
            · try rw [nI_ltI (by omega) (by omega)] at c38
              refine PW.bipush (v := (-9)) hX dX7_out_41 (by decide) ?_
              refine PW.goto (tgt := 65) hX dX7_out_43 (by decide) ?_
              refine PW.iret hX hR dX7_out_65 rfl rfl ?_
              rw [if_neg (by omega)]
              exact ⟨rfl, rfl⟩
          · try rw [nI_leI (by omega) (by omega)] at c17
            exfalso; omega -- CLOSED
      · try rw [nI_ge0 (by omega)] at c1
        exact absurd trivial c1 -- CLOSED
def qMany (D : Dy) (M' : Md) : Int32 × Md := (nI (dyn D), M')
theorem pm_moutMany (M : Md) (C : MC) (P : Pl) (D : Dy) (pr : PR P (mno M)) (ok : PlOk P) (dk : DyOk P D 100) (df : DF P D 100) (cr : CRl D C) (di : DIn P D) (h3 : ∀ j, j < 80 → mno M j < 100) (cG : PM mu_X7_goTo 3 0 0 [.ref 0, .int (nI 99)] (mdB M) (eqP none (mdB (sC M C)))) : PM mu_X7_outMany 4 0 0 [.ref 0] (mdB M) (eqP (some (.int (qMany D (sC M C)).1)) (mdB (qMany D (sC M C)).2)) := by
  obtain ⟨r1, r2, r3, r4, r5⟩ := cr
  unfold qMany
  refine PM.start (Or.inl (by decide +kernel)) rfl rfl rfl ?_
  intro X hX hR hx hin
  refine PW.aload_n hX dX7_outMany_0 rfl rfl ?_
  refine PW.bipush (v := nI 99) hX dX7_outMany_1 (by decide) ?_
  refine PW.vVi hX ml_X7_147 (cG) dX7_outMany_3 17 rfl rfl rfl rfl rfl rfl rfl rfl rfl rfl rfl rfl rfl rfl rfl ?_
  refine PW.aload_n hX dX7_outMany_6 rfl rfl ?_
  refine PW.getfield hX fl_X7_113 dX7_outMany_7 rfl rfl ?_
  refine PW.top (show _ = nI (dyn D) from congrArg nI r1) ?_
  refine PW.iret hX hR dX7_outMany_10 rfl rfl ?_
  exact ⟨rfl, rfl⟩
def qLies (D : Dy) (M M' : Md) (x y : Int32) : Int32 × Md := if x < 0 ∨ y < -1 then (-4, mNo M 4) else if nI 100 ≤ x then (-6, mNo M 6) else if y = -1 then (nI (tyn (dyty D)), M') else (oI (fTop (dyty D) y), M')
theorem i32_nle' {x y : Int32} (h : ¬ x ≤ y) : y < x := i32_nle.mp h
theorem pm_mlies (M : Md) (C : MC) (D : Dy) (ht : tyn (dyty D) ≤ 100) (cr : CRl D C) (x y : Int32) (cG : ¬ x < 0 → ¬ nI 100 ≤ x → PM mu_X7_goTo 3 0 0 [.ref 0, .int x] (mdB M) (eqP none (mdB (sC M C)))) : PM mu_X7_lies 4 0 0 [.ref 0, .int x, .int y] (mdB M) (eqP (some (.int (qLies D M (sC M C) x y).1)) (mdB (qLies D M (sC M C) x y).2)) := by
  obtain ⟨r1, r2, r3, r4, r5⟩ := cr
  unfold qLies
  by_cases h0 : x < 0 ∨ y < -1
  · rw [if_pos h0]
    refine PM.start (Or.inl (by decide +kernel)) rfl rfl rfl ?_
    intro X hX hR hx hin
    refine PW.iload_n hX dX7_lies_0 rfl rfl ?_
    refine PW.if_lt (tgt := 9) hX dX7_lies_1 (by decide) (fun c1 => ?_) (fun c1 => ?_)
    · refine PW.aload_n hX dX7_lies_9 rfl rfl ?_
      refine PW.bipush (v := (-4)) hX dX7_lies_10 (by decide) ?_
      refine PW.vIi hX ml_X7_64 (pm_no M (-4) 4 (by decide) (by decide)) dX7_lies_12 17 rfl rfl rfl rfl rfl rfl rfl rfl rfl rfl rfl rfl rfl rfl rfl ?_
      refine PW.iret hX hR dX7_lies_15 rfl rfl ?_
      exact ⟨rfl, rfl⟩
    · refine PW.iload_n hX dX7_lies_4 rfl rfl ?_
      refine PW.iconst (v := (-1)) hX dX7_lies_5 (by decide) ?_
      refine PW.icmp_ge (tgt := 16) hX dX7_lies_6 (by decide) (fun c6 => ?_) (fun c6 => ?_)
      · exact absurd h0 (fun q => q.elim c1 (i32_nlt.mpr c6)) -- CLOSED
      · refine PW.aload_n hX dX7_lies_9 rfl rfl ?_
        refine PW.bipush (v := (-4)) hX dX7_lies_10 (by decide) ?_
        refine PW.vIi hX ml_X7_64 (pm_no M (-4) 4 (by decide) (by decide)) dX7_lies_12 17 rfl rfl rfl rfl rfl rfl rfl rfl rfl rfl rfl rfl rfl rfl rfl ?_
        refine PW.iret hX hR dX7_lies_15 rfl rfl ?_
        exact ⟨rfl, rfl⟩
  · rw [if_neg h0]
    have x0 : ¬ x < 0 := fun q => h0 (Or.inl q)
    have y0 : ¬ y < -1 := fun q => h0 (Or.inr q)
    by_cases h1 : nI 100 ≤ x
    · rw [if_pos h1]
      refine PM.start (Or.inl (by decide +kernel)) rfl rfl rfl ?_
      intro X hX hR hx hin
      refine PW.iload_n hX dX7_lies_0 rfl rfl ?_
      refine PW.if_lt (tgt := 9) hX dX7_lies_1 (by decide) (fun c1 => ?_) (fun c1 => ?_)
      · exact absurd c1 x0 -- CLOSED
      · refine PW.iload_n hX dX7_lies_4 rfl rfl ?_
        refine PW.iconst (v := (-1)) hX dX7_lies_5 (by decide) ?_
        refine PW.icmp_ge (tgt := 16) hX dX7_lies_6 (by decide) (fun c6 => ?_) (fun c6 => ?_)
        · refine PW.iload_n hX dX7_lies_16 rfl rfl ?_
          refine PW.bipush (v := nI 99) hX dX7_lies_17 (by decide) ?_
          refine PW.icmp_le (tgt := 29) hX dX7_lies_19 (by decide) (fun c19 => ?_) (fun c19 => ?_)
          · exact absurd c19 (mnI_nle (n := 99) (by decide) (i32_nlt.mpr h1)) -- CLOSED
          · refine PW.aload_n hX dX7_lies_22 rfl rfl ?_
            refine PW.bipush (v := (-6)) hX dX7_lies_23 (by decide) ?_
            refine PW.vIi hX ml_X7_64 (pm_no M (-6) 6 (by decide) (by decide)) dX7_lies_25 17 rfl rfl rfl rfl rfl rfl rfl rfl rfl rfl rfl rfl rfl rfl rfl ?_
            refine PW.iret hX hR dX7_lies_28 rfl rfl ?_
            exact ⟨rfl, rfl⟩
        · exact absurd (i32_nlt.mp y0) c6 -- CLOSED
    · rw [if_neg h1]
      have cG := cG x0 h1
      obtain ⟨k, hk, rfl⟩ := nI_of x0
      have k1 : k < 100 := (nI_ltI hk (by decide)).mp (i32_nle.mp h1)
      by_cases hy : y = -1
      · rw [if_pos hy]
        subst hy
        refine PM.start (Or.inl (by decide +kernel)) rfl rfl rfl ?_
        intro X hX hR hx hin
        refine PW.iload_n hX dX7_lies_0 rfl rfl ?_
        refine PW.if_lt (tgt := 9) hX dX7_lies_1 (by decide) (fun c1 => ?_) (fun c1 => ?_)
        · exact absurd c1 x0 -- CLOSED
        · refine PW.iload_n hX dX7_lies_4 rfl rfl ?_
          refine PW.iconst (v := (-1)) hX dX7_lies_5 (by decide) ?_
          refine PW.icmp_ge (tgt := 16) hX dX7_lies_6 (by decide) (fun c6 => ?_) (fun c6 => ?_)
          · refine PW.iload_n hX dX7_lies_16 rfl rfl ?_
            refine PW.bipush (v := nI 99) hX dX7_lies_17 (by decide) ?_
            refine PW.icmp_le (tgt := 29) hX dX7_lies_19 (by decide) (fun c19 => ?_) (fun c19 => ?_)
            · refine PW.aload_n hX dX7_lies_29 rfl rfl ?_
              refine PW.iload_n hX dX7_lies_30 rfl rfl ?_
              refine PW.vVi hX ml_X7_147 (cG) dX7_lies_31 17 rfl rfl rfl rfl rfl rfl rfl rfl rfl rfl rfl rfl rfl rfl rfl ?_
              refine PW.iload_n hX dX7_lies_34 rfl rfl ?_
              refine PW.if_ge (tgt := 45) hX dX7_lies_35 (by decide) (fun c35 => ?_) (fun c35 => ?_)
              · exact absurd c35 (by decide) -- CLOSED
              · refine PW.aload_n hX dX7_lies_38 rfl rfl ?_
                refine PW.getfield hX fl_X7_116 dX7_lies_39 rfl rfl ?_
                refine PW.top (show _ = nI (tyn (dyty D)) from congrArg nI r3) ?_
                refine PW.goto (tgt := 71) hX dX7_lies_42 (by decide) ?_
                refine PW.iret hX hR dX7_lies_71 rfl rfl ?_
                exact ⟨rfl, rfl⟩
            · exact absurd ((nI_leI hk (by decide)).mpr (by omega)) c19 -- CLOSED
          · exact absurd (i32_nlt.mp y0) c6 -- CLOSED
      · rw [if_neg hy]
        by_cases hy0 : y < 0
        · exfalso
          have a1 := Int32.lt_iff_toInt_lt.mp hy0
          have a2 : ¬ y.toInt < (-1 : Int32).toInt := fun q => y0 (Int32.lt_iff_toInt_lt.mpr q)
          have a3 : y.toInt = (-1 : Int32).toInt := by
            have e0 : (0 : Int32).toInt = 0 := by decide
            have e1 : (-1 : Int32).toInt = -1 := by decide
            omega
          exact hy (Int32.toInt_inj.mp a3)
        · obtain ⟨i, hi, rfl⟩ := nI_of hy0
          have ef : fTop (dyty D) (nI i) = if i < tyn (dyty D) then some (tysh (dyty D) (tyn (dyty D) - 1 - i)) else none := by
            unfold fTop
            rw [inB_nI (by omega) hi, nI_clamp hi]
            by_cases h : i < tyn (dyty D)
            · rw [decide_eq_true h, if_pos h]; rfl
            · rw [decide_eq_false h, if_neg h]; rfl
          rw [ef]
          refine PM.start (Or.inl (by decide +kernel)) rfl rfl rfl ?_
          intro X hX hR hx hin
          refine PW.iload_n hX dX7_lies_0 rfl rfl ?_
          refine PW.if_lt (tgt := 9) hX dX7_lies_1 (by decide) (fun c1 => ?_) (fun c1 => ?_)
          · exact absurd c1 x0 -- CLOSED
          · refine PW.iload_n hX dX7_lies_4 rfl rfl ?_
            refine PW.iconst (v := (-1)) hX dX7_lies_5 (by decide) ?_
            refine PW.icmp_ge (tgt := 16) hX dX7_lies_6 (by decide) (fun c6 => ?_) (fun c6 => ?_)
            · refine PW.iload_n hX dX7_lies_16 rfl rfl ?_
              refine PW.bipush (v := nI 99) hX dX7_lies_17 (by decide) ?_
              refine PW.icmp_le (tgt := 29) hX dX7_lies_19 (by decide) (fun c19 => ?_) (fun c19 => ?_)
              · refine PW.aload_n hX dX7_lies_29 rfl rfl ?_
                refine PW.iload_n hX dX7_lies_30 rfl rfl ?_
                refine PW.vVi hX ml_X7_147 (cG) dX7_lies_31 17 rfl rfl rfl rfl rfl rfl rfl rfl rfl rfl rfl rfl rfl rfl rfl ?_
                refine PW.iload_n hX dX7_lies_34 rfl rfl ?_
                refine PW.if_ge (tgt := 45) hX dX7_lies_35 (by decide) (fun c35 => ?_) (fun c35 => ?_)
                · refine PW.iload_n hX dX7_lies_45 rfl rfl ?_
                  refine PW.aload_n hX dX7_lies_46 rfl rfl ?_
                  refine PW.getfield hX fl_X7_116 dX7_lies_47 rfl rfl ?_
                  refine PW.top (show _ = nI (tyn (dyty D)) from congrArg nI r3) ?_
                  refine PW.icmp_lt (tgt := 58) hX dX7_lies_50 (by decide) (fun c50 => ?_) (fun c50 => ?_)
                  · rw [nI_ltI (by omega) (by omega)] at c50
                    refine PW.aload_n hX dX7_lies_58 rfl rfl ?_
                    refine PW.getfield hX fl_X7_44 dX7_lies_59 rfl rfl ?_
                    refine PW.aload_n hX dX7_lies_62 rfl rfl ?_
                    refine PW.getfield hX fl_X7_116 dX7_lies_63 rfl rfl ?_
                    refine PW.top (show _ = nI (tyn (dyty D)) from congrArg nI r3) ?_
                    refine PW.iconst (v := nI 1) hX dX7_lies_66 (by decide) ?_
                    refine PW.isub hX dX7_lies_67 ?_
                    refine PW.top (pk_sub (a := tyn (dyty D)) (b := 1) (by omega)) ?_
                    refine PW.iload_n hX dX7_lies_68 rfl rfl ?_
                    refine PW.isub hX dX7_lies_69 ?_
                    refine PW.top (pk_sub (a := tyn (dyty D) - 1) (b := i) (by omega)) ?_
                    refine PW.iaload (k := tyn (dyty D) - 1 - i) hX dX7_lies_70 rfl rfl rfl (by omega) ?_
                    refine PW.iret hX hR dX7_lies_71 rfl rfl ?_
                    rw [if_pos c50, ← r4 _ (by omega)]
                    exact ⟨rfl, rfl⟩
                  · rw [nI_ltI (by omega) (by omega)] at c50
                    refine PW.bipush (v := (-9)) hX dX7_lies_53 (by decide) ?_
                    refine PW.goto (tgt := 71) hX dX7_lies_55 (by decide) ?_
                    refine PW.iret hX hR dX7_lies_71 rfl rfl ?_
                    rw [if_neg c50]
                    exact ⟨rfl, rfl⟩
                · exact absurd (i32_nlt.mp hy0) c35 -- CLOSED
              · exact absurd ((nI_leI hk (by decide)).mpr (by omega)) c19 -- CLOSED
            · exact absurd (i32_nlt.mp y0) c6 -- CLOSED
theorem ho_cases {P : Pl} {C : MC} {D : Dy} (dk : DyOk P D 100) (cr : CRl D C) (di : DIn P D) {k : Nat} (hk : k < 60) : (cho C k < 0 ∧ dyho D k = none) ∨ (∃ x, x < 4 ∧ cho C k = nI x ∧ dyho D k = some x ∧ dyfo D k ≠ none) := by
  have e := cr.2.2.2.2 k hk
  unfold hOf at e
  cases hf : dyfo D k with
  | none =>
    rw [hf] at e
    exact Or.inl ⟨by rw [show cho C k = -8 from e]; decide, di.2.2.1 k hk hf⟩
  | some z =>
    rw [hf] at e
    cases ho : dyho D k with
    | none => rw [ho] at e; exact Or.inl ⟨by rw [show cho C k = -9 from e]; decide, rfl⟩
    | some x =>
      rw [ho] at e
      exact Or.inr ⟨x, dk.2.2.2.2.2 k x hk ho, e, rfl, fun q => by cases q⟩
theorem sumN_ext {f : Nat → Nat} {n : Nat} : ∀ d, (∀ k, n ≤ k → k < n + d → f k = 0) → sumN f (n + d) = sumN f n
  | 0, _ => rfl
  | d + 1, h => by
    rw [← Nat.add_assoc, sumN, sumN_ext d (fun k h1 h2 => h k h1 (by omega)), h (n + d) (by omega) (by omega), Nat.add_zero]
theorem orN_ext {f : Nat → Nat} {n : Nat} : ∀ d, (∀ k, n ≤ k → k < n + d → f k = 0) → orN f (n + d) = orN f n
  | 0, _ => rfl
  | d + 1, h => by
    rw [← Nat.add_assoc, orN, orN_ext d (fun k h1 h2 => h k h1 (by omega)), h (n + d) (by omega) (by omega), Nat.or_zero]
theorem hd_60 {P : Pl} {D : Dy} (ok : PlOk P) (df : DF P D 100) (di : DIn P D) (o : Nat) (b : Bool) : sumN (hdF P D o b) 60 = sumN (hdF P D o b) (10 * plnj P) := by
  have o1 := ok.1
  have h := sumN_ext (f := hdF P D o b) (n := 10 * plnj P) (60 - 10 * plnj P) (fun k h1 h2 => by
    have hf : dyfo D k = none := by
      cases hf : dyfo D k with
      | none => rfl
      | some x =>
        have := isSh_lt ok (df.1 k (by omega) (by rw [hf]; exact fun q => by cases q))
        omega
    unfold hdF
    rw [di.2.2.1 k (by omega) hf]
    exact if_neg (fun q => by cases q.1))
  rw [← h]
  congr 1
  omega
theorem ot_60 {P : Pl} {D : Dy} (ok : PlOk P) (o : Nat) : orN (otF P D o) 60 = orN (otF P D o) (10 * plnj P) := by
  have o1 := ok.1
  have h := orN_ext (f := otF P D o) (n := 10 * plnj P) (60 - 10 * plnj P) (fun k h1 h2 => by
    have hs : isSh P k = false := by
      cases hs : isSh P k with
      | false => rfl
      | true => have := isSh_lt ok hs; omega
    unfold otF
    cases dyho D k with
    | none => rfl
    | some x =>
      dsimp only
      rw [hs]
      exact if_neg (fun q => by cases q.2))
  rw [← h]
  congr 1
  omega
theorem pm_mhas (M : Md) (C : MC) (P : Pl) (D : Dy) (pr : PR P (mno M)) (ok : PlOk P) (dk : DyOk P D 100) (df : DF P D 100) (cr : CRl D C) (di : DIn P D) (h3 : ∀ j, j < 80 → mno M j < 100) (cG : PM mu_X7_goTo 3 0 0 [.ref 0, .int (nI 99)] (mdB M) (eqP none (mdB (sC M C)))) (o : Nat) (ho : o < 4) (b : Bool) : PM mu_X7_has 0 0 0 [.ref 0, .int (nI o), .int (bI b)] (mdB (sC M C)) (eqP (some (.int (nI (sumN (hdF P D o b) 60)))) (mdB (sC M C))) := by
  rw [hd_60 ok df di]
  have o1 := ok.1
  have p0 := pr.1
  have p4 := pr.2.2.2.2.1
  have hc := fun k (hk : k < 60) => ho_cases dk cr di hk
  refine PM.start (Or.inl (by decide +kernel)) rfl rfl rfl ?_
  intro X hX hR hx hin
  have loop : ∀ n k : Nat, k ≤ 10 * plnj P → 10 * plnj P < k + n → PW X 5 [some (.ref 0), some (.int (nI o)), some (.int (bI b)), some (.int (nI (sumN (hdF P D o b) k))), some (.int (nI k))] [] (mdB (sC M C)) 0 0 := by
    intro n
    induction n with
    | zero => intro k h1 h2; exact absurd h2 (by omega)
    | succ n ih =>
      intro k h1 h2
      by_cases hk : k = 10 * plnj P
      · subst hk
        refine PW.iload hX dX7_has_5 rfl ?_
        refine PW.bipush (v := nI 10) hX dX7_has_7 (by decide) ?_
        refine PW.aload_n hX dX7_has_9 rfl rfl ?_
        refine PW.getfield hX fl_X7_13 dX7_has_10 rfl rfl ?_
        refine PW.iconst (v := nI 0) hX dX7_has_13 (by decide) ?_
        refine PW.iaload (k := 0) hX dX7_has_14 rfl rfl rfl (by decide) ?_
        refine PW.imul hX dX7_has_15 ?_
        refine PW.top (show nI 10 * nI (mno M 0) = nI (10 * plnj P) by rw [pk_mul, p0]) ?_
        refine PW.icmp_ge (tgt := 70) hX dX7_has_16 (by decide) (fun c16 => ?_) (fun c16 => ?_)
        · try rw [nI_leI (by omega) (by omega)] at c16
          refine PW.iload_n hX dX7_has_70 rfl rfl ?_
          refine PW.iret hX hR dX7_has_71 rfl rfl ?_
          exact ⟨rfl, rfl⟩
        · try rw [nI_leI (by omega) (by omega)] at c16
          exfalso; omega -- CLOSED
      · have nx := ih (k + 1) (by omega) (by omega)
        rw [sumN] at nx
        have b10 := h3 (10 + k / 10) (by omega)
        have h62 : ∀ v, hdF P D o b k = v → PW X 62 [some (.ref 0), some (.int (nI o)), some (.int (bI b)), some (.int (nI (sumN (hdF P D o b) k))), some (.int (nI k))] [.int (nI v), .int (nI (sumN (hdF P D o b) k))] (mdB (sC M C)) 0 0 := by
          rintro v rfl
          refine PW.iadd hX dX7_has_62 ?_
          refine PW.top (nI_add _ _) ?_
          refine PW.istore_n hX dX7_has_63 rfl rfl ?_
          first | refine PW.iinc hX dX7_has_64 rfl (iincN _) ?_ | refine PW.iinc hX dX7_has_64 rfl rfl ?_
          refine PW.goto (tgt := 5) hX dX7_has_67 (by decide) ?_
          exact nx
        have h61 : hdF P D o b k = 0 → PW X 61 [some (.ref 0), some (.int (nI o)), some (.int (bI b)), some (.int (nI (sumN (hdF P D o b) k))), some (.int (nI k))] [.int (nI (sumN (hdF P D o b) k))] (mdB (sC M C)) 0 0 := by
          intro e
          have n2 := h62 0 e
          refine PW.iconst (v := nI 0) hX dX7_has_61 (by decide) ?_
          exact n2
        have h57 : hdF P D o b k = 1 → PW X 57 [some (.ref 0), some (.int (nI o)), some (.int (bI b)), some (.int (nI (sumN (hdF P D o b) k))), some (.int (nI k))] [.int (nI (sumN (hdF P D o b) k))] (mdB (sC M C)) 0 0 := by
          intro e
          have n2 := h62 1 e
          refine PW.iconst (v := nI 1) hX dX7_has_57 (by decide) ?_
          refine PW.goto (tgt := 62) hX dX7_has_58 (by decide) ?_
          exact n2
        rcases hc k (by omega) with ⟨a1, a2⟩ | ⟨x, a1, a2, a3, a4⟩
        · have e : hdF P D o b k = 0 := by unfold hdF; rw [a2]; exact if_neg (fun q => by cases q.1)
          refine PW.iload hX dX7_has_5 rfl ?_
          refine PW.bipush (v := nI 10) hX dX7_has_7 (by decide) ?_
          refine PW.aload_n hX dX7_has_9 rfl rfl ?_
          refine PW.getfield hX fl_X7_13 dX7_has_10 rfl rfl ?_
          refine PW.iconst (v := nI 0) hX dX7_has_13 (by decide) ?_
          refine PW.iaload (k := 0) hX dX7_has_14 rfl rfl rfl (by decide) ?_
          refine PW.imul hX dX7_has_15 ?_
          refine PW.top (show nI 10 * nI (mno M 0) = nI (10 * plnj P) by rw [pk_mul, p0]) ?_
          refine PW.icmp_ge (tgt := 70) hX dX7_has_16 (by decide) (fun c16 => ?_) (fun c16 => ?_)
          · try rw [nI_leI (by omega) (by omega)] at c16
            exfalso; omega -- CLOSED
          · try rw [nI_leI (by omega) (by omega)] at c16
            refine PW.iload_n hX dX7_has_19 rfl rfl ?_
            refine PW.aload_n hX dX7_has_20 rfl rfl ?_
            refine PW.getfield hX fl_X7_47 dX7_has_21 rfl rfl ?_
            refine PW.iload hX dX7_has_24 rfl ?_
            refine PW.iaload (k := k) hX dX7_has_26 rfl rfl rfl (by omega) ?_
            refine PW.top (show _ = cho C k from rfl) ?_
            refine PW.iload_n hX dX7_has_27 rfl rfl ?_
            refine PW.icmp_ne (tgt := 61) hX dX7_has_28 (by decide) (fun c28 => ?_) (fun c28 => ?_)
            · first | rw [nI_eq (by omega) (by omega)] at c28 | rw [oI_eq9] at c28 | skip
              exact h61 e
            · first | rw [nI_eq (by omega) (by omega)] at c28 | rw [oI_eq9] at c28 | skip
              rw [c28] at a1
              exact absurd a1 (nI_pos (by omega)) -- CLOSED
        · have hs := df.1 k (by omega) a4
          have hl := isSh_lt ok hs
          have eo := (p4 _ hl.2.1).1
          have ev : hdF P D o b k = if x = o ∧ decide (plow P (k / 10) = o) = b then 1 else 0 := by
            unfold hdF
            rw [a3, hs, Bool.true_and]
            by_cases h : x = o
            · rw [h]; simp
            · rw [if_neg (fun q => h (Option.some.inj q.1)), if_neg (fun q => h q.1)]
          have h53 : x = o → ∀ c, decide (plow P (k / 10) = o) = c → PW X 53 [some (.ref 0), some (.int (nI o)), some (.int (bI b)), some (.int (nI (sumN (hdF P D o b) k))), some (.int (nI k))] [.int (bI c), .int (nI (sumN (hdF P D o b) k))] (mdB (sC M C)) 0 0 := by
            intro hx c hc
            rw [hc] at ev
            refine PW.iload_n hX dX7_has_53 rfl rfl ?_
            refine PW.icmp_ne (tgt := 61) hX dX7_has_54 (by decide) (fun c54 => ?_) (fun c54 => ?_)
            · rw [bI_inj] at c54
              exact h61 (by rw [ev, if_neg (fun q => c54 q.2)])
            · rw [bI_inj] at c54
              exact h57 (by rw [ev, if_pos ⟨hx, c54⟩])
          refine PW.iload hX dX7_has_5 rfl ?_
          refine PW.bipush (v := nI 10) hX dX7_has_7 (by decide) ?_
          refine PW.aload_n hX dX7_has_9 rfl rfl ?_
          refine PW.getfield hX fl_X7_13 dX7_has_10 rfl rfl ?_
          refine PW.iconst (v := nI 0) hX dX7_has_13 (by decide) ?_
          refine PW.iaload (k := 0) hX dX7_has_14 rfl rfl rfl (by decide) ?_
          refine PW.imul hX dX7_has_15 ?_
          refine PW.top (show nI 10 * nI (mno M 0) = nI (10 * plnj P) by rw [pk_mul, p0]) ?_
          refine PW.icmp_ge (tgt := 70) hX dX7_has_16 (by decide) (fun c16 => ?_) (fun c16 => ?_)
          · try rw [nI_leI (by omega) (by omega)] at c16
            exfalso; omega -- CLOSED
          · try rw [nI_leI (by omega) (by omega)] at c16
            refine PW.iload_n hX dX7_has_19 rfl rfl ?_
            refine PW.aload_n hX dX7_has_20 rfl rfl ?_
            refine PW.getfield hX fl_X7_47 dX7_has_21 rfl rfl ?_
            refine PW.iload hX dX7_has_24 rfl ?_
            refine PW.iaload (k := k) hX dX7_has_26 rfl rfl rfl (by omega) ?_
            refine PW.top (show _ = nI x from a2) ?_
            refine PW.iload_n hX dX7_has_27 rfl rfl ?_
            refine PW.icmp_ne (tgt := 61) hX dX7_has_28 (by decide) (fun c28 => ?_) (fun c28 => ?_)
            · first | rw [nI_eq (by omega) (by omega)] at c28 | rw [oI_eq9] at c28 | skip
              exact h61 (by rw [ev, if_neg (fun q => c28 q.1)])
            · first | rw [nI_eq (by omega) (by omega)] at c28 | rw [oI_eq9] at c28 | skip
              refine PW.aload_n hX dX7_has_31 rfl rfl ?_
              refine PW.getfield hX fl_X7_13 dX7_has_32 rfl rfl ?_
              refine PW.bipush (v := nI 10) hX dX7_has_35 (by decide) ?_
              refine PW.iload hX dX7_has_37 rfl ?_
              refine PW.bipush (v := nI 10) hX dX7_has_39 (by decide) ?_
              refine PW.idiv hX dX7_has_41 (by decide) ?_
              refine PW.top (show _ = nI (k / 10) from div10 (by omega)) ?_
              refine PW.iadd hX dX7_has_42 ?_
              refine PW.top (nI_add 10 (k / 10)) ?_
              refine PW.iaload (k := 10 + k / 10) hX dX7_has_43 rfl rfl rfl (by omega) ?_
              refine PW.top (show _ = nI (plow P (k / 10)) from congrArg nI eo) ?_
              refine PW.iload_n hX dX7_has_44 rfl rfl ?_
              refine PW.icmp_ne (tgt := 52) hX dX7_has_45 (by decide) (fun c45 => ?_) (fun c45 => ?_)
              · first | rw [nI_eq (by omega) (by omega)] at c45 | rw [oI_eq9] at c45 | skip
                refine PW.iconst (v := nI 0) hX dX7_has_52 (by decide) ?_
                exact h53 c28 false (decide_eq_false c45)
              · first | rw [nI_eq (by omega) (by omega)] at c45 | rw [oI_eq9] at c45 | skip
                refine PW.iconst (v := nI 1) hX dX7_has_48 (by decide) ?_
                refine PW.goto (tgt := 53) hX dX7_has_49 (by decide) ?_
                exact h53 c28 true (decide_eq_true c45)
  have nx := loop (10 * plnj P + 1) 0 (by omega) (by omega)
  refine PW.iconst (v := nI 0) hX dX7_has_0 (by decide) ?_
  refine PW.istore_n hX dX7_has_1 rfl rfl ?_
  refine PW.iconst (v := nI 0) hX dX7_has_2 (by decide) ?_
  refine PW.istore hX dX7_has_3 rfl ?_
  exact nx
