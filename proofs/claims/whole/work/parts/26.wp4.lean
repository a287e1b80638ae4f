def dAll (W : Wp) : Dy := dRun (wpP W) (wpY W) 100
theorem dAll_ok (W : Wp) (wk : WpOk W) : DyOk (wpP W) (dAll W) 100 := dRun_ok wk.1 (wpY W) 100 (Nat.le_refl _)
theorem pm_pw (W : Wp) (wk : WpOk W) : PM mu_X0_passThrough 6 0 0 [.ref 0, .ref 10, .int (nI 99)] (dyB 0 (wpY W) ++ plB 10 (wpP W)) (eqP none (dyB 0 (dAll W) ++ plB 10 (wpP W))) := pm_passThrough (wpP W) wk.1 (wpY W) 99 (by decide)
def wOutMany (W : Wp) : Int32 × Wp := (nI (dyn (dAll W)), swY W (dAll W))
theorem pm_outMany (W : Wp) (wk : WpOk W) : PM mu_X6_outMany 8 0 0 [.ref 0] (wpB W) (eqP (some (.int (wOutMany W).1)) (wpB (wOutMany W).2)) := by
  have cM := pm_pw W wk
  unfold wOutMany
  generalize dAll W = Z at cM ⊢
  refine PM.start (Or.inl (by decide +kernel)) rfl rfl rfl ?_
  intro X hX hR hx hin
  refine PW.aload_n hX dX6_outMany_0 rfl rfl ?_
  refine PW.getfield hX fl_X6_39 dX6_outMany_1 rfl rfl ?_
  refine PW.aload_n hX dX6_outMany_4 rfl rfl ?_
  refine PW.getfield hX fl_X6_12 dX6_outMany_5 rfl rfl ?_
  refine PW.bipush (v := nI 99) hX dX6_outMany_8 (by decide) ?_
  refine PW.vV hX ml_X6_127 (id cM) dX6_outMany_10 [29, 30, 31, 32, 33, 34, 35, 36, 37, 38, 1, 2, 3, 4, 5, 6, 7, 8] (e1_YP W) rfl rfl rfl rfl rfl rfl rfl rfl rfl rfl rfl rfl rfl (eh_YP W _) ?_
  refine PW.aload_n hX dX6_outMany_13 rfl rfl ?_
  refine PW.getfield hX fl_X6_39 dX6_outMany_14 rfl rfl ?_
  refine PW.getfield hX fl_X6_137 dX6_outMany_17 rfl rfl ?_
  refine PW.iret hX hR dX6_outMany_20 rfl rfl ?_
  exact ⟨rfl, rfl⟩
def wOut (W : Wp) (x y : Int32) : Int32 × Wp := if x < 0 then (-4, rfu W 4) else if y = nI 0 then (oI (sOut (dAll W) (dyos (dAll W)) x), swY W (dAll W)) else if y = nI 1 then (oI (sOut (dAll W) (dyom (dAll W)) x), swY W (dAll W)) else (-2, rfu W 2)
theorem pm_out (W : Wp) (wk : WpOk W) (x y : Int32) : PM mu_X6_out 8 0 0 [.ref 0, .int x, .int y] (wpB W) (eqP (some (.int (wOut W x y).1)) (wpB (wOut W x y).2)) := by
  have cM := pm_pw W wk
  have dk := dAll_ok W wk
  unfold wOut
  generalize dAll W = Z at cM dk ⊢
  have hn : dyn Z ≤ 100 := dk.2.2.1
  refine PM.start (Or.inl (by decide +kernel)) rfl rfl rfl ?_
  intro X hX hR hx hin
  refine PW.iload_n hX dX6_out_0 rfl rfl ?_
  refine PW.if_ge (tgt := 11) hX dX6_out_1 (by decide) (fun c1 => ?_) (fun c1 => ?_)
  · try rw [nI_ge0 (by omega)] at c1
    refine PW.iload_n hX dX6_out_11 rfl rfl ?_
    refine PW.sR hX ml_X6_124 (pm_isZeroOrOne y) dX6_out_12 rfl rfl rfl rfl rfl rfl ?_
    refine PW.if_ne (tgt := 25) hX dX6_out_15 (by decide) (fun c15 => ?_) (fun c15 => ?_)
    · first | rw [bI_d0] at c15 | rw [bI_eq0] at c15 | rw [nI_eq0 (by omega)] at c15 | skip
      rw [Classical.not_not] at c15
      refine PW.aload_n hX dX6_out_25 rfl rfl ?_
      refine PW.getfield hX fl_X6_39 dX6_out_26 rfl rfl ?_
      refine PW.aload_n hX dX6_out_29 rfl rfl ?_
      refine PW.getfield hX fl_X6_12 dX6_out_30 rfl rfl ?_
      refine PW.bipush (v := nI 99) hX dX6_out_33 (by decide) ?_
      refine PW.vV hX ml_X6_127 (id cM) dX6_out_35 [29, 30, 31, 32, 33, 34, 35, 36, 37, 38, 1, 2, 3, 4, 5, 6, 7, 8] (e1_YP W) rfl rfl rfl rfl rfl rfl rfl rfl rfl rfl rfl rfl rfl (eh_YP W _) ?_
      refine PW.iload_n hX dX6_out_38 rfl rfl ?_
      refine PW.if_ne (tgt := 53) hX dX6_out_39 (by decide) (fun c39 => ?_) (fun c39 => ?_)
      · first | rw [bI_d0] at c39 | rw [bI_eq0] at c39 | rw [nI_eq0 (by omega)] at c39 | skip
        refine PW.aload_n hX dX6_out_53 rfl rfl ?_
        refine PW.getfield hX fl_X6_39 dX6_out_54 rfl rfl ?_
        refine PW.iload_n hX dX6_out_57 rfl rfl ?_
        refine PW.vR hX ml_X6_134 (pm_minuteOut Z hn x) dX6_out_58 [29, 30, 31, 32, 33, 34, 35, 36, 37, 38] (e1_Y (swY W Z)) rfl rfl rfl rfl rfl rfl rfl rfl rfl rfl rfl rfl ?_
        refine PW.iret hX hR dX6_out_61 rfl rfl ?_
        rw [if_neg (i32_ge0 c1), if_neg (show ¬ y = nI 0 from c39), if_pos (c15.resolve_left c39)]
        exact ⟨rfl, rfl⟩
      · first | rw [bI_d0] at c39 | rw [bI_eq0] at c39 | rw [nI_eq0 (by omega)] at c39 | skip
        refine PW.aload_n hX dX6_out_42 rfl rfl ?_
        refine PW.getfield hX fl_X6_39 dX6_out_43 rfl rfl ?_
        refine PW.iload_n hX dX6_out_46 rfl rfl ?_
        refine PW.vR hX ml_X6_131 (pm_sheetOut Z hn x) dX6_out_47 [29, 30, 31, 32, 33, 34, 35, 36, 37, 38] (e1_Y (swY W Z)) rfl rfl rfl rfl rfl rfl rfl rfl rfl rfl rfl rfl ?_
        refine PW.goto (tgt := 61) hX dX6_out_50 (by decide) ?_
        refine PW.iret hX hR dX6_out_61 rfl rfl ?_
        rw [if_neg (i32_ge0 c1), if_pos (show y = nI 0 from c39)]
        exact ⟨rfl, rfl⟩
    · first | rw [bI_d0] at c15 | rw [bI_eq0] at c15 | rw [nI_eq0 (by omega)] at c15 | skip
      refine PW.aload_n hX dX6_out_18 rfl rfl ?_
      refine PW.bipush (v := (-2)) hX dX6_out_19 (by decide) ?_
      refine PW.vIi hX ml_X6_58 (pm_refuse W (-2) 2 (by decide) (by decide) (by decide)) dX6_out_21 45 rfl rfl rfl rfl rfl rfl rfl rfl rfl rfl rfl rfl rfl rfl rfl ?_
      refine PW.iret hX hR dX6_out_24 rfl rfl ?_
      rw [if_neg (i32_ge0 c1), if_neg (fun q => c15 (Or.inl q)), if_neg (fun q => c15 (Or.inr q))]
      exact ⟨rfl, rfl⟩
  · try rw [nI_ge0 (by omega)] at c1
    refine PW.aload_n hX dX6_out_4 rfl rfl ?_
    refine PW.bipush (v := (-4)) hX dX6_out_5 (by decide) ?_
    refine PW.vIi hX ml_X6_58 (pm_refuse W (-4) 4 (by decide) (by decide) (by decide)) dX6_out_7 45 rfl rfl rfl rfl rfl rfl rfl rfl rfl rfl rfl rfl rfl rfl rfl ?_
    refine PW.iret hX hR dX6_out_10 rfl rfl ?_
    rw [if_pos (i32_lt0 c1)]
    exact ⟨rfl, rfl⟩
def dTo (W : Wp) (m : Nat) : Dy := dRun (wpP W) (wpY W) (m + 1)
def wLies (W : Wp) (x y : Int32) : Int32 × Wp := if x < 0 ∨ y < -1 then (-4, rfu W 4) else if nI 100 ≤ x then (-6, rfu W 6) else if y = -1 then (nI (tyn (dyty (dTo W x.toNatClampNeg))), swY W (dTo W x.toNatClampNeg)) else (oI (fTop (dyty (dTo W x.toNatClampNeg)) y), swY W (dTo W x.toNatClampNeg))
theorem pm_lies (W : Wp) (wk : WpOk W) (x y : Int32) : PM mu_X6_lies 8 0 0 [.ref 0, .int x, .int y] (wpB W) (eqP (some (.int (wLies W x y).1)) (wpB (wLies W x y).2)) := by
  unfold wLies
  by_cases h0 : x < 0 ∨ y < -1
  · rw [if_pos h0]
    refine PM.start (Or.inl (by decide +kernel)) rfl rfl rfl ?_
    intro X hX hR hx hin
    refine PW.iload_n hX dX6_lies_0 rfl rfl ?_
    refine PW.if_lt (tgt := 9) hX dX6_lies_1 (by decide) (fun c1 => ?_) (fun c1 => ?_)
    · refine PW.aload_n hX dX6_lies_9 rfl rfl ?_
      refine PW.bipush (v := (-4)) hX dX6_lies_10 (by decide) ?_
      refine PW.vIi hX ml_X6_58 (pm_refuse W (-4) 4 (by decide) (by decide) (by decide)) dX6_lies_12 45 rfl rfl rfl rfl rfl rfl rfl rfl rfl rfl rfl rfl rfl rfl rfl ?_
      refine PW.iret hX hR dX6_lies_15 rfl rfl ?_
      exact ⟨rfl, rfl⟩
    · refine PW.iload_n hX dX6_lies_4 rfl rfl ?_
      refine PW.iconst (v := (-1)) hX dX6_lies_5 (by decide) ?_
      refine PW.icmp_ge (tgt := 16) hX dX6_lies_6 (by decide) (fun c6 => ?_) (fun c6 => ?_)
      · exact absurd h0 (fun q => q.elim c1 (i32_nlt.mpr c6)) -- CLOSED
      · refine PW.aload_n hX dX6_lies_9 rfl rfl ?_
        refine PW.bipush (v := (-4)) hX dX6_lies_10 (by decide) ?_
        refine PW.vIi hX ml_X6_58 (pm_refuse W (-4) 4 (by decide) (by decide) (by decide)) dX6_lies_12 45 rfl rfl rfl rfl rfl rfl rfl rfl rfl rfl rfl rfl rfl rfl rfl ?_
        refine PW.iret hX hR dX6_lies_15 rfl rfl ?_
        exact ⟨rfl, rfl⟩
  · rw [if_neg h0]
    by_cases h1 : nI 100 ≤ x
    · rw [if_pos h1]
      refine PM.start (Or.inl (by decide +kernel)) rfl rfl rfl ?_
      intro X hX hR hx hin
      refine PW.iload_n hX dX6_lies_0 rfl rfl ?_
      refine PW.if_lt (tgt := 9) hX dX6_lies_1 (by decide) (fun c1 => ?_) (fun c1 => ?_)
      · exact absurd (Or.inl c1) h0 -- CLOSED
      · refine PW.iload_n hX dX6_lies_4 rfl rfl ?_
        refine PW.iconst (v := (-1)) hX dX6_lies_5 (by decide) ?_
        refine PW.icmp_ge (tgt := 16) hX dX6_lies_6 (by decide) (fun c6 => ?_) (fun c6 => ?_)
        · refine PW.iload_n hX dX6_lies_16 rfl rfl ?_
          refine PW.bipush (v := nI 100) hX dX6_lies_17 (by decide) ?_
          refine PW.icmp_lt (tgt := 29) hX dX6_lies_19 (by decide) (fun c19 => ?_) (fun c19 => ?_)
          · exact absurd c19 (i32_nlt.mpr h1) -- CLOSED
          · refine PW.aload_n hX dX6_lies_22 rfl rfl ?_
            refine PW.bipush (v := (-6)) hX dX6_lies_23 (by decide) ?_
            refine PW.vIi hX ml_X6_58 (pm_refuse W (-6) 6 (by decide) (by decide) (by decide)) dX6_lies_25 45 rfl rfl rfl rfl rfl rfl rfl rfl rfl rfl rfl rfl rfl rfl rfl ?_
            refine PW.iret hX hR dX6_lies_28 rfl rfl ?_
            exact ⟨rfl, rfl⟩
        · exact absurd (Or.inr (i32_nle.mp c6)) h0 -- CLOSED
    · rw [if_neg h1]
      obtain ⟨k, hk, rfl⟩ := nI_of (fun q => h0 (Or.inl q))
      have hk2 : k < 100 := by rw [nI_leI (by omega) hk] at h1; omega
      rw [nI_clamp hk]
      have cM : PM mu_X0_passThrough 6 0 0 [.ref 0, .ref 10, .int (nI k)] (dyB 0 (wpY W) ++ plB 10 (wpP W)) (eqP none (dyB 0 (dTo W k) ++ plB 10 (wpP W))) := pm_passThrough (wpP W) wk.1 (wpY W) k hk2
      have dk : DyOk (wpP W) (dTo W k) (k + 1) := dRun_ok wk.1 (wpY W) (k + 1) (by omega)
      generalize dTo W k = Z at cM dk ⊢
      have ht : tyn (dyty Z) ≤ 100 := dk.2.1.1
      refine PM.start (Or.inl (by decide +kernel)) rfl rfl rfl ?_
      intro X hX hR hx hin
      refine PW.iload_n hX dX6_lies_0 rfl rfl ?_
      refine PW.if_lt (tgt := 9) hX dX6_lies_1 (by decide) (fun c1 => ?_) (fun c1 => ?_)
      · exact absurd (Or.inl c1) h0 -- CLOSED
      · refine PW.iload_n hX dX6_lies_4 rfl rfl ?_
        refine PW.iconst (v := (-1)) hX dX6_lies_5 (by decide) ?_
        refine PW.icmp_ge (tgt := 16) hX dX6_lies_6 (by decide) (fun c6 => ?_) (fun c6 => ?_)
        · refine PW.iload_n hX dX6_lies_16 rfl rfl ?_
          refine PW.bipush (v := nI 100) hX dX6_lies_17 (by decide) ?_
          refine PW.icmp_lt (tgt := 29) hX dX6_lies_19 (by decide) (fun c19 => ?_) (fun c19 => ?_)
          · refine PW.aload_n hX dX6_lies_29 rfl rfl ?_
            refine PW.getfield hX fl_X6_39 dX6_lies_30 rfl rfl ?_
            refine PW.aload_n hX dX6_lies_33 rfl rfl ?_
            refine PW.getfield hX fl_X6_12 dX6_lies_34 rfl rfl ?_
            refine PW.iload_n hX dX6_lies_37 rfl rfl ?_
            refine PW.vV hX ml_X6_127 (id cM) dX6_lies_38 [29, 30, 31, 32, 33, 34, 35, 36, 37, 38, 1, 2, 3, 4, 5, 6, 7, 8] (e1_YP W) rfl rfl rfl rfl rfl rfl rfl rfl rfl rfl rfl rfl rfl (eh_YP W _) ?_
            refine PW.iload_n hX dX6_lies_41 rfl rfl ?_
            refine PW.iconst (v := (-1)) hX dX6_lies_42 (by decide) ?_
            refine PW.icmp_ne (tgt := 59) hX dX6_lies_43 (by decide) (fun c43 => ?_) (fun c43 => ?_)
            · refine PW.aload_n hX dX6_lies_59 rfl rfl ?_
              refine PW.getfield hX fl_X6_39 dX6_lies_60 rfl rfl ?_
              refine PW.getfield hX fl_X6_140 dX6_lies_63 rfl rfl ?_
              refine PW.iload_n hX dX6_lies_66 rfl rfl ?_
              refine PW.vR hX ml_X6_147 (pm_fromTop (dyty Z) ht y) dX6_lies_67 [32, 33, 34] (e1_TY (swY W Z)) rfl rfl rfl rfl rfl rfl rfl rfl rfl rfl rfl rfl ?_
              refine PW.iret hX hR dX6_lies_70 rfl rfl ?_
              rw [if_neg c43]
              exact ⟨rfl, rfl⟩
            · refine PW.aload_n hX dX6_lies_46 rfl rfl ?_
              refine PW.getfield hX fl_X6_39 dX6_lies_47 rfl rfl ?_
              refine PW.getfield hX fl_X6_140 dX6_lies_50 rfl rfl ?_
              refine PW.getfield hX fl_X6_144 dX6_lies_53 rfl rfl ?_
              refine PW.goto (tgt := 70) hX dX6_lies_56 (by decide) ?_
              refine PW.iret hX hR dX6_lies_70 rfl rfl ?_
              rw [if_pos c43]
              exact ⟨rfl, rfl⟩
          · exact absurd (i32_nlt.mp c19) h1 -- CLOSED
        · exact absurd (Or.inr (i32_nle.mp c6)) h0 -- CLOSED
def wHeld (W : Wp) (x y : Int32) : Int32 × Wp := bif inB 4 x then (if y = nI 0 then (nI (sumN (hdF (wpP W) (dAll W) x.toNatClampNeg true) 60), swY W (dAll W)) else if y = nI 1 then (nI (sumN (hdF (wpP W) (dAll W) x.toNatClampNeg false) 60), swY W (dAll W)) else (-2, rfu W 2)) else (-1, rfu W 1)
theorem pm_held (W : Wp) (wk : WpOk W) (x y : Int32) : PM mu_X6_held 8 0 0 [.ref 0, .int x, .int y] (wpB W) (eqP (some (.int (wHeld W x y).1)) (wpB (wHeld W x y).2)) := by
  cases hb : inB 4 x with
  | false =>
    have e : wHeld W x y = (-1, rfu W 1) := by unfold wHeld; rw [hb]; rfl
    rw [e]
    refine PM.start (Or.inl (by decide +kernel)) rfl rfl rfl ?_
    intro X hX hR hx hin
    refine PW.iload_n hX dX6_held_0 rfl rfl ?_
    refine PW.sR hX ml_X6_150 (pm_isOwner x) dX6_held_1 rfl rfl rfl rfl rfl rfl ?_
    refine PW.if_ne (tgt := 13) hX dX6_held_4 (by decide) (fun c4 => ?_) (fun c4 => ?_)
    · first | rw [bI_d0] at c4 | rw [bI_eq0] at c4 | rw [nI_eq0 (by omega)] at c4 | skip
      exact absurd hb c4 -- CLOSED
    · first | rw [bI_d0] at c4 | rw [bI_eq0] at c4 | rw [nI_eq0 (by omega)] at c4 | skip
      refine PW.aload_n hX dX6_held_7 rfl rfl ?_
      refine PW.iconst (v := (-1)) hX dX6_held_8 (by decide) ?_
      refine PW.vIi hX ml_X6_58 (pm_refuse W (-1) 1 (by decide) (by decide) (by decide)) dX6_held_9 45 rfl rfl rfl rfl rfl rfl rfl rfl rfl rfl rfl rfl rfl rfl rfl ?_
      refine PW.iret hX hR dX6_held_12 rfl rfl ?_
      exact ⟨rfl, rfl⟩
  | true =>
    obtain ⟨k, hk, rfl⟩ := inB_of (by omega) hb
    have cM := pm_pw W wk
    have dk := dAll_ok W wk
    have e : wHeld W (nI k) y = (if y = nI 0 then (nI (sumN (hdF (wpP W) (dAll W) k true) 60), swY W (dAll W)) else if y = nI 1 then (nI (sumN (hdF (wpP W) (dAll W) k false) 60), swY W (dAll W)) else (-2, rfu W 2)) := by unfold wHeld; rw [hb, nI_clamp (by omega)]; rfl
    rw [e]
    generalize dAll W = Z at cM dk ⊢
    have c1 := pm_heldBy (wpP W) wk.1 Z dk.2.2.2.2.2 k hk true
    have c0 := pm_heldBy (wpP W) wk.1 Z dk.2.2.2.2.2 k hk false
    generalize sumN (hdF (wpP W) Z k true) 60 = z1 at c1 ⊢
    generalize sumN (hdF (wpP W) Z k false) 60 = z0 at c0 ⊢
    refine PM.start (Or.inl (by decide +kernel)) rfl rfl rfl ?_
    intro X hX hR hx hin
    refine PW.iload_n hX dX6_held_0 rfl rfl ?_
    refine PW.sR hX ml_X6_150 (pm_isOwner (nI k)) dX6_held_1 rfl rfl rfl rfl rfl rfl ?_
    refine PW.if_ne (tgt := 13) hX dX6_held_4 (by decide) (fun c4 => ?_) (fun c4 => ?_)
    · first | rw [bI_d0] at c4 | rw [bI_eq0] at c4 | rw [nI_eq0 (by omega)] at c4 | skip
      refine PW.iload_n hX dX6_held_13 rfl rfl ?_
      refine PW.sR hX ml_X6_124 (pm_isZeroOrOne y) dX6_held_14 rfl rfl rfl rfl rfl rfl ?_
      refine PW.if_ne (tgt := 27) hX dX6_held_17 (by decide) (fun c17 => ?_) (fun c17 => ?_)
      · first | rw [bI_d0] at c17 | rw [bI_eq0] at c17 | rw [nI_eq0 (by omega)] at c17 | skip
        rw [Classical.not_not] at c17
        refine PW.aload_n hX dX6_held_27 rfl rfl ?_
        refine PW.getfield hX fl_X6_39 dX6_held_28 rfl rfl ?_
        refine PW.aload_n hX dX6_held_31 rfl rfl ?_
        refine PW.getfield hX fl_X6_12 dX6_held_32 rfl rfl ?_
        refine PW.bipush (v := nI 99) hX dX6_held_35 (by decide) ?_
        refine PW.vV hX ml_X6_127 (id cM) dX6_held_37 [29, 30, 31, 32, 33, 34, 35, 36, 37, 38, 1, 2, 3, 4, 5, 6, 7, 8] (e1_YP W) rfl rfl rfl rfl rfl rfl rfl rfl rfl rfl rfl rfl rfl (eh_YP W _) ?_
        refine PW.aload_n hX dX6_held_40 rfl rfl ?_
        refine PW.getfield hX fl_X6_39 dX6_held_41 rfl rfl ?_
        refine PW.aload_n hX dX6_held_44 rfl rfl ?_
        refine PW.getfield hX fl_X6_12 dX6_held_45 rfl rfl ?_
        refine PW.iload_n hX dX6_held_48 rfl rfl ?_
        refine PW.iload_n hX dX6_held_49 rfl rfl ?_
        refine PW.if_ne (tgt := 57) hX dX6_held_50 (by decide) (fun c50 => ?_) (fun c50 => ?_)
        · first | rw [bI_d0] at c50 | rw [bI_eq0] at c50 | rw [nI_eq0 (by omega)] at c50 | skip
          refine PW.iconst (v := nI 0) hX dX6_held_57 (by decide) ?_
          refine PW.vR hX ml_X6_153 c0 dX6_held_58 [29, 30, 31, 32, 33, 34, 35, 36, 37, 38, 1, 2, 3, 4, 5, 6, 7, 8] (e1_YP (swY W Z)) rfl rfl rfl rfl rfl rfl rfl rfl rfl rfl rfl rfl ?_
          refine PW.iret hX hR dX6_held_61 rfl rfl ?_
          rw [if_neg (show ¬ y = nI 0 from c50), if_pos (c17.resolve_left c50)]
          exact ⟨rfl, rfl⟩
        · first | rw [bI_d0] at c50 | rw [bI_eq0] at c50 | rw [nI_eq0 (by omega)] at c50 | skip
          refine PW.iconst (v := nI 1) hX dX6_held_53 (by decide) ?_
          refine PW.goto (tgt := 58) hX dX6_held_54 (by decide) ?_
          refine PW.vR hX ml_X6_153 c1 dX6_held_58 [29, 30, 31, 32, 33, 34, 35, 36, 37, 38, 1, 2, 3, 4, 5, 6, 7, 8] (e1_YP (swY W Z)) rfl rfl rfl rfl rfl rfl rfl rfl rfl rfl rfl rfl ?_
          refine PW.iret hX hR dX6_held_61 rfl rfl ?_
          rw [if_pos (show y = nI 0 from c50)]
          exact ⟨rfl, rfl⟩
      · first | rw [bI_d0] at c17 | rw [bI_eq0] at c17 | rw [nI_eq0 (by omega)] at c17 | skip
        refine PW.aload_n hX dX6_held_20 rfl rfl ?_
        refine PW.bipush (v := (-2)) hX dX6_held_21 (by decide) ?_
        refine PW.vIi hX ml_X6_58 (pm_refuse W (-2) 2 (by decide) (by decide) (by decide)) dX6_held_23 45 rfl rfl rfl rfl rfl rfl rfl rfl rfl rfl rfl rfl rfl rfl rfl ?_
        refine PW.iret hX hR dX6_held_26 rfl rfl ?_
        rw [if_neg (fun q => c17 (Or.inl q)), if_neg (fun q => c17 (Or.inr q))]
        exact ⟨rfl, rfl⟩
    · first | rw [bI_d0] at c4 | rw [bI_eq0] at c4 | rw [nI_eq0 (by omega)] at c4 | skip
      exact absurd (hb.symm.trans c4) (by decide) -- CLOSED
def wWho (W : Wp) (x : Int32) : Int32 × Wp := bif isShI (wpP W) x then (hOf (dAll W) x.toNatClampNeg, swY W (dAll W)) else (-1, rfu W 1)
theorem pm_who (W : Wp) (wk : WpOk W) (x : Int32) : PM mu_X6_who 8 0 0 [.ref 0, .int x] (wpB W) (eqP (some (.int (wWho W x).1)) (wpB (wWho W x).2)) := by
  cases hb : isShI (wpP W) x with
  | false =>
    have e : wWho W x = (-1, rfu W 1) := by unfold wWho; rw [hb]; rfl
    rw [e]
    refine PM.start (Or.inl (by decide +kernel)) rfl rfl rfl ?_
    intro X hX hR hx hin
    refine PW.aload_n hX dX6_who_0 rfl rfl ?_
    refine PW.getfield hX fl_X6_12 dX6_who_1 rfl rfl ?_
    refine PW.iload_n hX dX6_who_4 rfl rfl ?_
    refine PW.vR hX ml_X6_157 (pm_hasSheet (wpP W) wk.1 x) dX6_who_5 [1, 2, 3, 4, 5, 6, 7, 8] (e1_P W) rfl rfl rfl rfl rfl rfl rfl rfl rfl rfl rfl rfl ?_
    refine PW.if_ne (tgt := 17) hX dX6_who_8 (by decide) (fun c8 => ?_) (fun c8 => ?_)
    · first | rw [bI_d0] at c8 | rw [bI_eq0] at c8 | rw [nI_eq0 (by omega)] at c8 | skip
      exact absurd hb c8 -- CLOSED
    · first | rw [bI_d0] at c8 | rw [bI_eq0] at c8 | rw [nI_eq0 (by omega)] at c8 | skip
      refine PW.aload_n hX dX6_who_11 rfl rfl ?_
      refine PW.iconst (v := (-1)) hX dX6_who_12 (by decide) ?_
      refine PW.vIi hX ml_X6_58 (pm_refuse W (-1) 1 (by decide) (by decide) (by decide)) dX6_who_13 45 rfl rfl rfl rfl rfl rfl rfl rfl rfl rfl rfl rfl rfl rfl rfl ?_
      refine PW.iret hX hR dX6_who_16 rfl rfl ?_
      exact ⟨rfl, rfl⟩
  | true =>
    have hx0 : ¬ x < 0 := by
      intro q
      unfold isShI at hb
      rw [decide_eq_true q] at hb
      simp at hb
    obtain ⟨k, hk, rfl⟩ := nI_of hx0
    have hs := hb
    rw [isShI_nI hk] at hs
    have hl := isSh_lt wk.1 hs
    have cM := pm_pw W wk
    have dk := dAll_ok W wk
    have e : wWho W (nI k) = (hOf (dAll W) k, swY W (dAll W)) := by unfold wWho; rw [hb, nI_clamp hk]; rfl
    rw [e]
    generalize dAll W = Z at cM dk ⊢
    have cH := pm_holderOf Z k hl.1 (fun z hz => dk.2.2.2.2.1 k z hl.1 hz)
    generalize hOf Z k = r at cH ⊢
    refine PM.start (Or.inl (by decide +kernel)) rfl rfl rfl ?_
    intro X hX hR hx hin
    refine PW.aload_n hX dX6_who_0 rfl rfl ?_
    refine PW.getfield hX fl_X6_12 dX6_who_1 rfl rfl ?_
    refine PW.iload_n hX dX6_who_4 rfl rfl ?_
    refine PW.vR hX ml_X6_157 (pm_hasSheet (wpP W) wk.1 (nI k)) dX6_who_5 [1, 2, 3, 4, 5, 6, 7, 8] (e1_P W) rfl rfl rfl rfl rfl rfl rfl rfl rfl rfl rfl rfl ?_
    refine PW.if_ne (tgt := 17) hX dX6_who_8 (by decide) (fun c8 => ?_) (fun c8 => ?_)
    · first | rw [bI_d0] at c8 | rw [bI_eq0] at c8 | rw [nI_eq0 (by omega)] at c8 | skip
      refine PW.aload_n hX dX6_who_17 rfl rfl ?_
      refine PW.getfield hX fl_X6_39 dX6_who_18 rfl rfl ?_
      refine PW.aload_n hX dX6_who_21 rfl rfl ?_
      refine PW.getfield hX fl_X6_12 dX6_who_22 rfl rfl ?_
      refine PW.bipush (v := nI 99) hX dX6_who_25 (by decide) ?_
      refine PW.vV hX ml_X6_127 (id cM) dX6_who_27 [29, 30, 31, 32, 33, 34, 35, 36, 37, 38, 1, 2, 3, 4, 5, 6, 7, 8] (e1_YP W) rfl rfl rfl rfl rfl rfl rfl rfl rfl rfl rfl rfl rfl (eh_YP W _) ?_
      refine PW.aload_n hX dX6_who_30 rfl rfl ?_
      refine PW.getfield hX fl_X6_39 dX6_who_31 rfl rfl ?_
      refine PW.iload_n hX dX6_who_34 rfl rfl ?_
      refine PW.vR hX ml_X6_160 (id cH) dX6_who_35 [29, 30, 31, 32, 33, 34, 35, 36, 37, 38] (e1_Y (swY W Z)) rfl rfl rfl rfl rfl rfl rfl rfl rfl rfl rfl rfl ?_
      refine PW.iret hX hR dX6_who_38 rfl rfl ?_
      exact ⟨rfl, rfl⟩
    · first | rw [bI_d0] at c8 | rw [bI_eq0] at c8 | rw [nI_eq0 (by omega)] at c8 | skip
      exact absurd (hb.symm.trans c8) (by decide) -- CLOSED
def wMissing (W : Wp) (x : Int32) : Int32 × Wp := bif inB 4 x then (nI (sumN (ofW (wpP W) x.toNatClampNeg) (plnj (wpP W))) - nI (sumN (hdF (wpP W) (dAll W) x.toNatClampNeg true) 60), swY W (dAll W)) else (-1, rfu W 1)
theorem pm_missing (W : Wp) (wk : WpOk W) (x : Int32) : PM mu_X6_missing 8 0 0 [.ref 0, .int x] (wpB W) (eqP (some (.int (wMissing W x).1)) (wpB (wMissing W x).2)) := by
  cases hb : inB 4 x with
  | false =>
    have e : wMissing W x = (-1, rfu W 1) := by unfold wMissing; rw [hb]; rfl
    rw [e]
    refine PM.start (Or.inl (by decide +kernel)) rfl rfl rfl ?_
    intro X hX hR hx hin
    refine PW.iload_n hX dX6_missing_0 rfl rfl ?_
    refine PW.sR hX ml_X6_150 (pm_isOwner x) dX6_missing_1 rfl rfl rfl rfl rfl rfl ?_
    refine PW.if_ne (tgt := 13) hX dX6_missing_4 (by decide) (fun c4 => ?_) (fun c4 => ?_)
    · first | rw [bI_d0] at c4 | rw [bI_eq0] at c4 | rw [nI_eq0 (by omega)] at c4 | skip
      exact absurd hb c4 -- CLOSED
    · first | rw [bI_d0] at c4 | rw [bI_eq0] at c4 | rw [nI_eq0 (by omega)] at c4 | skip
      refine PW.aload_n hX dX6_missing_7 rfl rfl ?_
      refine PW.iconst (v := (-1)) hX dX6_missing_8 (by decide) ?_
      refine PW.vIi hX ml_X6_58 (pm_refuse W (-1) 1 (by decide) (by decide) (by decide)) dX6_missing_9 45 rfl rfl rfl rfl rfl rfl rfl rfl rfl rfl rfl rfl rfl rfl rfl ?_
      refine PW.iret hX hR dX6_missing_12 rfl rfl ?_
      exact ⟨rfl, rfl⟩
  | true =>
    obtain ⟨k, hk, rfl⟩ := inB_of (by omega) hb
    have cM := pm_pw W wk
    have dk := dAll_ok W wk
    have e : wMissing W (nI k) = (nI (sumN (ofW (wpP W) k) (plnj (wpP W))) - nI (sumN (hdF (wpP W) (dAll W) k true) 60), swY W (dAll W)) := by unfold wMissing; rw [hb, nI_clamp (by omega)]; rfl
    rw [e]
    generalize dAll W = Z at cM dk ⊢
    have c1 := pm_heldBy (wpP W) wk.1 Z dk.2.2.2.2.2 k hk true
    have c2 := pm_sheetsOf (wpP W) wk.1 k hk
    generalize sumN (hdF (wpP W) Z k true) 60 = z1 at c1 ⊢
    generalize sumN (ofW (wpP W) k) (plnj (wpP W)) = z0 at c2 ⊢
    refine PM.start (Or.inl (by decide +kernel)) rfl rfl rfl ?_
    intro X hX hR hx hin
    refine PW.iload_n hX dX6_missing_0 rfl rfl ?_
    refine PW.sR hX ml_X6_150 (pm_isOwner (nI k)) dX6_missing_1 rfl rfl rfl rfl rfl rfl ?_
    refine PW.if_ne (tgt := 13) hX dX6_missing_4 (by decide) (fun c4 => ?_) (fun c4 => ?_)
    · first | rw [bI_d0] at c4 | rw [bI_eq0] at c4 | rw [nI_eq0 (by omega)] at c4 | skip
      refine PW.aload_n hX dX6_missing_13 rfl rfl ?_
      refine PW.getfield hX fl_X6_39 dX6_missing_14 rfl rfl ?_
      refine PW.aload_n hX dX6_missing_17 rfl rfl ?_
      refine PW.getfield hX fl_X6_12 dX6_missing_18 rfl rfl ?_
      refine PW.bipush (v := nI 99) hX dX6_missing_21 (by decide) ?_
      refine PW.vV hX ml_X6_127 (id cM) dX6_missing_23 [29, 30, 31, 32, 33, 34, 35, 36, 37, 38, 1, 2, 3, 4, 5, 6, 7, 8] (e1_YP W) rfl rfl rfl rfl rfl rfl rfl rfl rfl rfl rfl rfl rfl (eh_YP W _) ?_
      refine PW.aload_n hX dX6_missing_26 rfl rfl ?_
      refine PW.getfield hX fl_X6_12 dX6_missing_27 rfl rfl ?_
      refine PW.iload_n hX dX6_missing_30 rfl rfl ?_
      refine PW.vR hX ml_X6_163 (id c2) dX6_missing_31 [1, 2, 3, 4, 5, 6, 7, 8] (e1_P (swY W Z)) rfl rfl rfl rfl rfl rfl rfl rfl rfl rfl rfl rfl ?_
      refine PW.aload_n hX dX6_missing_34 rfl rfl ?_
      refine PW.getfield hX fl_X6_39 dX6_missing_35 rfl rfl ?_
      refine PW.aload_n hX dX6_missing_38 rfl rfl ?_
      refine PW.getfield hX fl_X6_12 dX6_missing_39 rfl rfl ?_
      refine PW.iload_n hX dX6_missing_42 rfl rfl ?_
      refine PW.iconst (v := nI 1) hX dX6_missing_43 (by decide) ?_
      refine PW.vR hX ml_X6_153 (id c1) dX6_missing_44 [29, 30, 31, 32, 33, 34, 35, 36, 37, 38, 1, 2, 3, 4, 5, 6, 7, 8] (e1_YP (swY W Z)) rfl rfl rfl rfl rfl rfl rfl rfl rfl rfl rfl rfl ?_
      refine PW.isub hX dX6_missing_47 ?_
      refine PW.iret hX hR dX6_missing_48 rfl rfl ?_
      exact ⟨rfl, rfl⟩
    · first | rw [bI_d0] at c4 | rw [bI_eq0] at c4 | rw [nI_eq0 (by omega)] at c4 | skip
      exact absurd (hb.symm.trans c4) (by decide) -- CLOSED
def wAsk (W : Wp) (x : Int32) : Int32 × Wp := bif inB 4 x then (nI (orN (otF (wpP W) (dAll W) x.toNatClampNeg) 60), swY W (dAll W)) else (-1, rfu W 1)
theorem pm_ask (W : Wp) (wk : WpOk W) (x : Int32) : PM mu_X6_ask 8 0 0 [.ref 0, .int x] (wpB W) (eqP (some (.int (wAsk W x).1)) (wpB (wAsk W x).2)) := by
  cases hb : inB 4 x with
  | false =>
    have e : wAsk W x = (-1, rfu W 1) := by unfold wAsk; rw [hb]; rfl
    rw [e]
    refine PM.start (Or.inl (by decide +kernel)) rfl rfl rfl ?_
    intro X hX hR hx hin
    refine PW.iload_n hX dX6_ask_0 rfl rfl ?_
    refine PW.sR hX ml_X6_150 (pm_isOwner x) dX6_ask_1 rfl rfl rfl rfl rfl rfl ?_
    refine PW.if_ne (tgt := 13) hX dX6_ask_4 (by decide) (fun c4 => ?_) (fun c4 => ?_)
    · first | rw [bI_d0] at c4 | rw [bI_eq0] at c4 | rw [nI_eq0 (by omega)] at c4 | skip
      exact absurd hb c4 -- CLOSED
    · first | rw [bI_d0] at c4 | rw [bI_eq0] at c4 | rw [nI_eq0 (by omega)] at c4 | skip
      refine PW.aload_n hX dX6_ask_7 rfl rfl ?_
      refine PW.iconst (v := (-1)) hX dX6_ask_8 (by decide) ?_
      refine PW.vIi hX ml_X6_58 (pm_refuse W (-1) 1 (by decide) (by decide) (by decide)) dX6_ask_9 45 rfl rfl rfl rfl rfl rfl rfl rfl rfl rfl rfl rfl rfl rfl rfl ?_
      refine PW.iret hX hR dX6_ask_12 rfl rfl ?_
      exact ⟨rfl, rfl⟩
  | true =>
    obtain ⟨k, hk, rfl⟩ := inB_of (by omega) hb
    have cM := pm_pw W wk
    have dk := dAll_ok W wk
    have e : wAsk W (nI k) = (nI (orN (otF (wpP W) (dAll W) k) 60), swY W (dAll W)) := by unfold wAsk; rw [hb, nI_clamp (by omega)]; rfl
    rw [e]
    generalize dAll W = Z at cM dk ⊢
    have c1 := pm_othersWith (wpP W) wk.1 Z dk.2.2.2.2.2 k hk
    generalize orN (otF (wpP W) Z k) 60 = z1 at c1 ⊢
    refine PM.start (Or.inl (by decide +kernel)) rfl rfl rfl ?_
    intro X hX hR hx hin
    refine PW.iload_n hX dX6_ask_0 rfl rfl ?_
    refine PW.sR hX ml_X6_150 (pm_isOwner (nI k)) dX6_ask_1 rfl rfl rfl rfl rfl rfl ?_
    refine PW.if_ne (tgt := 13) hX dX6_ask_4 (by decide) (fun c4 => ?_) (fun c4 => ?_)
    · first | rw [bI_d0] at c4 | rw [bI_eq0] at c4 | rw [nI_eq0 (by omega)] at c4 | skip
      refine PW.aload_n hX dX6_ask_13 rfl rfl ?_
      refine PW.getfield hX fl_X6_39 dX6_ask_14 rfl rfl ?_
      refine PW.aload_n hX dX6_ask_17 rfl rfl ?_
      refine PW.getfield hX fl_X6_12 dX6_ask_18 rfl rfl ?_
      refine PW.bipush (v := nI 99) hX dX6_ask_21 (by decide) ?_
      refine PW.vV hX ml_X6_127 (id cM) dX6_ask_23 [29, 30, 31, 32, 33, 34, 35, 36, 37, 38, 1, 2, 3, 4, 5, 6, 7, 8] (e1_YP W) rfl rfl rfl rfl rfl rfl rfl rfl rfl rfl rfl rfl rfl (eh_YP W _) ?_
      refine PW.aload_n hX dX6_ask_26 rfl rfl ?_
      refine PW.getfield hX fl_X6_39 dX6_ask_27 rfl rfl ?_
      refine PW.aload_n hX dX6_ask_30 rfl rfl ?_
      refine PW.getfield hX fl_X6_12 dX6_ask_31 rfl rfl ?_
      refine PW.iload_n hX dX6_ask_34 rfl rfl ?_
      refine PW.vR hX ml_X6_166 (id c1) dX6_ask_35 [29, 30, 31, 32, 33, 34, 35, 36, 37, 38, 1, 2, 3, 4, 5, 6, 7, 8] (e1_YP (swY W Z)) rfl rfl rfl rfl rfl rfl rfl rfl rfl rfl rfl rfl ?_
      refine PW.iret hX hR dX6_ask_38 rfl rfl ?_
      exact ⟨rfl, rfl⟩
    · first | rw [bI_d0] at c4 | rw [bI_eq0] at c4 | rw [nI_eq0 (by omega)] at c4 | skip
      exact absurd (hb.symm.trans c4) (by decide) -- CLOSED
def wReady (W : Wp) (x : Int32) : Int32 × Wp := bif inB 4 x then (oI (lfo (wpP W) (dAll W) x.toNatClampNeg), swY W (dAll W)) else (-1, rfu W 1)
theorem pm_ready (W : Wp) (wk : WpOk W) (x : Int32) : PM mu_X6_ready 9 0 0 [.ref 0, .int x] (wpB W) (eqP (some (.int (wReady W x).1)) (wpB (wReady W x).2)) := by
  cases hb : inB 4 x with
  | false =>
    have e : wReady W x = (-1, rfu W 1) := by unfold wReady; rw [hb]; rfl
    rw [e]
    refine PM.start (Or.inl (by decide +kernel)) rfl rfl rfl ?_
    intro X hX hR hx hin
    refine PW.iload_n hX dX6_ready_0 rfl rfl ?_
    refine PW.sR hX ml_X6_150 (pm_isOwner x) dX6_ready_1 rfl rfl rfl rfl rfl rfl ?_
    refine PW.if_ne (tgt := 13) hX dX6_ready_4 (by decide) (fun c4 => ?_) (fun c4 => ?_)
    · first | rw [bI_d0] at c4 | rw [bI_eq0] at c4 | rw [nI_eq0 (by omega)] at c4 | skip
      exact absurd hb c4 -- CLOSED
    · first | rw [bI_d0] at c4 | rw [bI_eq0] at c4 | rw [nI_eq0 (by omega)] at c4 | skip
      refine PW.aload_n hX dX6_ready_7 rfl rfl ?_
      refine PW.iconst (v := (-1)) hX dX6_ready_8 (by decide) ?_
      refine PW.vIi hX ml_X6_58 (pm_refuse W (-1) 1 (by decide) (by decide) (by decide)) dX6_ready_9 45 rfl rfl rfl rfl rfl rfl rfl rfl rfl rfl rfl rfl rfl rfl rfl ?_
      refine PW.iret hX hR dX6_ready_12 rfl rfl ?_
      exact ⟨rfl, rfl⟩
  | true =>
    obtain ⟨k, hk, rfl⟩ := inB_of (by omega) hb
    have e : wReady W (nI k) = (oI (lfo (wpP W) (dAll W) k), swY W (dAll W)) := by unfold wReady; rw [hb, nI_clamp (by omega)]; rfl
    rw [e]
    have cM := pm_pw W wk
    have dk := dAll_ok W wk
    generalize dAll W = Z at cM dk ⊢
    have cL := pm_lastFirstOut (wpP W) wk.1 Z dk.2.2.2.2.1 k hk
    generalize lfo (wpP W) Z k = z1 at cL ⊢
    refine PM.start (Or.inl (by decide +kernel)) rfl rfl rfl ?_
    intro X hX hR hx hin
    refine PW.iload_n hX dX6_ready_0 rfl rfl ?_
    refine PW.sR hX ml_X6_150 (pm_isOwner (nI k)) dX6_ready_1 rfl rfl rfl rfl rfl rfl ?_
    refine PW.if_ne (tgt := 13) hX dX6_ready_4 (by decide) (fun c4 => ?_) (fun c4 => ?_)
    · first | rw [bI_d0] at c4 | rw [bI_eq0] at c4 | rw [nI_eq0 (by omega)] at c4 | skip
      refine PW.aload_n hX dX6_ready_13 rfl rfl ?_
      refine PW.getfield hX fl_X6_39 dX6_ready_14 rfl rfl ?_
      refine PW.aload_n hX dX6_ready_17 rfl rfl ?_
      refine PW.getfield hX fl_X6_12 dX6_ready_18 rfl rfl ?_
      refine PW.bipush (v := nI 99) hX dX6_ready_21 (by decide) ?_
      refine PW.vV hX ml_X6_127 (id cM) dX6_ready_23 [29, 30, 31, 32, 33, 34, 35, 36, 37, 38, 1, 2, 3, 4, 5, 6, 7, 8] (e1_YP W) rfl rfl rfl rfl rfl rfl rfl rfl rfl rfl rfl rfl rfl (eh_YP W _) ?_
      refine PW.aload_n hX dX6_ready_26 rfl rfl ?_
      refine PW.getfield hX fl_X6_39 dX6_ready_27 rfl rfl ?_
      refine PW.aload_n hX dX6_ready_30 rfl rfl ?_
      refine PW.getfield hX fl_X6_12 dX6_ready_31 rfl rfl ?_
      refine PW.iload_n hX dX6_ready_34 rfl rfl ?_
      refine PW.vR hX ml_X6_170 (id cL) dX6_ready_35 [29, 30, 31, 32, 33, 34, 35, 36, 37, 38, 1, 2, 3, 4, 5, 6, 7, 8] (e1_YP (swY W Z)) rfl rfl rfl rfl rfl rfl rfl rfl rfl rfl rfl rfl ?_
      refine PW.iret hX hR dX6_ready_38 rfl rfl ?_
      exact ⟨rfl, rfl⟩
    · first | rw [bI_d0] at c4 | rw [bI_eq0] at c4 | rw [nI_eq0 (by omega)] at c4 | skip
      exact absurd (hb.symm.trans c4) (by decide) -- CLOSED
def wMixed (W : Wp) : Int32 × Wp := (nI (prmx (pRun (wpP W) 100 0 (pBeg (wpP W) (wpS W)))), swS W (pRun (wpP W) 100 0 (pBeg (wpP W) (wpS W))))
theorem pm_mixed (W : Wp) (wk : WpOk W) : PM mu_X6_mixed 6 0 0 [.ref 0] (wpB W) (eqP (some (.int (wMixed W).1)) (wpB (wMixed W).2)) := by
  have cM := pm_mixedIn (wpP W) wk.1 (wpS W)
  unfold wMixed
  generalize pRun (wpP W) 100 0 (pBeg (wpP W) (wpS W)) = Z at cM ⊢
  refine PM.start (Or.inl (by decide +kernel)) rfl rfl rfl ?_
  intro X hX hR hx hin
  refine PW.aload_n hX dX6_mixed_0 rfl rfl ?_
  refine PW.getfield hX fl_X6_32 dX6_mixed_1 rfl rfl ?_
  refine PW.aload_n hX dX6_mixed_4 rfl rfl ?_
  refine PW.getfield hX fl_X6_12 dX6_mixed_5 rfl rfl ?_
  refine PW.vI hX ml_X6_173 (id cM) dX6_mixed_8 [27, 28, 1, 2, 3, 4, 5, 6, 7, 8] (e1_SP W) rfl rfl rfl rfl rfl rfl rfl rfl rfl rfl rfl rfl rfl (eh_SP W _) ?_
  refine PW.iret hX hR dX6_mixed_11 rfl rfl ?_
  exact ⟨rfl, rfl⟩
