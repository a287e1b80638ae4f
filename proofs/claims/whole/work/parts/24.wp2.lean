theorem i32_ge0 {x : Int32} (h : 0 ≤ x) : ¬ x < 0 := i32_nlt.mpr h
theorem i32_lt0 {x : Int32} (h : ¬ 0 ≤ x) : x < 0 := i32_nle.mp h
def wTaker (W : Wp) (x y : Int32) : Int32 × Wp := bif inB (plnt (wpP W)) x then (if y = nI 0 then (nI (pltk (wpP W) x.toNatClampNeg), W) else if y = nI 1 then (nI (pltw (wpP W) x.toNatClampNeg), W) else if y = nI 2 then (nI (pltf (wpP W) x.toNatClampNeg), W) else if y = nI 3 then (nI (pltm (wpP W) x.toNatClampNeg), W) else (-2, rfu W 2)) else (-1, rfu W 1)
theorem pm_taker (W : Wp) (wk : WpOk W) (x y : Int32) : PM mu_X6_taker 1 0 0 [.ref 0, .int x, .int y] (wpB W) (eqP (some (.int (wTaker W x y).1)) (wpB (wTaker W x y).2)) := by
  have o1 := wk.1.2.1
  have o1 : plnt (wpP W) ≤ 6 := o1
  cases hb : inB (plnt (wpP W)) x with
  | false =>
    have e : wTaker W x y = (-1, rfu W 1) := by unfold wTaker; rw [hb]; rfl
    rw [e]
    refine PM.start (Or.inl (by decide +kernel)) rfl rfl rfl ?_
    intro X hX hR hx hin
    refine PW.aload_n hX dX6_taker_0 rfl rfl ?_
    refine PW.getfield hX fl_X6_12 dX6_taker_1 rfl rfl ?_
    refine PW.iload_n hX dX6_taker_4 rfl rfl ?_
    refine PW.vR hX ml_X6_92 (pm_hasTaker (wpP W) x) dX6_taker_5 [1, 2, 3, 4, 5, 6, 7, 8] (e1_P W) rfl rfl rfl rfl rfl rfl rfl rfl rfl rfl rfl rfl ?_
    refine PW.if_ne (tgt := 17) hX dX6_taker_8 (by decide) (fun c8 => ?_) (fun c8 => ?_)
    · first | rw [bI_d0] at c8 | rw [bI_eq0] at c8 | rw [nI_eq0 (by omega)] at c8 | skip
      exact absurd hb c8 -- CLOSED
    · first | rw [bI_d0] at c8 | rw [bI_eq0] at c8 | rw [nI_eq0 (by omega)] at c8 | skip
      refine PW.aload_n hX dX6_taker_11 rfl rfl ?_
      refine PW.iconst (v := (-1)) hX dX6_taker_12 (by decide) ?_
      refine PW.vIi hX ml_X6_58 (pm_refuse W (-1) 1 (by decide) (by decide) (by decide)) dX6_taker_13 45 rfl rfl rfl rfl rfl rfl rfl rfl rfl rfl rfl rfl rfl rfl rfl ?_
      refine PW.iret hX hR dX6_taker_16 rfl rfl ?_
      exact ⟨rfl, rfl⟩
  | true =>
    obtain ⟨k, hk, rfl⟩ := inB_of (by omega) hb
    have e : wTaker W (nI k) y = (if y = nI 0 then (nI (pltk (wpP W) k), W) else if y = nI 1 then (nI (pltw (wpP W) k), W) else if y = nI 2 then (nI (pltf (wpP W) k), W) else if y = nI 3 then (nI (pltm (wpP W) k), W) else (-2, rfu W 2)) := by unfold wTaker; rw [hb, nI_clamp (by omega)]; rfl
    rw [e]
    by_cases y0 : y = nI 0
    · rw [if_pos y0]
      subst y0
      refine PM.start (Or.inl (by decide +kernel)) rfl rfl rfl ?_
      intro X hX hR hx hin
      refine PW.aload_n hX dX6_taker_0 rfl rfl ?_
      refine PW.getfield hX fl_X6_12 dX6_taker_1 rfl rfl ?_
      refine PW.iload_n hX dX6_taker_4 rfl rfl ?_
      refine PW.vR hX ml_X6_92 (pm_hasTaker (wpP W) (nI k)) dX6_taker_5 [1, 2, 3, 4, 5, 6, 7, 8] (e1_P W) rfl rfl rfl rfl rfl rfl rfl rfl rfl rfl rfl rfl ?_
      refine PW.if_ne (tgt := 17) hX dX6_taker_8 (by decide) (fun c8 => ?_) (fun c8 => ?_)
      · first | rw [bI_d0] at c8 | rw [bI_eq0] at c8 | rw [nI_eq0 (by omega)] at c8 | skip
        refine PW.iload_n hX dX6_taker_17 rfl rfl ?_
        refine PW.tableIn (off := 30) (tgt := 48) hX dX6_taker_18 (by decide) (by decide) (by decide) (by decide) ?_
        refine PW.aload_n hX dX6_taker_48 rfl rfl ?_
        refine PW.getfield hX fl_X6_12 dX6_taker_49 rfl rfl ?_
        refine PW.getfield hX fl_X6_95 dX6_taker_52 rfl rfl ?_
        refine PW.iload_n hX dX6_taker_55 rfl rfl ?_
        refine PW.iaload hX dX6_taker_56 rfl rfl rfl (by omega) ?_
        refine PW.iret hX hR dX6_taker_57 rfl rfl ?_
        exact ⟨rfl, rfl⟩
      · first | rw [bI_d0] at c8 | rw [bI_eq0] at c8 | rw [nI_eq0 (by omega)] at c8 | skip
        exact absurd (hb.symm.trans c8) (by decide) -- CLOSED
    · rw [if_neg y0]
      by_cases y1 : y = nI 1
      · rw [if_pos y1]
        subst y1
        refine PM.start (Or.inl (by decide +kernel)) rfl rfl rfl ?_
        intro X hX hR hx hin
        refine PW.aload_n hX dX6_taker_0 rfl rfl ?_
        refine PW.getfield hX fl_X6_12 dX6_taker_1 rfl rfl ?_
        refine PW.iload_n hX dX6_taker_4 rfl rfl ?_
        refine PW.vR hX ml_X6_92 (pm_hasTaker (wpP W) (nI k)) dX6_taker_5 [1, 2, 3, 4, 5, 6, 7, 8] (e1_P W) rfl rfl rfl rfl rfl rfl rfl rfl rfl rfl rfl rfl ?_
        refine PW.if_ne (tgt := 17) hX dX6_taker_8 (by decide) (fun c8 => ?_) (fun c8 => ?_)
        · first | rw [bI_d0] at c8 | rw [bI_eq0] at c8 | rw [nI_eq0 (by omega)] at c8 | skip
          refine PW.iload_n hX dX6_taker_17 rfl rfl ?_
          refine PW.tableIn (off := 40) (tgt := 58) hX dX6_taker_18 (by decide) (by decide) (by decide) (by decide) ?_
          refine PW.aload_n hX dX6_taker_58 rfl rfl ?_
          refine PW.getfield hX fl_X6_12 dX6_taker_59 rfl rfl ?_
          refine PW.getfield hX fl_X6_98 dX6_taker_62 rfl rfl ?_
          refine PW.iload_n hX dX6_taker_65 rfl rfl ?_
          refine PW.iaload hX dX6_taker_66 rfl rfl rfl (by omega) ?_
          refine PW.iret hX hR dX6_taker_67 rfl rfl ?_
          exact ⟨rfl, rfl⟩
        · first | rw [bI_d0] at c8 | rw [bI_eq0] at c8 | rw [nI_eq0 (by omega)] at c8 | skip
          exact absurd (hb.symm.trans c8) (by decide) -- CLOSED
      · rw [if_neg y1]
        by_cases y2 : y = nI 2
        · rw [if_pos y2]
          subst y2
          refine PM.start (Or.inl (by decide +kernel)) rfl rfl rfl ?_
          intro X hX hR hx hin
          refine PW.aload_n hX dX6_taker_0 rfl rfl ?_
          refine PW.getfield hX fl_X6_12 dX6_taker_1 rfl rfl ?_
          refine PW.iload_n hX dX6_taker_4 rfl rfl ?_
          refine PW.vR hX ml_X6_92 (pm_hasTaker (wpP W) (nI k)) dX6_taker_5 [1, 2, 3, 4, 5, 6, 7, 8] (e1_P W) rfl rfl rfl rfl rfl rfl rfl rfl rfl rfl rfl rfl ?_
          refine PW.if_ne (tgt := 17) hX dX6_taker_8 (by decide) (fun c8 => ?_) (fun c8 => ?_)
          · first | rw [bI_d0] at c8 | rw [bI_eq0] at c8 | rw [nI_eq0 (by omega)] at c8 | skip
            refine PW.iload_n hX dX6_taker_17 rfl rfl ?_
            refine PW.tableIn (off := 50) (tgt := 68) hX dX6_taker_18 (by decide) (by decide) (by decide) (by decide) ?_
            refine PW.aload_n hX dX6_taker_68 rfl rfl ?_
            refine PW.getfield hX fl_X6_12 dX6_taker_69 rfl rfl ?_
            refine PW.getfield hX fl_X6_101 dX6_taker_72 rfl rfl ?_
            refine PW.iload_n hX dX6_taker_75 rfl rfl ?_
            refine PW.iaload hX dX6_taker_76 rfl rfl rfl (by omega) ?_
            refine PW.iret hX hR dX6_taker_77 rfl rfl ?_
            exact ⟨rfl, rfl⟩
          · first | rw [bI_d0] at c8 | rw [bI_eq0] at c8 | rw [nI_eq0 (by omega)] at c8 | skip
            exact absurd (hb.symm.trans c8) (by decide) -- CLOSED
        · rw [if_neg y2]
          by_cases y3 : y = nI 3
          · rw [if_pos y3]
            subst y3
            refine PM.start (Or.inl (by decide +kernel)) rfl rfl rfl ?_
            intro X hX hR hx hin
            refine PW.aload_n hX dX6_taker_0 rfl rfl ?_
            refine PW.getfield hX fl_X6_12 dX6_taker_1 rfl rfl ?_
            refine PW.iload_n hX dX6_taker_4 rfl rfl ?_
            refine PW.vR hX ml_X6_92 (pm_hasTaker (wpP W) (nI k)) dX6_taker_5 [1, 2, 3, 4, 5, 6, 7, 8] (e1_P W) rfl rfl rfl rfl rfl rfl rfl rfl rfl rfl rfl rfl ?_
            refine PW.if_ne (tgt := 17) hX dX6_taker_8 (by decide) (fun c8 => ?_) (fun c8 => ?_)
            · first | rw [bI_d0] at c8 | rw [bI_eq0] at c8 | rw [nI_eq0 (by omega)] at c8 | skip
              refine PW.iload_n hX dX6_taker_17 rfl rfl ?_
              refine PW.tableIn (off := 60) (tgt := 78) hX dX6_taker_18 (by decide) (by decide) (by decide) (by decide) ?_
              refine PW.aload_n hX dX6_taker_78 rfl rfl ?_
              refine PW.getfield hX fl_X6_12 dX6_taker_79 rfl rfl ?_
              refine PW.getfield hX fl_X6_104 dX6_taker_82 rfl rfl ?_
              refine PW.iload_n hX dX6_taker_85 rfl rfl ?_
              refine PW.iaload hX dX6_taker_86 rfl rfl rfl (by omega) ?_
              refine PW.iret hX hR dX6_taker_87 rfl rfl ?_
              exact ⟨rfl, rfl⟩
            · first | rw [bI_d0] at c8 | rw [bI_eq0] at c8 | rw [nI_eq0 (by omega)] at c8 | skip
              exact absurd (hb.symm.trans c8) (by decide) -- CLOSED
          · rw [if_neg y3]
            refine PM.start (Or.inl (by decide +kernel)) rfl rfl rfl ?_
            intro X hX hR hx hin
            refine PW.aload_n hX dX6_taker_0 rfl rfl ?_
            refine PW.getfield hX fl_X6_12 dX6_taker_1 rfl rfl ?_
            refine PW.iload_n hX dX6_taker_4 rfl rfl ?_
            refine PW.vR hX ml_X6_92 (pm_hasTaker (wpP W) (nI k)) dX6_taker_5 [1, 2, 3, 4, 5, 6, 7, 8] (e1_P W) rfl rfl rfl rfl rfl rfl rfl rfl rfl rfl rfl rfl ?_
            refine PW.if_ne (tgt := 17) hX dX6_taker_8 (by decide) (fun c8 => ?_) (fun c8 => ?_)
            · first | rw [bI_d0] at c8 | rw [bI_eq0] at c8 | rw [nI_eq0 (by omega)] at c8 | skip
              refine PW.iload_n hX dX6_taker_17 rfl rfl ?_
              refine PW.tableOut (tgt := 88) hX dX6_taker_18 (sw_out (n := 3) (by decide) (fun k hk => by rcases (show k = 0 ∨ k = 1 ∨ k = 2 ∨ k = 3 by omega) with rfl | rfl | rfl | rfl <;> assumption)) (by decide) ?_
              refine PW.aload_n hX dX6_taker_88 rfl rfl ?_
              refine PW.bipush (v := (-2)) hX dX6_taker_89 (by decide) ?_
              refine PW.vIi hX ml_X6_58 (pm_refuse W (-2) 2 (by decide) (by decide) (by decide)) dX6_taker_91 45 rfl rfl rfl rfl rfl rfl rfl rfl rfl rfl rfl rfl rfl rfl rfl ?_
              refine PW.iret hX hR dX6_taker_94 rfl rfl ?_
              exact ⟨rfl, rfl⟩
            · first | rw [bI_d0] at c8 | rw [bI_eq0] at c8 | rw [nI_eq0 (by omega)] at c8 | skip
              exact absurd (hb.symm.trans c8) (by decide) -- CLOSED
def wSent (W : Wp) (x y : Int32) : Int32 × Wp := bif inB (plnj (wpP W)) x then (if y < 0 then (-4, rfu W 4) else if nI 60 ≤ y then (-6, rfu W 6) else (nI (plse (wpP W) x.toNatClampNeg), swP W (plow (wpP W), plsh (wpP W), va_up (plse (wpP W)) x.toNatClampNeg y.toNatClampNeg, (wpP W).2.2.2))) else (-1, rfu W 1)
theorem pm_sent (W : Wp) (wk : WpOk W) (x y : Int32) : PM mu_X6_sent 1 0 0 [.ref 0, .int x, .int y] (wpB W) (eqP (some (.int (wSent W x y).1)) (wpB (wSent W x y).2)) := by
  have o1 := wk.1.1
  have o1 : plnj (wpP W) ≤ 6 := o1
  cases hb : inB (plnj (wpP W)) x with
  | false =>
    have e : wSent W x y = (-1, rfu W 1) := by unfold wSent; rw [hb]; rfl
    rw [e]
    refine PM.start (Or.inl (by decide +kernel)) rfl rfl rfl ?_
    intro X hX hR hx hin
    refine PW.aload_n hX dX6_sent_0 rfl rfl ?_
    refine PW.getfield hX fl_X6_12 dX6_sent_1 rfl rfl ?_
    refine PW.iload_n hX dX6_sent_4 rfl rfl ?_
    refine PW.vR hX ml_X6_79 (pm_hasJob (wpP W) x) dX6_sent_5 [1, 2, 3, 4, 5, 6, 7, 8] (e1_P W) rfl rfl rfl rfl rfl rfl rfl rfl rfl rfl rfl rfl ?_
    refine PW.if_ne (tgt := 17) hX dX6_sent_8 (by decide) (fun c8 => ?_) (fun c8 => ?_)
    · first | rw [bI_d0] at c8 | rw [bI_eq0] at c8 | rw [nI_eq0 (by omega)] at c8 | skip
      exact absurd hb c8 -- CLOSED
    · first | rw [bI_d0] at c8 | rw [bI_eq0] at c8 | rw [nI_eq0 (by omega)] at c8 | skip
      refine PW.aload_n hX dX6_sent_11 rfl rfl ?_
      refine PW.iconst (v := (-1)) hX dX6_sent_12 (by decide) ?_
      refine PW.vIi hX ml_X6_58 (pm_refuse W (-1) 1 (by decide) (by decide) (by decide)) dX6_sent_13 45 rfl rfl rfl rfl rfl rfl rfl rfl rfl rfl rfl rfl rfl rfl rfl ?_
      refine PW.iret hX hR dX6_sent_16 rfl rfl ?_
      exact ⟨rfl, rfl⟩
  | true =>
    obtain ⟨k, hk, rfl⟩ := inB_of (by omega) hb
    have e : wSent W (nI k) y = (if y < 0 then (-4, rfu W 4) else if nI 60 ≤ y then (-6, rfu W 6) else (nI (plse (wpP W) k), swP W (plow (wpP W), plsh (wpP W), va_up (plse (wpP W)) k y.toNatClampNeg, (wpP W).2.2.2))) := by unfold wSent; rw [hb, nI_clamp (by omega)]; rfl
    rw [e]
    by_cases y0 : y < 0
    · rw [if_pos y0]
      refine PM.start (Or.inl (by decide +kernel)) rfl rfl rfl ?_
      intro X hX hR hx hin
      refine PW.aload_n hX dX6_sent_0 rfl rfl ?_
      refine PW.getfield hX fl_X6_12 dX6_sent_1 rfl rfl ?_
      refine PW.iload_n hX dX6_sent_4 rfl rfl ?_
      refine PW.vR hX ml_X6_79 (pm_hasJob (wpP W) (nI k)) dX6_sent_5 [1, 2, 3, 4, 5, 6, 7, 8] (e1_P W) rfl rfl rfl rfl rfl rfl rfl rfl rfl rfl rfl rfl ?_
      refine PW.if_ne (tgt := 17) hX dX6_sent_8 (by decide) (fun c8 => ?_) (fun c8 => ?_)
      · refine PW.iload_n hX dX6_sent_17 rfl rfl ?_
        refine PW.if_ge (tgt := 28) hX dX6_sent_18 (by decide) (fun c18 => ?_) (fun c18 => ?_)
        · exact absurd y0 (i32_ge0 c18) -- CLOSED
        · refine PW.aload_n hX dX6_sent_21 rfl rfl ?_
          refine PW.bipush (v := (-4)) hX dX6_sent_22 (by decide) ?_
          refine PW.vIi hX ml_X6_58 (pm_refuse W (-4) 4 (by decide) (by decide) (by decide)) dX6_sent_24 45 rfl rfl rfl rfl rfl rfl rfl rfl rfl rfl rfl rfl rfl rfl rfl ?_
          refine PW.iret hX hR dX6_sent_27 rfl rfl ?_
          exact ⟨rfl, rfl⟩
      · exact absurd ((congrArg bI hb).symm.trans c8) (by decide) -- CLOSED
    · rw [if_neg y0]
      obtain ⟨z, hz, rfl⟩ := nI_of y0
      rw [nI_clamp hz]
      by_cases y1 : nI 60 ≤ nI z
      · rw [if_pos y1]
        refine PM.start (Or.inl (by decide +kernel)) rfl rfl rfl ?_
        intro X hX hR hx hin
        refine PW.aload_n hX dX6_sent_0 rfl rfl ?_
        refine PW.getfield hX fl_X6_12 dX6_sent_1 rfl rfl ?_
        refine PW.iload_n hX dX6_sent_4 rfl rfl ?_
        refine PW.vR hX ml_X6_79 (pm_hasJob (wpP W) (nI k)) dX6_sent_5 [1, 2, 3, 4, 5, 6, 7, 8] (e1_P W) rfl rfl rfl rfl rfl rfl rfl rfl rfl rfl rfl rfl ?_
        refine PW.if_ne (tgt := 17) hX dX6_sent_8 (by decide) (fun c8 => ?_) (fun c8 => ?_)
        · refine PW.iload_n hX dX6_sent_17 rfl rfl ?_
          refine PW.if_ge (tgt := 28) hX dX6_sent_18 (by decide) (fun c18 => ?_) (fun c18 => ?_)
          · refine PW.iload_n hX dX6_sent_28 rfl rfl ?_
            refine PW.bipush (v := nI 60) hX dX6_sent_29 (by decide) ?_
            refine PW.icmp_lt (tgt := 41) hX dX6_sent_31 (by decide) (fun c31 => ?_) (fun c31 => ?_)
            · exact absurd c31 (i32_nlt.mpr y1) -- CLOSED
            · refine PW.aload_n hX dX6_sent_34 rfl rfl ?_
              refine PW.bipush (v := (-6)) hX dX6_sent_35 (by decide) ?_
              refine PW.vIi hX ml_X6_58 (pm_refuse W (-6) 6 (by decide) (by decide) (by decide)) dX6_sent_37 45 rfl rfl rfl rfl rfl rfl rfl rfl rfl rfl rfl rfl rfl rfl rfl ?_
              refine PW.iret hX hR dX6_sent_40 rfl rfl ?_
              exact ⟨rfl, rfl⟩
          · exact absurd (i32_lt0 c18) y0 -- CLOSED
        · exact absurd ((congrArg bI hb).symm.trans c8) (by decide) -- CLOSED
      · rw [if_neg y1]
        refine PM.start (Or.inl (by decide +kernel)) rfl rfl rfl ?_
        intro X hX hR hx hin
        refine PW.aload_n hX dX6_sent_0 rfl rfl ?_
        refine PW.getfield hX fl_X6_12 dX6_sent_1 rfl rfl ?_
        refine PW.iload_n hX dX6_sent_4 rfl rfl ?_
        refine PW.vR hX ml_X6_79 (pm_hasJob (wpP W) (nI k)) dX6_sent_5 [1, 2, 3, 4, 5, 6, 7, 8] (e1_P W) rfl rfl rfl rfl rfl rfl rfl rfl rfl rfl rfl rfl ?_
        refine PW.if_ne (tgt := 17) hX dX6_sent_8 (by decide) (fun c8 => ?_) (fun c8 => ?_)
        · refine PW.iload_n hX dX6_sent_17 rfl rfl ?_
          refine PW.if_ge (tgt := 28) hX dX6_sent_18 (by decide) (fun c18 => ?_) (fun c18 => ?_)
          · refine PW.iload_n hX dX6_sent_28 rfl rfl ?_
            refine PW.bipush (v := nI 60) hX dX6_sent_29 (by decide) ?_
            refine PW.icmp_lt (tgt := 41) hX dX6_sent_31 (by decide) (fun c31 => ?_) (fun c31 => ?_)
            · refine PW.aload_n hX dX6_sent_41 rfl rfl ?_
              refine PW.getfield hX fl_X6_12 dX6_sent_42 rfl rfl ?_
              refine PW.getfield hX fl_X6_89 dX6_sent_45 rfl rfl ?_
              refine PW.iload_n hX dX6_sent_48 rfl rfl ?_
              refine PW.iaload hX dX6_sent_49 rfl rfl rfl (by omega) ?_
              refine PW.istore_n hX dX6_sent_50 rfl rfl ?_
              refine PW.aload_n hX dX6_sent_51 rfl rfl ?_
              refine PW.getfield hX fl_X6_12 dX6_sent_52 rfl rfl ?_
              refine PW.getfield hX fl_X6_89 dX6_sent_55 rfl rfl ?_
              refine PW.iload_n hX dX6_sent_58 rfl rfl ?_
              refine PW.iload_n hX dX6_sent_59 rfl rfl ?_
              refine PW.iastore hX dX6_sent_60 rfl rfl rfl (by omega) ?_
              refine PW.iload_n hX dX6_sent_61 rfl rfl ?_
              refine PW.iret hX hR dX6_sent_62 rfl rfl ?_
              exact ⟨rfl, (congrArg (fun f => (wpB W).set 4 (Sum.inl (0, 6, f))) (upd_nI _ _ _)).trans (st_sent W _)⟩
            · exact absurd (i32_nlt.mp c31) y1 -- CLOSED
          · exact absurd (i32_lt0 c18) y0 -- CLOSED
        · exact absurd ((congrArg bI hb).symm.trans c8) (by decide) -- CLOSED
def wComes (W : Wp) (x y : Int32) : Int32 × Wp := bif inB (plnt (wpP W)) x then (if y < 0 then (-4, rfu W 4) else if nI 100 ≤ y then (-6, rfu W 6) else (nI (pltm (wpP W) x.toNatClampNeg), swP W (plow (wpP W), plsh (wpP W), plse (wpP W), pltk (wpP W), pltw (wpP W), pltf (wpP W), va_up (pltm (wpP W)) x.toNatClampNeg y.toNatClampNeg, (wpP W).2.2.2.2.2.2.2))) else (-1, rfu W 1)
theorem pm_comes (W : Wp) (wk : WpOk W) (x y : Int32) : PM mu_X6_comes 1 0 0 [.ref 0, .int x, .int y] (wpB W) (eqP (some (.int (wComes W x y).1)) (wpB (wComes W x y).2)) := by
  have o1 := wk.1.2.1
  have o1 : plnt (wpP W) ≤ 6 := o1
  cases hb : inB (plnt (wpP W)) x with
  | false =>
    have e : wComes W x y = (-1, rfu W 1) := by unfold wComes; rw [hb]; rfl
    rw [e]
    refine PM.start (Or.inl (by decide +kernel)) rfl rfl rfl ?_
    intro X hX hR hx hin
    refine PW.aload_n hX dX6_comes_0 rfl rfl ?_
    refine PW.getfield hX fl_X6_12 dX6_comes_1 rfl rfl ?_
    refine PW.iload_n hX dX6_comes_4 rfl rfl ?_
    refine PW.vR hX ml_X6_92 (pm_hasTaker (wpP W) x) dX6_comes_5 [1, 2, 3, 4, 5, 6, 7, 8] (e1_P W) rfl rfl rfl rfl rfl rfl rfl rfl rfl rfl rfl rfl ?_
    refine PW.if_ne (tgt := 17) hX dX6_comes_8 (by decide) (fun c8 => ?_) (fun c8 => ?_)
    · first | rw [bI_d0] at c8 | rw [bI_eq0] at c8 | rw [nI_eq0 (by omega)] at c8 | skip
      exact absurd hb c8 -- CLOSED
    · first | rw [bI_d0] at c8 | rw [bI_eq0] at c8 | rw [nI_eq0 (by omega)] at c8 | skip
      refine PW.aload_n hX dX6_comes_11 rfl rfl ?_
      refine PW.iconst (v := (-1)) hX dX6_comes_12 (by decide) ?_
      refine PW.vIi hX ml_X6_58 (pm_refuse W (-1) 1 (by decide) (by decide) (by decide)) dX6_comes_13 45 rfl rfl rfl rfl rfl rfl rfl rfl rfl rfl rfl rfl rfl rfl rfl ?_
      refine PW.iret hX hR dX6_comes_16 rfl rfl ?_
      exact ⟨rfl, rfl⟩
  | true =>
    obtain ⟨k, hk, rfl⟩ := inB_of (by omega) hb
    have e : wComes W (nI k) y = (if y < 0 then (-4, rfu W 4) else if nI 100 ≤ y then (-6, rfu W 6) else (nI (pltm (wpP W) k), swP W (plow (wpP W), plsh (wpP W), plse (wpP W), pltk (wpP W), pltw (wpP W), pltf (wpP W), va_up (pltm (wpP W)) k y.toNatClampNeg, (wpP W).2.2.2.2.2.2.2))) := by unfold wComes; rw [hb, nI_clamp (by omega)]; rfl
    rw [e]
    by_cases y0 : y < 0
    · rw [if_pos y0]
      refine PM.start (Or.inl (by decide +kernel)) rfl rfl rfl ?_
      intro X hX hR hx hin
      refine PW.aload_n hX dX6_comes_0 rfl rfl ?_
      refine PW.getfield hX fl_X6_12 dX6_comes_1 rfl rfl ?_
      refine PW.iload_n hX dX6_comes_4 rfl rfl ?_
      refine PW.vR hX ml_X6_92 (pm_hasTaker (wpP W) (nI k)) dX6_comes_5 [1, 2, 3, 4, 5, 6, 7, 8] (e1_P W) rfl rfl rfl rfl rfl rfl rfl rfl rfl rfl rfl rfl ?_
      refine PW.if_ne (tgt := 17) hX dX6_comes_8 (by decide) (fun c8 => ?_) (fun c8 => ?_)
      · refine PW.iload_n hX dX6_comes_17 rfl rfl ?_
        refine PW.if_ge (tgt := 28) hX dX6_comes_18 (by decide) (fun c18 => ?_) (fun c18 => ?_)
        · exact absurd y0 (i32_ge0 c18) -- CLOSED
        · refine PW.aload_n hX dX6_comes_21 rfl rfl ?_
          refine PW.bipush (v := (-4)) hX dX6_comes_22 (by decide) ?_
          refine PW.vIi hX ml_X6_58 (pm_refuse W (-4) 4 (by decide) (by decide) (by decide)) dX6_comes_24 45 rfl rfl rfl rfl rfl rfl rfl rfl rfl rfl rfl rfl rfl rfl rfl ?_
          refine PW.iret hX hR dX6_comes_27 rfl rfl ?_
          exact ⟨rfl, rfl⟩
      · exact absurd ((congrArg bI hb).symm.trans c8) (by decide) -- CLOSED
    · rw [if_neg y0]
      obtain ⟨z, hz, rfl⟩ := nI_of y0
      rw [nI_clamp hz]
      by_cases y1 : nI 100 ≤ nI z
      · rw [if_pos y1]
        refine PM.start (Or.inl (by decide +kernel)) rfl rfl rfl ?_
        intro X hX hR hx hin
        refine PW.aload_n hX dX6_comes_0 rfl rfl ?_
        refine PW.getfield hX fl_X6_12 dX6_comes_1 rfl rfl ?_
        refine PW.iload_n hX dX6_comes_4 rfl rfl ?_
        refine PW.vR hX ml_X6_92 (pm_hasTaker (wpP W) (nI k)) dX6_comes_5 [1, 2, 3, 4, 5, 6, 7, 8] (e1_P W) rfl rfl rfl rfl rfl rfl rfl rfl rfl rfl rfl rfl ?_
        refine PW.if_ne (tgt := 17) hX dX6_comes_8 (by decide) (fun c8 => ?_) (fun c8 => ?_)
        · refine PW.iload_n hX dX6_comes_17 rfl rfl ?_
          refine PW.if_ge (tgt := 28) hX dX6_comes_18 (by decide) (fun c18 => ?_) (fun c18 => ?_)
          · refine PW.iload_n hX dX6_comes_28 rfl rfl ?_
            refine PW.bipush (v := nI 100) hX dX6_comes_29 (by decide) ?_
            refine PW.icmp_lt (tgt := 41) hX dX6_comes_31 (by decide) (fun c31 => ?_) (fun c31 => ?_)
            · exact absurd c31 (i32_nlt.mpr y1) -- CLOSED
            · refine PW.aload_n hX dX6_comes_34 rfl rfl ?_
              refine PW.bipush (v := (-6)) hX dX6_comes_35 (by decide) ?_
              refine PW.vIi hX ml_X6_58 (pm_refuse W (-6) 6 (by decide) (by decide) (by decide)) dX6_comes_37 45 rfl rfl rfl rfl rfl rfl rfl rfl rfl rfl rfl rfl rfl rfl rfl ?_
              refine PW.iret hX hR dX6_comes_40 rfl rfl ?_
              exact ⟨rfl, rfl⟩
          · exact absurd (i32_lt0 c18) y0 -- CLOSED
        · exact absurd ((congrArg bI hb).symm.trans c8) (by decide) -- CLOSED
      · rw [if_neg y1]
        refine PM.start (Or.inl (by decide +kernel)) rfl rfl rfl ?_
        intro X hX hR hx hin
        refine PW.aload_n hX dX6_comes_0 rfl rfl ?_
        refine PW.getfield hX fl_X6_12 dX6_comes_1 rfl rfl ?_
        refine PW.iload_n hX dX6_comes_4 rfl rfl ?_
        refine PW.vR hX ml_X6_92 (pm_hasTaker (wpP W) (nI k)) dX6_comes_5 [1, 2, 3, 4, 5, 6, 7, 8] (e1_P W) rfl rfl rfl rfl rfl rfl rfl rfl rfl rfl rfl rfl ?_
        refine PW.if_ne (tgt := 17) hX dX6_comes_8 (by decide) (fun c8 => ?_) (fun c8 => ?_)
        · refine PW.iload_n hX dX6_comes_17 rfl rfl ?_
          refine PW.if_ge (tgt := 28) hX dX6_comes_18 (by decide) (fun c18 => ?_) (fun c18 => ?_)
          · refine PW.iload_n hX dX6_comes_28 rfl rfl ?_
            refine PW.bipush (v := nI 100) hX dX6_comes_29 (by decide) ?_
            refine PW.icmp_lt (tgt := 41) hX dX6_comes_31 (by decide) (fun c31 => ?_) (fun c31 => ?_)
            · refine PW.aload_n hX dX6_comes_41 rfl rfl ?_
              refine PW.getfield hX fl_X6_12 dX6_comes_42 rfl rfl ?_
              refine PW.getfield hX fl_X6_104 dX6_comes_45 rfl rfl ?_
              refine PW.iload_n hX dX6_comes_48 rfl rfl ?_
              refine PW.iaload hX dX6_comes_49 rfl rfl rfl (by omega) ?_
              refine PW.istore_n hX dX6_comes_50 rfl rfl ?_
              refine PW.aload_n hX dX6_comes_51 rfl rfl ?_
              refine PW.getfield hX fl_X6_12 dX6_comes_52 rfl rfl ?_
              refine PW.getfield hX fl_X6_104 dX6_comes_55 rfl rfl ?_
              refine PW.iload_n hX dX6_comes_58 rfl rfl ?_
              refine PW.iload_n hX dX6_comes_59 rfl rfl ?_
              refine PW.iastore hX dX6_comes_60 rfl rfl rfl (by omega) ?_
              refine PW.iload_n hX dX6_comes_61 rfl rfl ?_
              refine PW.iret hX hR dX6_comes_62 rfl rfl ?_
              exact ⟨rfl, (congrArg (fun f => (wpB W).set 8 (Sum.inl (0, 6, f))) (upd_nI _ _ _)).trans (st_come W _)⟩
            · exact absurd (i32_nlt.mp c31) y1 -- CLOSED
          · exact absurd (i32_lt0 c18) y0 -- CLOSED
        · exact absurd ((congrArg bI hb).symm.trans c8) (by decide) -- CLOSED
def wMachine (W : Wp) (x y : Int32) : Int32 × Wp := bif inB 6 x then (if y < 0 then (-4, rfu W 4) else if nI 9 < y then (-6, rfu W 6) else (nI (10 * plkd (wpP W) + plsp (wpP W)), swP W (plMac (wpP W) x.toNatClampNeg y.toNatClampNeg))) else (-2, rfu W 2)
theorem pm_machine (W : Wp) (x y : Int32) : PM mu_X6_machine 2 0 0 [.ref 0, .int x, .int y] (wpB W) (eqP (some (.int (wMachine W x y).1)) (wpB (wMachine W x y).2)) := by
  cases hb : inB 6 x with
  | false =>
    have e : wMachine W x y = (-2, rfu W 2) := by unfold wMachine; rw [hb]; rfl
    rw [e]
    refine PM.start (Or.inl (by decide +kernel)) rfl rfl rfl ?_
    intro X hX hR hx hin
    refine PW.iload_n hX dX6_machine_0 rfl rfl ?_
    refine PW.if_lt (tgt := 13) hX dX6_machine_1 (by decide) (fun c1 => ?_) (fun c1 => ?_)
    · refine PW.aload_n hX dX6_machine_13 rfl rfl ?_
      refine PW.bipush (v := (-2)) hX dX6_machine_14 (by decide) ?_
      refine PW.vIi hX ml_X6_58 (pm_refuse W (-2) 2 (by decide) (by decide) (by decide)) dX6_machine_16 45 rfl rfl rfl rfl rfl rfl rfl rfl rfl rfl rfl rfl rfl rfl rfl ?_
      refine PW.iret hX hR dX6_machine_19 rfl rfl ?_
      exact ⟨rfl, rfl⟩
    · refine PW.iload_n hX dX6_machine_4 rfl rfl ?_
      refine PW.ldcP hX dX6_machine_5 ?_
      refine PW.tR (i := 0) (As := []) hX ml_X6_109 rfl (by decide) (pm_length 0 (by decide)) dX6_machine_7 rfl rfl rfl rfl rfl rfl rfl ?_
      refine PW.icmp_lt (tgt := 20) hX dX6_machine_10 (by decide) (fun c10 => ?_) (fun c10 => ?_)
      · exact absurd (show inB 6 x = true by simp only [inB, Bool.and_eq_true, Bool.not_eq_true', decide_eq_false_iff_not, decide_eq_true_eq]; exact ⟨c1, c10⟩) (by rw [hb]; decide) -- CLOSED
      · refine PW.aload_n hX dX6_machine_13 rfl rfl ?_
        refine PW.bipush (v := (-2)) hX dX6_machine_14 (by decide) ?_
        refine PW.vIi hX ml_X6_58 (pm_refuse W (-2) 2 (by decide) (by decide) (by decide)) dX6_machine_16 45 rfl rfl rfl rfl rfl rfl rfl rfl rfl rfl rfl rfl rfl rfl rfl ?_
        refine PW.iret hX hR dX6_machine_19 rfl rfl ?_
        exact ⟨rfl, rfl⟩
  | true =>
    obtain ⟨k, hk, rfl⟩ := inB_of (by omega) hb
    have e : wMachine W (nI k) y = (if y < 0 then (-4, rfu W 4) else if nI 9 < y then (-6, rfu W 6) else (nI (10 * plkd (wpP W) + plsp (wpP W)), swP W (plMac (wpP W) k y.toNatClampNeg))) := by unfold wMachine; rw [hb, nI_clamp (by omega)]; rfl
    rw [e]
    by_cases y0 : y < 0
    · rw [if_pos y0]
      refine PM.start (Or.inl (by decide +kernel)) rfl rfl rfl ?_
      intro X hX hR hx hin
      refine PW.iload_n hX dX6_machine_0 rfl rfl ?_
      refine PW.if_lt (tgt := 13) hX dX6_machine_1 (by decide) (fun c1 => ?_) (fun c1 => ?_)
      · exact absurd c1 (nI_pos (by omega)) -- CLOSED
      · refine PW.iload_n hX dX6_machine_4 rfl rfl ?_
        refine PW.ldcP hX dX6_machine_5 ?_
        refine PW.tR (i := 0) (As := []) hX ml_X6_109 rfl (by decide) (pm_length 0 (by decide)) dX6_machine_7 rfl rfl rfl rfl rfl rfl rfl ?_
        refine PW.icmp_lt (tgt := 20) hX dX6_machine_10 (by decide) (fun c10 => ?_) (fun c10 => ?_)
        · refine PW.iload_n hX dX6_machine_20 rfl rfl ?_
          refine PW.if_ge (tgt := 31) hX dX6_machine_21 (by decide) (fun c21 => ?_) (fun c21 => ?_)
          · exact absurd y0 (i32_ge0 c21) -- CLOSED
          · refine PW.aload_n hX dX6_machine_24 rfl rfl ?_
            refine PW.bipush (v := (-4)) hX dX6_machine_25 (by decide) ?_
            refine PW.vIi hX ml_X6_58 (pm_refuse W (-4) 4 (by decide) (by decide) (by decide)) dX6_machine_27 45 rfl rfl rfl rfl rfl rfl rfl rfl rfl rfl rfl rfl rfl rfl rfl ?_
            refine PW.iret hX hR dX6_machine_30 rfl rfl ?_
            exact ⟨rfl, rfl⟩
        · exact absurd ((nI_ltI (by omega) (by omega)).mpr hk) c10 -- CLOSED
    · rw [if_neg y0]
      obtain ⟨z, hz, rfl⟩ := nI_of y0
      rw [nI_clamp hz]
      by_cases y1 : nI 9 < nI z
      · rw [if_pos y1]
        refine PM.start (Or.inl (by decide +kernel)) rfl rfl rfl ?_
        intro X hX hR hx hin
        refine PW.iload_n hX dX6_machine_0 rfl rfl ?_
        refine PW.if_lt (tgt := 13) hX dX6_machine_1 (by decide) (fun c1 => ?_) (fun c1 => ?_)
        · exact absurd c1 (nI_pos (by omega)) -- CLOSED
        · refine PW.iload_n hX dX6_machine_4 rfl rfl ?_
          refine PW.ldcP hX dX6_machine_5 ?_
          refine PW.tR (i := 0) (As := []) hX ml_X6_109 rfl (by decide) (pm_length 0 (by decide)) dX6_machine_7 rfl rfl rfl rfl rfl rfl rfl ?_
          refine PW.icmp_lt (tgt := 20) hX dX6_machine_10 (by decide) (fun c10 => ?_) (fun c10 => ?_)
          · refine PW.iload_n hX dX6_machine_20 rfl rfl ?_
            refine PW.if_ge (tgt := 31) hX dX6_machine_21 (by decide) (fun c21 => ?_) (fun c21 => ?_)
            · refine PW.iload_n hX dX6_machine_31 rfl rfl ?_
              refine PW.bipush (v := nI 9) hX dX6_machine_32 (by decide) ?_
              refine PW.icmp_le (tgt := 44) hX dX6_machine_34 (by decide) (fun c34 => ?_) (fun c34 => ?_)
              · exact absurd y1 (i32_nlt.mpr c34) -- CLOSED
              · refine PW.aload_n hX dX6_machine_37 rfl rfl ?_
                refine PW.bipush (v := (-6)) hX dX6_machine_38 (by decide) ?_
                refine PW.vIi hX ml_X6_58 (pm_refuse W (-6) 6 (by decide) (by decide) (by decide)) dX6_machine_40 45 rfl rfl rfl rfl rfl rfl rfl rfl rfl rfl rfl rfl rfl rfl rfl ?_
                refine PW.iret hX hR dX6_machine_43 rfl rfl ?_
                exact ⟨rfl, rfl⟩
            · exact absurd (i32_lt0 c21) y0 -- CLOSED
          · exact absurd ((nI_ltI (by omega) (by omega)).mpr hk) c10 -- CLOSED
      · rw [if_neg y1]
        refine PM.start (Or.inl (by decide +kernel)) rfl rfl rfl ?_
        intro X hX hR hx hin
        refine PW.iload_n hX dX6_machine_0 rfl rfl ?_
        refine PW.if_lt (tgt := 13) hX dX6_machine_1 (by decide) (fun c1 => ?_) (fun c1 => ?_)
        · exact absurd c1 (nI_pos (by omega)) -- CLOSED
        · refine PW.iload_n hX dX6_machine_4 rfl rfl ?_
          refine PW.ldcP hX dX6_machine_5 ?_
          refine PW.tR (i := 0) (As := []) hX ml_X6_109 rfl (by decide) (pm_length 0 (by decide)) dX6_machine_7 rfl rfl rfl rfl rfl rfl rfl ?_
          refine PW.icmp_lt (tgt := 20) hX dX6_machine_10 (by decide) (fun c10 => ?_) (fun c10 => ?_)
          · refine PW.iload_n hX dX6_machine_20 rfl rfl ?_
            refine PW.if_ge (tgt := 31) hX dX6_machine_21 (by decide) (fun c21 => ?_) (fun c21 => ?_)
            · refine PW.iload_n hX dX6_machine_31 rfl rfl ?_
              refine PW.bipush (v := nI 9) hX dX6_machine_32 (by decide) ?_
              refine PW.icmp_le (tgt := 44) hX dX6_machine_34 (by decide) (fun c34 => ?_) (fun c34 => ?_)
              · refine PW.bipush (v := nI 10) hX dX6_machine_44 (by decide) ?_
                refine PW.aload_n hX dX6_machine_46 rfl rfl ?_
                refine PW.getfield hX fl_X6_12 dX6_machine_47 rfl rfl ?_
                refine PW.getfield hX fl_X6_114 dX6_machine_50 rfl rfl ?_
                refine PW.imul hX dX6_machine_53 ?_
                refine PW.aload_n hX dX6_machine_54 rfl rfl ?_
                refine PW.getfield hX fl_X6_12 dX6_machine_55 rfl rfl ?_
                refine PW.getfield hX fl_X6_117 dX6_machine_58 rfl rfl ?_
                refine PW.iadd hX dX6_machine_61 ?_
                refine PW.top (show nI 10 * nI (plkd (wpP W)) + nI (plsp (wpP W)) = nI (10 * plkd (wpP W) + plsp (wpP W)) by rw [pk_mul, nI_add]) ?_
                refine PW.istore_n hX dX6_machine_62 rfl rfl ?_
                refine PW.aload_n hX dX6_machine_63 rfl rfl ?_
                refine PW.getfield hX fl_X6_12 dX6_machine_64 rfl rfl ?_
                refine PW.iload_n hX dX6_machine_67 rfl rfl ?_
                refine PW.iload_n hX dX6_machine_68 rfl rfl ?_
                refine PW.vV hX ml_X6_120 (pm_setMachine (wpP W) k z) dX6_machine_69 [1, 2, 3, 4, 5, 6, 7, 8] (e1_P W) rfl rfl rfl rfl rfl rfl rfl rfl rfl rfl rfl rfl rfl (eh_P W _) ?_
                refine PW.iload_n hX dX6_machine_72 rfl rfl ?_
                refine PW.iret hX hR dX6_machine_73 rfl rfl ?_
                exact ⟨rfl, rfl⟩
              · exact absurd (i32_nlt.mp y1) c34 -- CLOSED
            · exact absurd (i32_lt0 c21) y0 -- CLOSED
          · exact absurd ((nI_ltI (by omega) (by omega)).mpr hk) c10 -- CLOSED
def wImage (W : Wp) : Int32 × Wp := (nI (plnj (wpP W)), swI (swK W (plCp (wpK W) (wpP W))) true)
theorem st_I (W : Wp) : (wpB W).set 0 (.inr (6, [.ref 1, .ref 9, .ref 17, .ref 25, .ref 27, .ref 29, .ref 39, .ref 44, .int (nI 1)])) = wpB (swI W true) := rfl
theorem pm_image (W : Wp) : PM mu_X6_image 2 0 0 [.ref 0] (wpB W) (eqP (some (.int (wImage W).1)) (wpB (wImage W).2)) := by
  refine PM.start (Or.inl (by decide +kernel)) rfl rfl rfl ?_
  intro X hX hR hx hin
  refine PW.aload_n hX dX6_image_0 rfl rfl ?_
  refine PW.getfield hX fl_X6_16 dX6_image_1 rfl rfl ?_
  refine PW.aload_n hX dX6_image_4 rfl rfl ?_
  refine PW.getfield hX fl_X6_12 dX6_image_5 rfl rfl ?_
  refine PW.vV hX ml_X6_177 (pm_copyFrom (wpK W) (wpP W)) dX6_image_8 [9, 10, 11, 12, 13, 14, 15, 16, 1, 2, 3, 4, 5, 6, 7, 8] (e1_KP W) rfl rfl rfl rfl rfl rfl rfl rfl rfl rfl rfl rfl rfl (eh_KP W _) ?_
  refine PW.aload_n hX dX6_image_11 rfl rfl ?_
  refine PW.iconst (v := nI 1) hX dX6_image_12 (by decide) ?_
  refine PW.putZ hX fp_X6_54 dX6_image_13 (by first | exact Or.inl rfl | exact Or.inr rfl | assumption) rfl rfl ?_
  refine PW.heap (st_I (swK W (plCp (wpK W) (wpP W)))) ?_
  refine PW.aload_n hX dX6_image_16 rfl rfl ?_
  refine PW.getfield hX fl_X6_12 dX6_image_17 rfl rfl ?_
  refine PW.getfield hX fl_X6_220 dX6_image_20 rfl rfl ?_
  refine PW.iret hX hR dX6_image_23 rfl rfl ?_
  exact ⟨rfl, rfl⟩
def wOn (W : Wp) : Int32 × Wp := bif wpI W then (nI (plnj (wpK W)), swP W (plCp (wpP W) (wpK W))) else (-3, rfu W 3)
theorem pm_on (W : Wp) : PM mu_X6_on 2 0 0 [.ref 0] (wpB W) (eqP (some (.int (wOn W).1)) (wpB (wOn W).2)) := by
  cases hi : wpI W with
  | false =>
    have e : wOn W = (-3, rfu W 3) := by unfold wOn; rw [hi]; rfl
    rw [e]
    refine PM.start (Or.inl (by decide +kernel)) rfl rfl rfl ?_
    intro X hX hR hx hin
    refine PW.aload_n hX dX6_on_0 rfl rfl ?_
    refine PW.getfield hX fl_X6_54 dX6_on_1 rfl rfl ?_
    refine PW.if_ne (tgt := 14) hX dX6_on_4 (by decide) (fun c4 => ?_) (fun c4 => ?_)
    · first | rw [bI_d0] at c4 | rw [bI_eq0] at c4 | rw [nI_eq0 (by omega)] at c4 | skip
      exact absurd hi c4 -- CLOSED
    · first | rw [bI_d0] at c4 | rw [bI_eq0] at c4 | rw [nI_eq0 (by omega)] at c4 | skip
      refine PW.aload_n hX dX6_on_7 rfl rfl ?_
      refine PW.bipush (v := (-3)) hX dX6_on_8 (by decide) ?_
      refine PW.vIi hX ml_X6_58 (pm_refuse W (-3) 3 (by decide) (by decide) (by decide)) dX6_on_10 45 rfl rfl rfl rfl rfl rfl rfl rfl rfl rfl rfl rfl rfl rfl rfl ?_
      refine PW.iret hX hR dX6_on_13 rfl rfl ?_
      exact ⟨rfl, rfl⟩
  | true =>
    have e : wOn W = (nI (plnj (wpK W)), swP W (plCp (wpP W) (wpK W))) := by unfold wOn; rw [hi]; rfl
    rw [e]
    refine PM.start (Or.inl (by decide +kernel)) rfl rfl rfl ?_
    intro X hX hR hx hin
    refine PW.aload_n hX dX6_on_0 rfl rfl ?_
    refine PW.getfield hX fl_X6_54 dX6_on_1 rfl rfl ?_
    refine PW.if_ne (tgt := 14) hX dX6_on_4 (by decide) (fun c4 => ?_) (fun c4 => ?_)
    · first | rw [bI_d0] at c4 | rw [bI_eq0] at c4 | rw [nI_eq0 (by omega)] at c4 | skip
      refine PW.aload_n hX dX6_on_14 rfl rfl ?_
      refine PW.getfield hX fl_X6_12 dX6_on_15 rfl rfl ?_
      refine PW.aload_n hX dX6_on_18 rfl rfl ?_
      refine PW.getfield hX fl_X6_16 dX6_on_19 rfl rfl ?_
      refine PW.vV hX ml_X6_177 (pm_copyFrom (wpP W) (wpK W)) dX6_on_22 [1, 2, 3, 4, 5, 6, 7, 8, 9, 10, 11, 12, 13, 14, 15, 16] (e1_PK W) rfl rfl rfl rfl rfl rfl rfl rfl rfl rfl rfl rfl rfl (eh_PK W _) ?_
      refine PW.aload_n hX dX6_on_25 rfl rfl ?_
      refine PW.getfield hX fl_X6_12 dX6_on_26 rfl rfl ?_
      refine PW.getfield hX fl_X6_220 dX6_on_29 rfl rfl ?_
      refine PW.iret hX hR dX6_on_32 rfl rfl ?_
      exact ⟨rfl, rfl⟩
    · first | rw [bI_d0] at c4 | rw [bI_eq0] at c4 | rw [nI_eq0 (by omega)] at c4 | skip
      exact absurd (hi.symm.trans c4) (by decide) -- CLOSED
def wCount (W : Wp) (x : Int32) : Int32 := if x = nI 0 then nI (plnj (wpP W)) else if x = nI 1 then nI (sumN (plsh (wpP W)) (plnj (wpP W))) else if x = nI 2 then nI (plnt (wpP W)) else if x = nI 3 then nI (plkd (wpP W)) else if x = nI 4 then nI (plsp (wpP W)) else if x = nI 5 then nI (rwn (wpR W)) else if x = nI 6 then nI (ten (wpT W)) else wRefd W (x - nI 10)
theorem pm_count (W : Wp) (wk : WpOk W) (x : Int32) : PM mu_X6_count 1 0 0 [.ref 0, .int x] (wpB W) (eqP (some (.int (wCount W x))) (wpB W)) := by
  unfold wCount
  by_cases y0 : x = nI 0
  · rw [if_pos y0]
    subst y0
    refine PM.start (Or.inl (by decide +kernel)) rfl rfl rfl ?_
    intro X hX hR hx hin
    refine PW.iload_n hX dX6_count_0 rfl rfl ?_
    refine PW.tableIn (off := 43) (tgt := 44) hX dX6_count_1 (by decide) (by decide) (by decide) (by decide) ?_
    refine PW.aload_n hX dX6_count_44 rfl rfl ?_
    refine PW.getfield hX fl_X6_12 dX6_count_45 rfl rfl ?_
    refine PW.getfield hX fl_X6_220 dX6_count_48 rfl rfl ?_
    refine PW.iret hX hR dX6_count_51 rfl rfl ?_
    exact ⟨rfl, rfl⟩
  · rw [if_neg y0]
    by_cases y1 : x = nI 1
    · rw [if_pos y1]
      subst y1
      refine PM.start (Or.inl (by decide +kernel)) rfl rfl rfl ?_
      intro X hX hR hx hin
      refine PW.iload_n hX dX6_count_0 rfl rfl ?_
      refine PW.tableIn (off := 51) (tgt := 52) hX dX6_count_1 (by decide) (by decide) (by decide) (by decide) ?_
      refine PW.aload_n hX dX6_count_52 rfl rfl ?_
      refine PW.getfield hX fl_X6_12 dX6_count_53 rfl rfl ?_
      refine PW.vR hX ml_X6_226 (pm_allSheets (wpP W) wk.1) dX6_count_56 [1, 2, 3, 4, 5, 6, 7, 8] (e1_P W) rfl rfl rfl rfl rfl rfl rfl rfl rfl rfl rfl rfl ?_
      refine PW.iret hX hR dX6_count_59 rfl rfl ?_
      exact ⟨rfl, rfl⟩
    · rw [if_neg y1]
      by_cases y2 : x = nI 2
      · rw [if_pos y2]
        subst y2
        refine PM.start (Or.inl (by decide +kernel)) rfl rfl rfl ?_
        intro X hX hR hx hin
        refine PW.iload_n hX dX6_count_0 rfl rfl ?_
        refine PW.tableIn (off := 59) (tgt := 60) hX dX6_count_1 (by decide) (by decide) (by decide) (by decide) ?_
        refine PW.aload_n hX dX6_count_60 rfl rfl ?_
        refine PW.getfield hX fl_X6_12 dX6_count_61 rfl rfl ?_
        refine PW.getfield hX fl_X6_229 dX6_count_64 rfl rfl ?_
        refine PW.iret hX hR dX6_count_67 rfl rfl ?_
        exact ⟨rfl, rfl⟩
      · rw [if_neg y2]
        by_cases y3 : x = nI 3
        · rw [if_pos y3]
          subst y3
          refine PM.start (Or.inl (by decide +kernel)) rfl rfl rfl ?_
          intro X hX hR hx hin
          refine PW.iload_n hX dX6_count_0 rfl rfl ?_
          refine PW.tableIn (off := 67) (tgt := 68) hX dX6_count_1 (by decide) (by decide) (by decide) (by decide) ?_
          refine PW.aload_n hX dX6_count_68 rfl rfl ?_
          refine PW.getfield hX fl_X6_12 dX6_count_69 rfl rfl ?_
          refine PW.getfield hX fl_X6_114 dX6_count_72 rfl rfl ?_
          refine PW.iret hX hR dX6_count_75 rfl rfl ?_
          exact ⟨rfl, rfl⟩
        · rw [if_neg y3]
          by_cases y4 : x = nI 4
          · rw [if_pos y4]
            subst y4
            refine PM.start (Or.inl (by decide +kernel)) rfl rfl rfl ?_
            intro X hX hR hx hin
            refine PW.iload_n hX dX6_count_0 rfl rfl ?_
            refine PW.tableIn (off := 75) (tgt := 76) hX dX6_count_1 (by decide) (by decide) (by decide) (by decide) ?_
            refine PW.aload_n hX dX6_count_76 rfl rfl ?_
            refine PW.getfield hX fl_X6_12 dX6_count_77 rfl rfl ?_
            refine PW.getfield hX fl_X6_117 dX6_count_80 rfl rfl ?_
            refine PW.iret hX hR dX6_count_83 rfl rfl ?_
            exact ⟨rfl, rfl⟩
          · rw [if_neg y4]
            by_cases y5 : x = nI 5
            · rw [if_pos y5]
              subst y5
              refine PM.start (Or.inl (by decide +kernel)) rfl rfl rfl ?_
              intro X hX hR hx hin
              refine PW.iload_n hX dX6_count_0 rfl rfl ?_
              refine PW.tableIn (off := 83) (tgt := 84) hX dX6_count_1 (by decide) (by decide) (by decide) (by decide) ?_
              refine PW.aload_n hX dX6_count_84 rfl rfl ?_
              refine PW.getfield hX fl_X6_46 dX6_count_85 rfl rfl ?_
              refine PW.getfield hX fl_X6_214 dX6_count_88 rfl rfl ?_
              refine PW.iret hX hR dX6_count_91 rfl rfl ?_
              exact ⟨rfl, rfl⟩
            · rw [if_neg y5]
              by_cases y6 : x = nI 6
              · rw [if_pos y6]
                subst y6
                refine PM.start (Or.inl (by decide +kernel)) rfl rfl rfl ?_
                intro X hX hR hx hin
                refine PW.iload_n hX dX6_count_0 rfl rfl ?_
                refine PW.tableIn (off := 91) (tgt := 92) hX dX6_count_1 (by decide) (by decide) (by decide) (by decide) ?_
                refine PW.aload_n hX dX6_count_92 rfl rfl ?_
                refine PW.getfield hX fl_X6_25 dX6_count_93 rfl rfl ?_
                refine PW.getfield hX fl_X6_62 dX6_count_96 rfl rfl ?_
                refine PW.iret hX hR dX6_count_99 rfl rfl ?_
                exact ⟨rfl, rfl⟩
              · rw [if_neg y6]
                refine PM.start (Or.inl (by decide +kernel)) rfl rfl rfl ?_
                intro X hX hR hx hin
                refine PW.iload_n hX dX6_count_0 rfl rfl ?_
                refine PW.tableOut (tgt := 100) hX dX6_count_1 (sw_out (n := 6) (by decide) (fun k hk => by rcases (show k = 0 ∨ k = 1 ∨ k = 2 ∨ k = 3 ∨ k = 4 ∨ k = 5 ∨ k = 6 by omega) with rfl | rfl | rfl | rfl | rfl | rfl | rfl <;> assumption)) (by decide) ?_
                refine PW.aload_n hX dX6_count_100 rfl rfl ?_
                refine PW.iload_n hX dX6_count_101 rfl rfl ?_
                refine PW.bipush (v := nI 10) hX dX6_count_102 (by decide) ?_
                refine PW.isub hX dX6_count_104 ?_
                refine PW.vIi hX ml_X6_232 (pm_refusalsCounted W (x - nI 10)) dX6_count_105 45 rfl rfl rfl rfl rfl rfl rfl rfl rfl rfl rfl rfl rfl rfl rfl ?_
                refine PW.iret hX hR dX6_count_108 rfl rfl ?_
                exact ⟨rfl, rfl⟩
