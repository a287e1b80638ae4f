def wRow (W : Wp) (x : Int32) : Int32 × Wp := if x < 0 then (-4, rfu W 4) else if nI 100 ≤ x ∨ 20 ≤ rwn (wpR W) then (-6, rfu W 6) else (nI (rwn (wpR W) + 1), swR W (va_up (rwnu (wpR W)) (rwn (wpR W)) x.toNatClampNeg, rwn (wpR W) + 1, rwwy (wpR W), rwlo (wpR W), rwfp (wpR W)))
theorem pm_row (W : Wp) (wk : WpOk W) (x : Int32) : PM mu_X6_row 1 0 0 [.ref 0, .int x] (wpB W) (eqP (some (.int (wRow W x).1)) (wpB (wRow W x).2)) := by
  have t1 := wk.2.2.2.1
  have t1 : rwn (wpR W) ≤ 20 := t1
  by_cases h0 : x < 0
  · have e : wRow W x = (-4, rfu W 4) := by unfold wRow; rw [if_pos h0]
    rw [e]
    refine PM.start (Or.inl (by decide +kernel)) rfl rfl rfl ?_
    intro X hX hR hx hin
    refine PW.iload_n hX dX6_row_0 rfl rfl ?_
    refine PW.if_ge (tgt := 11) hX dX6_row_1 (by decide) (fun c1 => ?_) (fun c1 => ?_)
    · exact absurd h0 (i32_ge0 c1) -- CLOSED
    · refine PW.aload_n hX dX6_row_4 rfl rfl ?_
      refine PW.bipush (v := (-4)) hX dX6_row_5 (by decide) ?_
      refine PW.vIi hX ml_X6_58 (pm_refuse W (-4) 4 (by decide) (by decide) (by decide)) dX6_row_7 45 rfl rfl rfl rfl rfl rfl rfl rfl rfl rfl rfl rfl rfl rfl rfl ?_
      refine PW.iret hX hR dX6_row_10 rfl rfl ?_
      exact ⟨rfl, rfl⟩
  · by_cases h1 : nI 100 ≤ x ∨ 20 ≤ rwn (wpR W)
    · have e : wRow W x = (-6, rfu W 6) := by unfold wRow; rw [if_neg h0, if_pos h1]
      rw [e]
      refine PM.start (Or.inl (by decide +kernel)) rfl rfl rfl ?_
      intro X hX hR hx hin
      refine PW.iload_n hX dX6_row_0 rfl rfl ?_
      refine PW.if_ge (tgt := 11) hX dX6_row_1 (by decide) (fun c1 => ?_) (fun c1 => ?_)
      · refine PW.iload_n hX dX6_row_11 rfl rfl ?_
        refine PW.bipush (v := nI 100) hX dX6_row_12 (by decide) ?_
        refine PW.icmp_ge (tgt := 29) hX dX6_row_14 (by decide) (fun c14 => ?_) (fun c14 => ?_)
        · refine PW.aload_n hX dX6_row_29 rfl rfl ?_
          refine PW.bipush (v := (-6)) hX dX6_row_30 (by decide) ?_
          refine PW.vIi hX ml_X6_58 (pm_refuse W (-6) 6 (by decide) (by decide) (by decide)) dX6_row_32 45 rfl rfl rfl rfl rfl rfl rfl rfl rfl rfl rfl rfl rfl rfl rfl ?_
          refine PW.iret hX hR dX6_row_35 rfl rfl ?_
          exact ⟨rfl, rfl⟩
        · refine PW.aload_n hX dX6_row_17 rfl rfl ?_
          refine PW.getfield hX fl_X6_46 dX6_row_18 rfl rfl ?_
          refine PW.getfield hX fl_X6_214 dX6_row_21 rfl rfl ?_
          refine PW.bipush (v := nI 20) hX dX6_row_24 (by decide) ?_
          refine PW.icmp_lt (tgt := 36) hX dX6_row_26 (by decide) (fun c26 => ?_) (fun c26 => ?_)
          · rw [nI_ltI (by omega) (by omega)] at c26
            exact absurd h1 (fun q => q.elim c14 (fun z => by omega)) -- CLOSED
          · refine PW.aload_n hX dX6_row_29 rfl rfl ?_
            refine PW.bipush (v := (-6)) hX dX6_row_30 (by decide) ?_
            refine PW.vIi hX ml_X6_58 (pm_refuse W (-6) 6 (by decide) (by decide) (by decide)) dX6_row_32 45 rfl rfl rfl rfl rfl rfl rfl rfl rfl rfl rfl rfl rfl rfl rfl ?_
            refine PW.iret hX hR dX6_row_35 rfl rfl ?_
            exact ⟨rfl, rfl⟩
      · exact absurd (i32_lt0 c1) h0 -- CLOSED
    · obtain ⟨k, hk, rfl⟩ := nI_of h0
      have e : wRow W (nI k) = (nI (rwn (wpR W) + 1), swR W (va_up (rwnu (wpR W)) (rwn (wpR W)) k, rwn (wpR W) + 1, rwwy (wpR W), rwlo (wpR W), rwfp (wpR W))) := by unfold wRow; rw [if_neg h0, if_neg h1, nI_clamp hk]
      rw [e]
      refine PM.start (Or.inl (by decide +kernel)) rfl rfl rfl ?_
      intro X hX hR hx hin
      refine PW.iload_n hX dX6_row_0 rfl rfl ?_
      refine PW.if_ge (tgt := 11) hX dX6_row_1 (by decide) (fun c1 => ?_) (fun c1 => ?_)
      · refine PW.iload_n hX dX6_row_11 rfl rfl ?_
        refine PW.bipush (v := nI 100) hX dX6_row_12 (by decide) ?_
        refine PW.icmp_ge (tgt := 29) hX dX6_row_14 (by decide) (fun c14 => ?_) (fun c14 => ?_)
        · exact absurd (Or.inl c14) h1 -- CLOSED
        · refine PW.aload_n hX dX6_row_17 rfl rfl ?_
          refine PW.getfield hX fl_X6_46 dX6_row_18 rfl rfl ?_
          refine PW.getfield hX fl_X6_214 dX6_row_21 rfl rfl ?_
          refine PW.bipush (v := nI 20) hX dX6_row_24 (by decide) ?_
          refine PW.icmp_lt (tgt := 36) hX dX6_row_26 (by decide) (fun c26 => ?_) (fun c26 => ?_)
          · refine PW.aload_n hX dX6_row_36 rfl rfl ?_
            refine PW.getfield hX fl_X6_46 dX6_row_37 rfl rfl ?_
            refine PW.iload_n hX dX6_row_40 rfl rfl ?_
            refine PW.vI hX ml_X6_215 (pm_rowAdd (wpR W) (by omega) k) dX6_row_41 [39, 40, 41, 42, 43] (e1_R W) rfl rfl rfl rfl rfl rfl rfl rfl rfl rfl rfl rfl rfl (eh_R W _) ?_
            refine PW.iret hX hR dX6_row_44 rfl rfl ?_
            exact ⟨rfl, rfl⟩
          · rw [nI_ltI (by omega) (by omega)] at c26
            exact absurd (Or.inr (by omega)) h1 -- CLOSED
      · exact absurd (i32_lt0 c1) h0 -- CLOSED
def wParts (W : Wp) : Int32 × Wp := (nI (fpS (rwnu (wpR W)) (rwlo (wpR W)) (rwn (wpR W))).2, swR W (rwL (wpR W) (fpS (rwnu (wpR W)) (rwlo (wpR W)) (rwn (wpR W))).1))
theorem pm_parts (W : Wp) (wk : WpOk W) : PM mu_X6_parts 2 0 0 [.ref 0] (wpB W) (eqP (some (.int (wParts W).1)) (wpB (wParts W).2)) := by
  have cM := pm_fewestParts (wpR W) wk.2.2.2
  unfold wParts
  generalize fpS (rwnu (wpR W)) (rwlo (wpR W)) (rwn (wpR W)) = Z at cM ⊢
  refine PM.start (Or.inl (by decide +kernel)) rfl rfl rfl ?_
  intro X hX hR hx hin
  refine PW.aload_n hX dX6_parts_0 rfl rfl ?_
  refine PW.getfield hX fl_X6_46 dX6_parts_1 rfl rfl ?_
  refine PW.vI hX ml_X6_189 (id cM) dX6_parts_4 [39, 40, 41, 42, 43] (e1_R W) rfl rfl rfl rfl rfl rfl rfl rfl rfl rfl rfl rfl rfl (eh_R W _) ?_
  refine PW.iret hX hR dX6_parts_7 rfl rfl ?_
  exact ⟨rfl, rfl⟩
def wLacks (W : Wp) (x : Int32) : Int32 × Wp := bif inB (plnj (wpP W)) x then (lkF (rwnu (wpR W)) x.toNatClampNeg (nI (upTo (plsh (wpP W) x.toNatClampNeg))) (rwn (wpR W)), W) else (-1, rfu W 1)
theorem pm_lacks (W : Wp) (wk : WpOk W) (x : Int32) : PM mu_X6_lacks 2 0 0 [.ref 0, .int x] (wpB W) (eqP (some (.int (wLacks W x).1)) (wpB (wLacks W x).2)) := by
  have o1 := wk.1.1
  have o1 : plnj (wpP W) ≤ 6 := o1
  cases hb : inB (plnj (wpP W)) x with
  | false =>
    have e : wLacks W x = (-1, rfu W 1) := by unfold wLacks; rw [hb]; rfl
    rw [e]
    refine PM.start (Or.inl (by decide +kernel)) rfl rfl rfl ?_
    intro X hX hR hx hin
    refine PW.aload_n hX dX6_lacks_0 rfl rfl ?_
    refine PW.getfield hX fl_X6_12 dX6_lacks_1 rfl rfl ?_
    refine PW.iload_n hX dX6_lacks_4 rfl rfl ?_
    refine PW.vR hX ml_X6_79 (pm_hasJob (wpP W) x) dX6_lacks_5 [1, 2, 3, 4, 5, 6, 7, 8] (e1_P W) rfl rfl rfl rfl rfl rfl rfl rfl rfl rfl rfl rfl ?_
    refine PW.if_ne (tgt := 17) hX dX6_lacks_8 (by decide) (fun c8 => ?_) (fun c8 => ?_)
    · first | rw [bI_d0] at c8 | rw [bI_eq0] at c8 | rw [nI_eq0 (by omega)] at c8 | skip
      exact absurd hb c8 -- CLOSED
    · first | rw [bI_d0] at c8 | rw [bI_eq0] at c8 | rw [nI_eq0 (by omega)] at c8 | skip
      refine PW.aload_n hX dX6_lacks_11 rfl rfl ?_
      refine PW.iconst (v := (-1)) hX dX6_lacks_12 (by decide) ?_
      refine PW.vIi hX ml_X6_58 (pm_refuse W (-1) 1 (by decide) (by decide) (by decide)) dX6_lacks_13 45 rfl rfl rfl rfl rfl rfl rfl rfl rfl rfl rfl rfl rfl rfl rfl ?_
      refine PW.iret hX hR dX6_lacks_16 rfl rfl ?_
      exact ⟨rfl, rfl⟩
  | true =>
    obtain ⟨k, hk, rfl⟩ := inB_of (by omega) hb
    have h5 := wk.1.2.2.2.2.1 k hk
    have cM := pm_numbersLacking (wpR W) wk.2.2.2 k (plsh (wpP W) k) (by omega) (by omega)
    have e : wLacks W (nI k) = (lkF (rwnu (wpR W)) k (nI (upTo (plsh (wpP W) k))) (rwn (wpR W)), W) := by unfold wLacks; rw [hb, nI_clamp (by omega)]; rfl
    rw [e]
    generalize lkF (rwnu (wpR W)) k (nI (upTo (plsh (wpP W) k))) (rwn (wpR W)) = z at cM ⊢
    refine PM.start (Or.inl (by decide +kernel)) rfl rfl rfl ?_
    intro X hX hR hx hin
    refine PW.aload_n hX dX6_lacks_0 rfl rfl ?_
    refine PW.getfield hX fl_X6_12 dX6_lacks_1 rfl rfl ?_
    refine PW.iload_n hX dX6_lacks_4 rfl rfl ?_
    refine PW.vR hX ml_X6_79 (pm_hasJob (wpP W) (nI k)) dX6_lacks_5 [1, 2, 3, 4, 5, 6, 7, 8] (e1_P W) rfl rfl rfl rfl rfl rfl rfl rfl rfl rfl rfl rfl ?_
    refine PW.if_ne (tgt := 17) hX dX6_lacks_8 (by decide) (fun c8 => ?_) (fun c8 => ?_)
    · first | rw [bI_d0] at c8 | rw [bI_eq0] at c8 | rw [nI_eq0 (by omega)] at c8 | skip
      refine PW.aload_n hX dX6_lacks_17 rfl rfl ?_
      refine PW.getfield hX fl_X6_46 dX6_lacks_18 rfl rfl ?_
      refine PW.iload_n hX dX6_lacks_21 rfl rfl ?_
      refine PW.aload_n hX dX6_lacks_22 rfl rfl ?_
      refine PW.getfield hX fl_X6_12 dX6_lacks_23 rfl rfl ?_
      refine PW.getfield hX fl_X6_86 dX6_lacks_26 rfl rfl ?_
      refine PW.iload_n hX dX6_lacks_29 rfl rfl ?_
      refine PW.iaload hX dX6_lacks_30 rfl rfl rfl (by omega) ?_
      refine PW.vR hX ml_X6_192 (id cM) dX6_lacks_31 [39, 40, 41, 42, 43] (e1_R W) rfl rfl rfl rfl rfl rfl rfl rfl rfl rfl rfl rfl ?_
      refine PW.iret hX hR dX6_lacks_34 rfl rfl ?_
      exact ⟨rfl, rfl⟩
    · first | rw [bI_d0] at c8 | rw [bI_eq0] at c8 | rw [nI_eq0 (by omega)] at c8 | skip
      exact absurd (hb.symm.trans c8) (by decide) -- CLOSED
def wLaps (W : Wp) (x : Int32) : Int32 × Wp := if x < nI 2 then (-4, rfu W 4) else if nI 9 < x then (-6, rfu W 6) else (nI (lpL x.toNatClampNeg (rnF (fpA (rwnu (wpR W)) (rwn (wpR W)) (rwfp (wpR W)) (rwn (wpR W))) (rwn (wpR W)) 100).1 21 1 0), swR W (rwP (wpR W) (fpA (rwnu (wpR W)) (rwn (wpR W)) (rwfp (wpR W)) (rwn (wpR W)))))
theorem pm_laps (W : Wp) (wk : WpOk W) (x : Int32) : PM mu_X6_laps 3 0 0 [.ref 0, .int x] (wpB W) (eqP (some (.int (wLaps W x).1)) (wpB (wLaps W x).2)) := by
  unfold wLaps
  by_cases h0 : x < nI 2
  · rw [if_pos h0]
    refine PM.start (Or.inl (by decide +kernel)) rfl rfl rfl ?_
    intro X hX hR hx hin
    refine PW.iload_n hX dX6_laps_0 rfl rfl ?_
    refine PW.iconst (v := nI 2) hX dX6_laps_1 (by decide) ?_
    refine PW.icmp_ge (tgt := 12) hX dX6_laps_2 (by decide) (fun c2 => ?_) (fun c2 => ?_)
    · exact absurd h0 (i32_nlt.mpr c2) -- CLOSED
    · refine PW.aload_n hX dX6_laps_5 rfl rfl ?_
      refine PW.bipush (v := (-4)) hX dX6_laps_6 (by decide) ?_
      refine PW.vIi hX ml_X6_58 (pm_refuse W (-4) 4 (by decide) (by decide) (by decide)) dX6_laps_8 45 rfl rfl rfl rfl rfl rfl rfl rfl rfl rfl rfl rfl rfl rfl rfl ?_
      refine PW.iret hX hR dX6_laps_11 rfl rfl ?_
      exact ⟨rfl, rfl⟩
  · rw [if_neg h0]
    by_cases h1 : nI 9 < x
    · rw [if_pos h1]
      refine PM.start (Or.inl (by decide +kernel)) rfl rfl rfl ?_
      intro X hX hR hx hin
      refine PW.iload_n hX dX6_laps_0 rfl rfl ?_
      refine PW.iconst (v := nI 2) hX dX6_laps_1 (by decide) ?_
      refine PW.icmp_ge (tgt := 12) hX dX6_laps_2 (by decide) (fun c2 => ?_) (fun c2 => ?_)
      · refine PW.iload_n hX dX6_laps_12 rfl rfl ?_
        refine PW.bipush (v := nI 9) hX dX6_laps_13 (by decide) ?_
        refine PW.icmp_le (tgt := 25) hX dX6_laps_15 (by decide) (fun c15 => ?_) (fun c15 => ?_)
        · exact absurd h1 (i32_nlt.mpr c15) -- CLOSED
        · refine PW.aload_n hX dX6_laps_18 rfl rfl ?_
          refine PW.bipush (v := (-6)) hX dX6_laps_19 (by decide) ?_
          refine PW.vIi hX ml_X6_58 (pm_refuse W (-6) 6 (by decide) (by decide) (by decide)) dX6_laps_21 45 rfl rfl rfl rfl rfl rfl rfl rfl rfl rfl rfl rfl rfl rfl rfl ?_
          refine PW.iret hX hR dX6_laps_24 rfl rfl ?_
          exact ⟨rfl, rfl⟩
      · exact absurd (i32_nle.mp c2) h0 -- CLOSED
    · rw [if_neg h1]
      have hx0 : ¬ x < 0 := fun q => h0 (Int32.lt_of_lt_of_le q (by decide))
      obtain ⟨k, hk, rfl⟩ := nI_of hx0
      rw [nI_clamp hk]
      rw [nI_ltI hk (by omega)] at h0
      rw [nI_ltI (by omega) hk] at h1
      have cM := pm_fewestLaps (wpR W) wk.2.2.2 k (by omega) (by omega)
      generalize lpL k (rnF (fpA (rwnu (wpR W)) (rwn (wpR W)) (rwfp (wpR W)) (rwn (wpR W))) (rwn (wpR W)) 100).1 21 1 0 = z at cM ⊢
      generalize fpA (rwnu (wpR W)) (rwn (wpR W)) (rwfp (wpR W)) (rwn (wpR W)) = fp at cM ⊢
      refine PM.start (Or.inl (by decide +kernel)) rfl rfl rfl ?_
      intro X hX hR hx hin
      refine PW.iload_n hX dX6_laps_0 rfl rfl ?_
      refine PW.iconst (v := nI 2) hX dX6_laps_1 (by decide) ?_
      refine PW.icmp_ge (tgt := 12) hX dX6_laps_2 (by decide) (fun c2 => ?_) (fun c2 => ?_)
      · try rw [nI_leI (by omega) (by omega)] at c2
        refine PW.iload_n hX dX6_laps_12 rfl rfl ?_
        refine PW.bipush (v := nI 9) hX dX6_laps_13 (by decide) ?_
        refine PW.icmp_le (tgt := 25) hX dX6_laps_15 (by decide) (fun c15 => ?_) (fun c15 => ?_)
        · try rw [nI_leI (by omega) (by omega)] at c15
          refine PW.aload_n hX dX6_laps_25 rfl rfl ?_
          refine PW.getfield hX fl_X6_46 dX6_laps_26 rfl rfl ?_
          refine PW.iload_n hX dX6_laps_29 rfl rfl ?_
          refine PW.vI hX ml_X6_196 (id cM) dX6_laps_30 [39, 40, 41, 42, 43] (e1_R W) rfl rfl rfl rfl rfl rfl rfl rfl rfl rfl rfl rfl rfl (eh_R W _) ?_
          refine PW.iret hX hR dX6_laps_33 rfl rfl ?_
          exact ⟨rfl, rfl⟩
        · try rw [nI_leI (by omega) (by omega)] at c15
          exfalso; omega -- CLOSED
      · try rw [nI_leI (by omega) (by omega)] at c2
        exfalso; omega -- CLOSED
def twoJ (W : Wp) (x y : Int32) : Bool := inB (plnj (wpP W)) x && (inB (plnj (wpP W)) y && decide (¬ x = y))
theorem pm_areTwoJobs (W : Wp) (x y : Int32) : PM mu_X6_areTwoJobs 1 0 0 [.ref 0, .int x, .int y] (wpB W) (eqP (some (.int (bI (twoJ W x y)))) (wpB W)) := by
  refine PM.start (Or.inl (by decide +kernel)) rfl rfl rfl ?_
  intro X hX hR hx hin
  refine PW.aload_n hX dX6_areTwoJobs_0 rfl rfl ?_
  refine PW.getfield hX fl_X6_12 dX6_areTwoJobs_1 rfl rfl ?_
  refine PW.iload_n hX dX6_areTwoJobs_4 rfl rfl ?_
  refine PW.vR hX ml_X6_79 (pm_hasJob (wpP W) x) dX6_areTwoJobs_5 [1, 2, 3, 4, 5, 6, 7, 8] (e1_P W) rfl rfl rfl rfl rfl rfl rfl rfl rfl rfl rfl rfl ?_
  refine PW.if_eq (tgt := 31) hX dX6_areTwoJobs_8 (by decide) (fun c8 => ?_) (fun c8 => ?_)
  · rw [bI_eq0] at c8
    refine PW.iconst (v := nI 0) hX dX6_areTwoJobs_31 (by decide) ?_
    refine PW.zret hX hR dX6_areTwoJobs_32 (by first | exact Or.inl rfl | exact Or.inr rfl | assumption) rfl rfl ?_
    exact ⟨rF (by unfold twoJ; rw [c8]; rfl), rfl⟩
  · rw [bI_eq0, Bool.not_eq_false] at c8
    refine PW.aload_n hX dX6_areTwoJobs_11 rfl rfl ?_
    refine PW.getfield hX fl_X6_12 dX6_areTwoJobs_12 rfl rfl ?_
    refine PW.iload_n hX dX6_areTwoJobs_15 rfl rfl ?_
    refine PW.vR hX ml_X6_79 (pm_hasJob (wpP W) y) dX6_areTwoJobs_16 [1, 2, 3, 4, 5, 6, 7, 8] (e1_P W) rfl rfl rfl rfl rfl rfl rfl rfl rfl rfl rfl rfl ?_
    refine PW.if_eq (tgt := 31) hX dX6_areTwoJobs_19 (by decide) (fun c19 => ?_) (fun c19 => ?_)
    · rw [bI_eq0] at c19
      refine PW.iconst (v := nI 0) hX dX6_areTwoJobs_31 (by decide) ?_
      refine PW.zret hX hR dX6_areTwoJobs_32 (by first | exact Or.inl rfl | exact Or.inr rfl | assumption) rfl rfl ?_
      exact ⟨rF (by unfold twoJ; rw [c8, c19]; rfl), rfl⟩
    · rw [bI_eq0, Bool.not_eq_false] at c19
      refine PW.iload_n hX dX6_areTwoJobs_22 rfl rfl ?_
      refine PW.iload_n hX dX6_areTwoJobs_23 rfl rfl ?_
      refine PW.icmp_eq (tgt := 31) hX dX6_areTwoJobs_24 (by decide) (fun c24 => ?_) (fun c24 => ?_)
      · refine PW.iconst (v := nI 0) hX dX6_areTwoJobs_31 (by decide) ?_
        refine PW.zret hX hR dX6_areTwoJobs_32 (by first | exact Or.inl rfl | exact Or.inr rfl | assumption) rfl rfl ?_
        exact ⟨rF (by unfold twoJ; rw [c8, c19, decide_eq_false (fun q => q c24)]; rfl), rfl⟩
      · refine PW.iconst (v := nI 1) hX dX6_areTwoJobs_27 (by decide) ?_
        refine PW.goto (tgt := 32) hX dX6_areTwoJobs_28 (by decide) ?_
        refine PW.zret hX hR dX6_areTwoJobs_32 (by first | exact Or.inl rfl | exact Or.inr rfl | assumption) rfl rfl ?_
        exact ⟨rT (by unfold twoJ; rw [c8, c19, decide_eq_true c24]; rfl), rfl⟩
def shOf (W : Wp) (x : Int32) : Nat := plsh (wpP W) x.toNatClampNeg
def wTwo (W : Wp) (x y : Int32) : Int32 × Wp := bif twoJ W x y then (wRes (rwnu (wpR W)) (rwn (wpR W)) (shOf W x) (shOf W y) 0 (rwwy (wpR W)), swR W (rwW (wpR W) (wAll (rwnu (wpR W)) (rwn (wpR W)) (shOf W x) (shOf W y) 0 (rwwy (wpR W))))) else (-1, rfu W 1)
theorem pm_two (W : Wp) (wk : WpOk W) (x y : Int32) : PM mu_X6_two 3 0 0 [.ref 0, .int x, .int y] (wpB W) (eqP (some (.int (wTwo W x y).1)) (wpB (wTwo W x y).2)) := by
  have o1 := wk.1.1
  have o1 : plnj (wpP W) ≤ 6 := o1
  cases hb : twoJ W x y with
  | false =>
    have e : wTwo W x y = (-1, rfu W 1) := by unfold wTwo; rw [hb]; rfl
    rw [e]
    refine PM.start (Or.inl (by decide +kernel)) rfl rfl rfl ?_
    intro X hX hR hx hin
    refine PW.aload_n hX dX6_two_0 rfl rfl ?_
    refine PW.iload_n hX dX6_two_1 rfl rfl ?_
    refine PW.iload_n hX dX6_two_2 rfl rfl ?_
    refine PW.vIi hX ml_X6_181 (pm_areTwoJobs W x y) dX6_two_3 45 rfl rfl rfl rfl rfl rfl rfl rfl rfl rfl rfl rfl rfl rfl rfl ?_
    refine PW.if_ne (tgt := 15) hX dX6_two_6 (by decide) (fun c6 => ?_) (fun c6 => ?_)
    · first | rw [bI_d0] at c6 | rw [bI_eq0] at c6 | rw [nI_eq0 (by omega)] at c6 | skip
      exact absurd hb c6 -- CLOSED
    · first | rw [bI_d0] at c6 | rw [bI_eq0] at c6 | rw [nI_eq0 (by omega)] at c6 | skip
      refine PW.aload_n hX dX6_two_9 rfl rfl ?_
      refine PW.iconst (v := (-1)) hX dX6_two_10 (by decide) ?_
      refine PW.vIi hX ml_X6_58 (pm_refuse W (-1) 1 (by decide) (by decide) (by decide)) dX6_two_11 45 rfl rfl rfl rfl rfl rfl rfl rfl rfl rfl rfl rfl rfl rfl rfl ?_
      refine PW.iret hX hR dX6_two_14 rfl rfl ?_
      exact ⟨rfl, rfl⟩
  | true =>
    have e : wTwo W x y = (wRes (rwnu (wpR W)) (rwn (wpR W)) (shOf W x) (shOf W y) 0 (rwwy (wpR W)), swR W (rwW (wpR W) (wAll (rwnu (wpR W)) (rwn (wpR W)) (shOf W x) (shOf W y) 0 (rwwy (wpR W))))) := by unfold wTwo; rw [hb]; rfl
    rw [e]
    have hb2 := hb
    simp only [twoJ, Bool.and_eq_true] at hb2
    obtain ⟨k, hk, rfl⟩ := inB_of (by omega) hb2.1
    obtain ⟨l, hl, rfl⟩ := inB_of (by omega) hb2.2.1
    have ek : shOf W (nI k) = plsh (wpP W) k := by unfold shOf; rw [nI_clamp (by omega)]
    have el : shOf W (nI l) = plsh (wpP W) l := by unfold shOf; rw [nI_clamp (by omega)]
    rw [ek, el]
    have h5 := wk.1.2.2.2.2.1 k hk
    have h6 := wk.1.2.2.2.2.1 l hl
    have cM := pm_waysOfThree (wpR W) wk.2.2.2 (plsh (wpP W) k) (plsh (wpP W) l) 0 (by omega) (by omega) (by decide)
    generalize wRes (rwnu (wpR W)) (rwn (wpR W)) (plsh (wpP W) k) (plsh (wpP W) l) 0 (rwwy (wpR W)) = z at cM ⊢
    generalize wAll (rwnu (wpR W)) (rwn (wpR W)) (plsh (wpP W) k) (plsh (wpP W) l) 0 (rwwy (wpR W)) = w2 at cM ⊢
    refine PM.start (Or.inl (by decide +kernel)) rfl rfl rfl ?_
    intro X hX hR hx hin
    refine PW.aload_n hX dX6_two_0 rfl rfl ?_
    refine PW.iload_n hX dX6_two_1 rfl rfl ?_
    refine PW.iload_n hX dX6_two_2 rfl rfl ?_
    refine PW.vIi hX ml_X6_181 (pm_areTwoJobs W (nI k) (nI l)) dX6_two_3 45 rfl rfl rfl rfl rfl rfl rfl rfl rfl rfl rfl rfl rfl rfl rfl ?_
    refine PW.if_ne (tgt := 15) hX dX6_two_6 (by decide) (fun c6 => ?_) (fun c6 => ?_)
    · first | rw [bI_d0] at c6 | rw [bI_eq0] at c6 | rw [nI_eq0 (by omega)] at c6 | skip
      refine PW.aload_n hX dX6_two_15 rfl rfl ?_
      refine PW.getfield hX fl_X6_46 dX6_two_16 rfl rfl ?_
      refine PW.aload_n hX dX6_two_19 rfl rfl ?_
      refine PW.getfield hX fl_X6_12 dX6_two_20 rfl rfl ?_
      refine PW.getfield hX fl_X6_86 dX6_two_23 rfl rfl ?_
      refine PW.iload_n hX dX6_two_26 rfl rfl ?_
      refine PW.iaload hX dX6_two_27 rfl rfl rfl (by omega) ?_
      refine PW.aload_n hX dX6_two_28 rfl rfl ?_
      refine PW.getfield hX fl_X6_12 dX6_two_29 rfl rfl ?_
      refine PW.getfield hX fl_X6_86 dX6_two_32 rfl rfl ?_
      refine PW.iload_n hX dX6_two_35 rfl rfl ?_
      refine PW.iaload hX dX6_two_36 rfl rfl rfl (by omega) ?_
      refine PW.iconst (v := nI 0) hX dX6_two_37 (by decide) ?_
      refine PW.vI hX ml_X6_185 (id cM) dX6_two_38 [39, 40, 41, 42, 43] (e1_R W) rfl rfl rfl rfl rfl rfl rfl rfl rfl rfl rfl rfl rfl (eh_R W _) ?_
      refine PW.iret hX hR dX6_two_41 rfl rfl ?_
      exact ⟨rfl, rfl⟩
    · first | rw [bI_d0] at c6 | rw [bI_eq0] at c6 | rw [nI_eq0 (by omega)] at c6 | skip
      exact absurd (hb.symm.trans c6) (by decide) -- CLOSED
def wThree (W : Wp) (x y u : Int32) : Int32 × Wp := bif twoJ W x y && (twoJ W x u && twoJ W y u) then (wRes (rwnu (wpR W)) (rwn (wpR W)) (shOf W x) (shOf W y) (shOf W u) (rwwy (wpR W)), swR W (rwW (wpR W) (wAll (rwnu (wpR W)) (rwn (wpR W)) (shOf W x) (shOf W y) (shOf W u) (rwwy (wpR W))))) else (-1, rfu W 1)
theorem pm_three (W : Wp) (wk : WpOk W) (x y u : Int32) : PM mu_X6_three 3 0 0 [.ref 0, .int x, .int y, .int u] (wpB W) (eqP (some (.int (wThree W x y u).1)) (wpB (wThree W x y u).2)) := by
  have o1 := wk.1.1
  have o1 : plnj (wpP W) ≤ 6 := o1
  cases hb : twoJ W x y && (twoJ W x u && twoJ W y u) with
  | false =>
    have e : wThree W x y u = (-1, rfu W 1) := by unfold wThree; rw [hb]; rfl
    rw [e]
    refine PM.start (Or.inl (by decide +kernel)) rfl rfl rfl ?_
    intro X hX hR hx hin
    refine PW.aload_n hX dX6_three_0 rfl rfl ?_
    refine PW.iload_n hX dX6_three_1 rfl rfl ?_
    refine PW.iload_n hX dX6_three_2 rfl rfl ?_
    refine PW.vIi hX ml_X6_181 (pm_areTwoJobs W x y) dX6_three_3 45 rfl rfl rfl rfl rfl rfl rfl rfl rfl rfl rfl rfl rfl rfl rfl ?_
    refine PW.if_eq (tgt := 27) hX dX6_three_6 (by decide) (fun c6 => ?_) (fun c6 => ?_)
    · first | rw [bI_d0] at c6 | rw [bI_eq0] at c6 | rw [nI_eq0 (by omega)] at c6 | skip
      refine PW.aload_n hX dX6_three_27 rfl rfl ?_
      refine PW.iconst (v := (-1)) hX dX6_three_28 (by decide) ?_
      refine PW.vIi hX ml_X6_58 (pm_refuse W (-1) 1 (by decide) (by decide) (by decide)) dX6_three_29 45 rfl rfl rfl rfl rfl rfl rfl rfl rfl rfl rfl rfl rfl rfl rfl ?_
      refine PW.iret hX hR dX6_three_32 rfl rfl ?_
      exact ⟨rfl, rfl⟩
    · first | rw [bI_d0] at c6 | rw [bI_eq0] at c6 | rw [nI_eq0 (by omega)] at c6 | skip
      rw [Bool.not_eq_false] at c6
      refine PW.aload_n hX dX6_three_9 rfl rfl ?_
      refine PW.iload_n hX dX6_three_10 rfl rfl ?_
      refine PW.iload_n hX dX6_three_11 rfl rfl ?_
      refine PW.vIi hX ml_X6_181 (pm_areTwoJobs W x u) dX6_three_12 45 rfl rfl rfl rfl rfl rfl rfl rfl rfl rfl rfl rfl rfl rfl rfl ?_
      refine PW.if_eq (tgt := 27) hX dX6_three_15 (by decide) (fun c15 => ?_) (fun c15 => ?_)
      · first | rw [bI_d0] at c15 | rw [bI_eq0] at c15 | rw [nI_eq0 (by omega)] at c15 | skip
        refine PW.aload_n hX dX6_three_27 rfl rfl ?_
        refine PW.iconst (v := (-1)) hX dX6_three_28 (by decide) ?_
        refine PW.vIi hX ml_X6_58 (pm_refuse W (-1) 1 (by decide) (by decide) (by decide)) dX6_three_29 45 rfl rfl rfl rfl rfl rfl rfl rfl rfl rfl rfl rfl rfl rfl rfl ?_
        refine PW.iret hX hR dX6_three_32 rfl rfl ?_
        exact ⟨rfl, rfl⟩
      · first | rw [bI_d0] at c15 | rw [bI_eq0] at c15 | rw [nI_eq0 (by omega)] at c15 | skip
        rw [Bool.not_eq_false] at c15
        refine PW.aload_n hX dX6_three_18 rfl rfl ?_
        refine PW.iload_n hX dX6_three_19 rfl rfl ?_
        refine PW.iload_n hX dX6_three_20 rfl rfl ?_
        refine PW.vIi hX ml_X6_181 (pm_areTwoJobs W y u) dX6_three_21 45 rfl rfl rfl rfl rfl rfl rfl rfl rfl rfl rfl rfl rfl rfl rfl ?_
        refine PW.if_ne (tgt := 33) hX dX6_three_24 (by decide) (fun c24 => ?_) (fun c24 => ?_)
        · first | rw [bI_d0] at c24 | rw [bI_eq0] at c24 | rw [nI_eq0 (by omega)] at c24 | skip
          rw [Bool.not_eq_false] at c24
          rw [c6, c15, c24] at hb
          exact absurd hb (by decide) -- CLOSED
        · first | rw [bI_d0] at c24 | rw [bI_eq0] at c24 | rw [nI_eq0 (by omega)] at c24 | skip
          refine PW.aload_n hX dX6_three_27 rfl rfl ?_
          refine PW.iconst (v := (-1)) hX dX6_three_28 (by decide) ?_
          refine PW.vIi hX ml_X6_58 (pm_refuse W (-1) 1 (by decide) (by decide) (by decide)) dX6_three_29 45 rfl rfl rfl rfl rfl rfl rfl rfl rfl rfl rfl rfl rfl rfl rfl ?_
          refine PW.iret hX hR dX6_three_32 rfl rfl ?_
          exact ⟨rfl, rfl⟩
  | true =>
    have e : wThree W x y u = (wRes (rwnu (wpR W)) (rwn (wpR W)) (shOf W x) (shOf W y) (shOf W u) (rwwy (wpR W)), swR W (rwW (wpR W) (wAll (rwnu (wpR W)) (rwn (wpR W)) (shOf W x) (shOf W y) (shOf W u) (rwwy (wpR W))))) := by unfold wThree; rw [hb]; rfl
    rw [e]
    simp only [Bool.and_eq_true] at hb
    obtain ⟨b1, b2, b3⟩ := hb
    have hb2 := b1
    have hb3 := b2
    simp only [twoJ, Bool.and_eq_true] at hb2 hb3
    obtain ⟨k, hk, rfl⟩ := inB_of (by omega) hb2.1
    obtain ⟨l, hl, rfl⟩ := inB_of (by omega) hb2.2.1
    obtain ⟨q, hq, rfl⟩ := inB_of (by omega) hb3.2.1
    have ek : shOf W (nI k) = plsh (wpP W) k := by unfold shOf; rw [nI_clamp (by omega)]
    have el : shOf W (nI l) = plsh (wpP W) l := by unfold shOf; rw [nI_clamp (by omega)]
    have eq : shOf W (nI q) = plsh (wpP W) q := by unfold shOf; rw [nI_clamp (by omega)]
    rw [ek, el, eq]
    have h5 := wk.1.2.2.2.2.1 k hk
    have h6 := wk.1.2.2.2.2.1 l hl
    have h7 := wk.1.2.2.2.2.1 q hq
    have cM := pm_waysOfThree (wpR W) wk.2.2.2 (plsh (wpP W) k) (plsh (wpP W) l) (plsh (wpP W) q) (by omega) (by omega) (by omega)
    generalize wRes (rwnu (wpR W)) (rwn (wpR W)) (plsh (wpP W) k) (plsh (wpP W) l) (plsh (wpP W) q) (rwwy (wpR W)) = z at cM ⊢
    generalize wAll (rwnu (wpR W)) (rwn (wpR W)) (plsh (wpP W) k) (plsh (wpP W) l) (plsh (wpP W) q) (rwwy (wpR W)) = w2 at cM ⊢
    refine PM.start (Or.inl (by decide +kernel)) rfl rfl rfl ?_
    intro X hX hR hx hin
    refine PW.aload_n hX dX6_three_0 rfl rfl ?_
    refine PW.iload_n hX dX6_three_1 rfl rfl ?_
    refine PW.iload_n hX dX6_three_2 rfl rfl ?_
    refine PW.vIi hX ml_X6_181 (pm_areTwoJobs W (nI k) (nI l)) dX6_three_3 45 rfl rfl rfl rfl rfl rfl rfl rfl rfl rfl rfl rfl rfl rfl rfl ?_
    refine PW.if_eq (tgt := 27) hX dX6_three_6 (by decide) (fun c6 => ?_) (fun c6 => ?_)
    · first | rw [bI_d0] at c6 | rw [bI_eq0] at c6 | rw [nI_eq0 (by omega)] at c6 | skip
      exact absurd (b1.symm.trans c6) (by decide) -- CLOSED
    · first | rw [bI_d0] at c6 | rw [bI_eq0] at c6 | rw [nI_eq0 (by omega)] at c6 | skip
      refine PW.aload_n hX dX6_three_9 rfl rfl ?_
      refine PW.iload_n hX dX6_three_10 rfl rfl ?_
      refine PW.iload_n hX dX6_three_11 rfl rfl ?_
      refine PW.vIi hX ml_X6_181 (pm_areTwoJobs W (nI k) (nI q)) dX6_three_12 45 rfl rfl rfl rfl rfl rfl rfl rfl rfl rfl rfl rfl rfl rfl rfl ?_
      refine PW.if_eq (tgt := 27) hX dX6_three_15 (by decide) (fun c15 => ?_) (fun c15 => ?_)
      · first | rw [bI_d0] at c15 | rw [bI_eq0] at c15 | rw [nI_eq0 (by omega)] at c15 | skip
        exact absurd (b2.symm.trans c15) (by decide) -- CLOSED
      · first | rw [bI_d0] at c15 | rw [bI_eq0] at c15 | rw [nI_eq0 (by omega)] at c15 | skip
        refine PW.aload_n hX dX6_three_18 rfl rfl ?_
        refine PW.iload_n hX dX6_three_19 rfl rfl ?_
        refine PW.iload_n hX dX6_three_20 rfl rfl ?_
        refine PW.vIi hX ml_X6_181 (pm_areTwoJobs W (nI l) (nI q)) dX6_three_21 45 rfl rfl rfl rfl rfl rfl rfl rfl rfl rfl rfl rfl rfl rfl rfl ?_
        refine PW.if_ne (tgt := 33) hX dX6_three_24 (by decide) (fun c24 => ?_) (fun c24 => ?_)
        · first | rw [bI_d0] at c24 | rw [bI_eq0] at c24 | rw [nI_eq0 (by omega)] at c24 | skip
          refine PW.aload_n hX dX6_three_33 rfl rfl ?_
          refine PW.getfield hX fl_X6_46 dX6_three_34 rfl rfl ?_
          refine PW.aload_n hX dX6_three_37 rfl rfl ?_
          refine PW.getfield hX fl_X6_12 dX6_three_38 rfl rfl ?_
          refine PW.getfield hX fl_X6_86 dX6_three_41 rfl rfl ?_
          refine PW.iload_n hX dX6_three_44 rfl rfl ?_
          refine PW.iaload hX dX6_three_45 rfl rfl rfl (by omega) ?_
          refine PW.aload_n hX dX6_three_46 rfl rfl ?_
          refine PW.getfield hX fl_X6_12 dX6_three_47 rfl rfl ?_
          refine PW.getfield hX fl_X6_86 dX6_three_50 rfl rfl ?_
          refine PW.iload_n hX dX6_three_53 rfl rfl ?_
          refine PW.iaload hX dX6_three_54 rfl rfl rfl (by omega) ?_
          refine PW.aload_n hX dX6_three_55 rfl rfl ?_
          refine PW.getfield hX fl_X6_12 dX6_three_56 rfl rfl ?_
          refine PW.getfield hX fl_X6_86 dX6_three_59 rfl rfl ?_
          refine PW.iload_n hX dX6_three_62 rfl rfl ?_
          refine PW.iaload hX dX6_three_63 rfl rfl rfl (by omega) ?_
          refine PW.vI hX ml_X6_185 (id cM) dX6_three_64 [39, 40, 41, 42, 43] (e1_R W) rfl rfl rfl rfl rfl rfl rfl rfl rfl rfl rfl rfl rfl (eh_R W _) ?_
          refine PW.iret hX hR dX6_three_67 rfl rfl ?_
          exact ⟨rfl, rfl⟩
        · first | rw [bI_d0] at c24 | rw [bI_eq0] at c24 | rw [nI_eq0 (by omega)] at c24 | skip
          exact absurd (b3.symm.trans c24) (by decide) -- CLOSED
