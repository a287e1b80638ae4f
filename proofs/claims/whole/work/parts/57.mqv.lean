/-! ===== the reference: held who missing ask mixed ===== -/
def qHeld (P : Pl) (D : Dy) (M M' : Md) (x y : Int32) : Int32 × Md := bif inB 4 x then (if y = nI 0 then (nI (sumN (hdF P D x.toNatClampNeg true) 60), M') else if y = nI 1 then (nI (sumN (hdF P D x.toNatClampNeg false) 60), M') else (-2, mNo M 2)) else (-1, mNo M 1)
theorem pm_mheld (M : Md) (C : MC) (P : Pl) (D : Dy) (pr : PR P (mno M)) (ok : PlOk P) (dk : DyOk P D 100) (df : DF P D 100) (cr : CRl D C) (di : DIn P D) (h3 : ∀ j, j < 80 → mno M j < 100) (cG : PM mu_X7_goTo 3 0 0 [.ref 0, .int (nI 99)] (mdB M) (eqP none (mdB (sC M C)))) (x y : Int32) : PM mu_X7_held 4 0 0 [.ref 0, .int x, .int y] (mdB M) (eqP (some (.int (qHeld P D M (sC M C) x y).1)) (mdB (qHeld P D M (sC M C) x y).2)) := by
  unfold qHeld
  cases hj : inB 4 x with
  | false =>
    dsimp only [cond_false]
    refine PM.start (Or.inl (by decide +kernel)) rfl rfl rfl ?_
    intro X hX hR hx hin
    refine PW.aload_n hX dX7_held_0 rfl rfl ?_
    refine PW.iload_n hX dX7_held_1 rfl rfl ?_
    refine PW.vIi hX ml_X7_150 (pm_mnw M x) dX7_held_2 17 rfl rfl rfl rfl rfl rfl rfl rfl rfl rfl rfl rfl rfl rfl rfl ?_
    rw [hj]
    refine PW.if_eq (tgt := 14) hX dX7_held_5 (by decide) (fun c5 => ?_) (fun c5 => ?_)
    · first | rw [bI_d0] at c5 | rw [bI_eq0] at c5 | rw [nI_eq0 (by omega)] at c5 | skip
      exact absurd c5 (by decide) -- CLOSED
    · first | rw [bI_d0] at c5 | rw [bI_eq0] at c5 | rw [nI_eq0 (by omega)] at c5 | skip
      refine PW.aload_n hX dX7_held_8 rfl rfl ?_
      refine PW.iconst (v := (-1)) hX dX7_held_9 (by decide) ?_
      refine PW.vIi hX ml_X7_64 (pm_no M (-1) 1 (by decide) (by decide)) dX7_held_10 17 rfl rfl rfl rfl rfl rfl rfl rfl rfl rfl rfl rfl rfl rfl rfl ?_
      refine PW.iret hX hR dX7_held_13 rfl rfl ?_
      exact ⟨rfl, rfl⟩
  | true =>
    obtain ⟨o, ho, rfl⟩ := inB_of (by decide) hj
    dsimp only [cond_true]
    rw [nI_clamp (by omega)]
    cases hy : inB 2 y with
    | false =>
      have hn := inB_neg hy
      obtain ⟨y0, y1⟩ := inB2_f hy
      rw [if_neg y0, if_neg y1]
      refine PM.start (Or.inl (by decide +kernel)) rfl rfl rfl ?_
      intro X hX hR hx hin
      refine PW.aload_n hX dX7_held_0 rfl rfl ?_
      refine PW.iload_n hX dX7_held_1 rfl rfl ?_
      refine PW.vIi hX ml_X7_150 (pm_mnw M (nI o)) dX7_held_2 17 rfl rfl rfl rfl rfl rfl rfl rfl rfl rfl rfl rfl rfl rfl rfl ?_
      rw [hj]
      refine PW.if_eq (tgt := 14) hX dX7_held_5 (by decide) (fun c5 => ?_) (fun c5 => ?_)
      · refine PW.iload_n hX dX7_held_14 rfl rfl ?_
        refine PW.if_lt (tgt := 23) hX dX7_held_15 (by decide) (fun c15 => ?_) (fun c15 => ?_)
        · refine PW.aload_n hX dX7_held_23 rfl rfl ?_
          refine PW.bipush (v := (-2)) hX dX7_held_24 (by decide) ?_
          refine PW.vIi hX ml_X7_64 (pm_no M (-2) 2 (by decide) (by decide)) dX7_held_26 17 rfl rfl rfl rfl rfl rfl rfl rfl rfl rfl rfl rfl rfl rfl rfl ?_
          refine PW.iret hX hR dX7_held_29 rfl rfl ?_
          exact ⟨rfl, rfl⟩
        · refine PW.iload_n hX dX7_held_18 rfl rfl ?_
          refine PW.iconst (v := nI 1) hX dX7_held_19 (by decide) ?_
          refine PW.icmp_le (tgt := 30) hX dX7_held_20 (by decide) (fun c20 => ?_) (fun c20 => ?_)
          · exact absurd c20 (mnI_nle (n := 1) (by decide) (hn.resolve_left c15)) -- CLOSED
          · refine PW.aload_n hX dX7_held_23 rfl rfl ?_
            refine PW.bipush (v := (-2)) hX dX7_held_24 (by decide) ?_
            refine PW.vIi hX ml_X7_64 (pm_no M (-2) 2 (by decide) (by decide)) dX7_held_26 17 rfl rfl rfl rfl rfl rfl rfl rfl rfl rfl rfl rfl rfl rfl rfl ?_
            refine PW.iret hX hR dX7_held_29 rfl rfl ?_
            exact ⟨rfl, rfl⟩
      · exact absurd rfl c5 -- CLOSED
    | true =>
      obtain ⟨w, hw, rfl⟩ := inB_of (by decide) hy
      have cH := fun b => pm_mhas M C P D pr ok dk df cr di h3 cG o ho b
      have : w = 0 ∨ w = 1 := by omega
      rcases this with rfl | rfl
      · rw [if_pos rfl]
        have cH := cH true
        generalize sumN (hdF P D o true) 60 = s at cH ⊢
        refine PM.start (Or.inl (by decide +kernel)) rfl rfl rfl ?_
        intro X hX hR hx hin
        refine PW.aload_n hX dX7_held_0 rfl rfl ?_
        refine PW.iload_n hX dX7_held_1 rfl rfl ?_
        refine PW.vIi hX ml_X7_150 (pm_mnw M (nI o)) dX7_held_2 17 rfl rfl rfl rfl rfl rfl rfl rfl rfl rfl rfl rfl rfl rfl rfl ?_
        rw [hj]
        refine PW.if_eq (tgt := 14) hX dX7_held_5 (by decide) (fun c5 => ?_) (fun c5 => ?_)
        · first | rw [bI_d0] at c5 | rw [bI_eq0] at c5 | rw [nI_eq0 (by omega)] at c5 | skip
          refine PW.iload_n hX dX7_held_14 rfl rfl ?_
          refine PW.if_lt (tgt := 23) hX dX7_held_15 (by decide) (fun c15 => ?_) (fun c15 => ?_)
          · try rw [nI_lt0 (by omega)] at c15
            exact c15.elim -- CLOSED
          · try rw [nI_lt0 (by omega)] at c15
            refine PW.iload_n hX dX7_held_18 rfl rfl ?_
            refine PW.iconst (v := nI 1) hX dX7_held_19 (by decide) ?_
            refine PW.icmp_le (tgt := 30) hX dX7_held_20 (by decide) (fun c20 => ?_) (fun c20 => ?_)
            · try rw [nI_leI (by omega) (by omega)] at c20
              refine PW.aload_n hX dX7_held_30 rfl rfl ?_
              refine PW.bipush (v := nI 99) hX dX7_held_31 (by decide) ?_
              refine PW.vVi hX ml_X7_147 (cG) dX7_held_33 17 rfl rfl rfl rfl rfl rfl rfl rfl rfl rfl rfl rfl rfl rfl rfl ?_
              refine PW.aload_n hX dX7_held_36 rfl rfl ?_
              refine PW.iload_n hX dX7_held_37 rfl rfl ?_
              refine PW.iload_n hX dX7_held_38 rfl rfl ?_
              refine PW.if_ne (tgt := 46) hX dX7_held_39 (by decide) (fun c39 => ?_) (fun c39 => ?_)
              · first | rw [bI_d0] at c39 | rw [bI_eq0] at c39 | rw [nI_eq0 (by omega)] at c39 | skip
                exfalso; omega -- CLOSED
              · first | rw [bI_d0] at c39 | rw [bI_eq0] at c39 | rw [nI_eq0 (by omega)] at c39 | skip
                refine PW.iconst (v := nI 1) hX dX7_held_42 (by decide) ?_
                refine PW.goto (tgt := 47) hX dX7_held_43 (by decide) ?_
                refine PW.vIi hX ml_X7_153 (cH) dX7_held_47 17 rfl rfl rfl rfl rfl rfl rfl rfl rfl rfl rfl rfl rfl rfl rfl ?_
                refine PW.iret hX hR dX7_held_50 rfl rfl ?_
                exact ⟨rfl, rfl⟩
            · try rw [nI_leI (by omega) (by omega)] at c20
              exfalso; omega -- CLOSED
        · first | rw [bI_d0] at c5 | rw [bI_eq0] at c5 | rw [nI_eq0 (by omega)] at c5 | skip
          exact absurd rfl c5 -- CLOSED
      · rw [if_neg (by decide), if_pos rfl]
        have cH := cH false
        generalize sumN (hdF P D o false) 60 = s at cH ⊢
        refine PM.start (Or.inl (by decide +kernel)) rfl rfl rfl ?_
        intro X hX hR hx hin
        refine PW.aload_n hX dX7_held_0 rfl rfl ?_
        refine PW.iload_n hX dX7_held_1 rfl rfl ?_
        refine PW.vIi hX ml_X7_150 (pm_mnw M (nI o)) dX7_held_2 17 rfl rfl rfl rfl rfl rfl rfl rfl rfl rfl rfl rfl rfl rfl rfl ?_
        rw [hj]
        refine PW.if_eq (tgt := 14) hX dX7_held_5 (by decide) (fun c5 => ?_) (fun c5 => ?_)
        · first | rw [bI_d0] at c5 | rw [bI_eq0] at c5 | rw [nI_eq0 (by omega)] at c5 | skip
          refine PW.iload_n hX dX7_held_14 rfl rfl ?_
          refine PW.if_lt (tgt := 23) hX dX7_held_15 (by decide) (fun c15 => ?_) (fun c15 => ?_)
          · try rw [nI_lt0 (by omega)] at c15
            exact c15.elim -- CLOSED
          · try rw [nI_lt0 (by omega)] at c15
            refine PW.iload_n hX dX7_held_18 rfl rfl ?_
            refine PW.iconst (v := nI 1) hX dX7_held_19 (by decide) ?_
            refine PW.icmp_le (tgt := 30) hX dX7_held_20 (by decide) (fun c20 => ?_) (fun c20 => ?_)
            · try rw [nI_leI (by omega) (by omega)] at c20
              refine PW.aload_n hX dX7_held_30 rfl rfl ?_
              refine PW.bipush (v := nI 99) hX dX7_held_31 (by decide) ?_
              refine PW.vVi hX ml_X7_147 (cG) dX7_held_33 17 rfl rfl rfl rfl rfl rfl rfl rfl rfl rfl rfl rfl rfl rfl rfl ?_
              refine PW.aload_n hX dX7_held_36 rfl rfl ?_
              refine PW.iload_n hX dX7_held_37 rfl rfl ?_
              refine PW.iload_n hX dX7_held_38 rfl rfl ?_
              refine PW.if_ne (tgt := 46) hX dX7_held_39 (by decide) (fun c39 => ?_) (fun c39 => ?_)
              · first | rw [bI_d0] at c39 | rw [bI_eq0] at c39 | rw [nI_eq0 (by omega)] at c39 | skip
                refine PW.iconst (v := nI 0) hX dX7_held_46 (by decide) ?_
                refine PW.vIi hX ml_X7_153 (cH) dX7_held_47 17 rfl rfl rfl rfl rfl rfl rfl rfl rfl rfl rfl rfl rfl rfl rfl ?_
                refine PW.iret hX hR dX7_held_50 rfl rfl ?_
                exact ⟨rfl, rfl⟩
              · first | rw [bI_d0] at c39 | rw [bI_eq0] at c39 | rw [nI_eq0 (by omega)] at c39 | skip
                exfalso; omega -- CLOSED
            · try rw [nI_leI (by omega) (by omega)] at c20
              exfalso; omega -- CLOSED
        · first | rw [bI_d0] at c5 | rw [bI_eq0] at c5 | rw [nI_eq0 (by omega)] at c5 | skip
          exact absurd rfl c5 -- CLOSED
def qWho (P : Pl) (D : Dy) (M M' : Md) (x : Int32) : Int32 × Md := bif isShI P x then (hOf D x.toNatClampNeg, M') else (-1, mNo M 1)
theorem pm_mwho (M : Md) (C : MC) (P : Pl) (D : Dy) (pr : PR P (mno M)) (ok : PlOk P) (dk : DyOk P D 100) (df : DF P D 100) (cr : CRl D C) (di : DIn P D) (h3 : ∀ j, j < 80 → mno M j < 100) (cG : PM mu_X7_goTo 3 0 0 [.ref 0, .int (nI 99)] (mdB M) (eqP none (mdB (sC M C)))) (x : Int32) : PM mu_X7_who 4 0 0 [.ref 0, .int x] (mdB M) (eqP (some (.int (qWho P D M (sC M C) x).1)) (mdB (qWho P D M (sC M C) x).2)) := by
  unfold qWho
  have o1 := ok.1
  have p0 := pr.1
  have p4 := pr.2.2.2.2.1
  by_cases h0 : x < 0
  · have e : isShI P x = false := by unfold isShI; rw [decide_eq_true h0]; rfl
    rw [e]
    dsimp only [cond_false]
    refine PM.start (Or.inl (by decide +kernel)) rfl rfl rfl ?_
    intro X hX hR hx hin
    refine PW.iload_n hX dX7_who_0 rfl rfl ?_
    refine PW.if_lt (tgt := 41) hX dX7_who_1 (by decide) (fun c1 => ?_) (fun c1 => ?_)
    · refine PW.aload_n hX dX7_who_41 rfl rfl ?_
      refine PW.iconst (v := (-1)) hX dX7_who_42 (by decide) ?_
      refine PW.vIi hX ml_X7_64 (pm_no M (-1) 1 (by decide) (by decide)) dX7_who_43 17 rfl rfl rfl rfl rfl rfl rfl rfl rfl rfl rfl rfl rfl rfl rfl ?_
      refine PW.iret hX hR dX7_who_46 rfl rfl ?_
      exact ⟨rfl, rfl⟩
    · exact absurd h0 c1 -- CLOSED
  · obtain ⟨k, hk, rfl⟩ := nI_of h0
    rw [isShI_nI hk, nI_clamp hk]
    have hk10 : k / 10 < 2 ^ 31 := by omega
    have cJ := pm_mnj M (nI (k / 10))
    rw [p0, inB_nI (by omega) hk10] at cJ
    cases hs : isSh P k with
    | false =>
      dsimp only [cond_false]
      refine PM.start (Or.inl (by decide +kernel)) rfl rfl rfl ?_
      intro X hX hR hx hin
      have h41 : PW X 41 [some (.ref 0), some (.int (nI k))] [] (mdB M) 0 0 := by
        refine PW.aload_n hX dX7_who_41 rfl rfl ?_
        refine PW.iconst (v := (-1)) hX dX7_who_42 (by decide) ?_
        refine PW.vIi hX ml_X7_64 (pm_no M (-1) 1 (by decide) (by decide)) dX7_who_43 17 rfl rfl rfl rfl rfl rfl rfl rfl rfl rfl rfl rfl rfl rfl rfl ?_
        refine PW.iret hX hR dX7_who_46 rfl rfl ?_
        exact ⟨rfl, rfl⟩
      by_cases hj : k / 10 < plnj P
      · rw [decide_eq_true hj] at cJ
        have b20 := h3 (20 + k / 10) (by omega)
        have e20 := (p4 _ hj).2.1
        have hs2 : ¬ (1 ≤ k % 10 ∧ k % 10 ≤ plsh P (k / 10)) := by
          intro q
          unfold isSh at hs
          rw [decide_eq_true hj, decide_eq_true q.1, decide_eq_true q.2] at hs
          cases hs
        refine PW.iload_n hX dX7_who_0 rfl rfl ?_
        refine PW.if_lt (tgt := 41) hX dX7_who_1 (by decide) (fun c1 => ?_) (fun c1 => ?_)
        · try rw [nI_lt0 (by omega)] at c1
          exact c1.elim -- CLOSED
        · try rw [nI_lt0 (by omega)] at c1
          refine PW.aload_n hX dX7_who_4 rfl rfl ?_
          refine PW.iload_n hX dX7_who_5 rfl rfl ?_
          refine PW.bipush (v := nI 10) hX dX7_who_6 (by decide) ?_
          refine PW.idiv hX dX7_who_8 (by decide) ?_
          refine PW.top (div10 hk) ?_
          refine PW.vIi hX ml_X7_138 (cJ) dX7_who_9 17 rfl rfl rfl rfl rfl rfl rfl rfl rfl rfl rfl rfl rfl rfl rfl ?_
          refine PW.if_ne (tgt := 41) hX dX7_who_12 (by decide) (fun c12 => ?_) (fun c12 => ?_)
          · first | rw [bI_d0] at c12 | rw [bI_eq0] at c12 | rw [nI_eq0 (by omega)] at c12 | skip
            exact absurd rfl c12 -- CLOSED
          · first | rw [bI_d0] at c12 | rw [bI_eq0] at c12 | rw [nI_eq0 (by omega)] at c12 | skip
            refine PW.iload_n hX dX7_who_15 rfl rfl ?_
            refine PW.bipush (v := nI 10) hX dX7_who_16 (by decide) ?_
            refine PW.irem hX dX7_who_18 (by decide) ?_
            refine PW.top (rem10 hk) ?_
            refine PW.if_eq (tgt := 41) hX dX7_who_19 (by decide) (fun c19 => ?_) (fun c19 => ?_)
            · first | rw [bI_d0] at c19 | rw [bI_eq0] at c19 | rw [nI_eq0 (by omega)] at c19 | skip
              exact h41
            · first | rw [bI_d0] at c19 | rw [bI_eq0] at c19 | rw [nI_eq0 (by omega)] at c19 | skip
              refine PW.iload_n hX dX7_who_22 rfl rfl ?_
              refine PW.bipush (v := nI 10) hX dX7_who_23 (by decide) ?_
              refine PW.irem hX dX7_who_25 (by decide) ?_
              refine PW.top (rem10 hk) ?_
              refine PW.aload_n hX dX7_who_26 rfl rfl ?_
              refine PW.getfield hX fl_X7_13 dX7_who_27 rfl rfl ?_
              refine PW.bipush (v := nI 20) hX dX7_who_30 (by decide) ?_
              refine PW.iload_n hX dX7_who_32 rfl rfl ?_
              refine PW.bipush (v := nI 10) hX dX7_who_33 (by decide) ?_
              refine PW.idiv hX dX7_who_35 (by decide) ?_
              refine PW.top (div10 hk) ?_
              refine PW.iadd hX dX7_who_36 ?_
              refine PW.top (nI_add 20 (k / 10)) ?_
              refine PW.iaload (k := 20 + k / 10) hX dX7_who_37 rfl rfl rfl (by omega) ?_
              refine PW.top (show _ = nI (mno M (20 + k / 10)) from rfl) ?_
              refine PW.icmp_le (tgt := 47) hX dX7_who_38 (by decide) (fun c38 => ?_) (fun c38 => ?_)
              · try rw [nI_leI (by omega) (by omega)] at c38
                exfalso; omega -- CLOSED
              · try rw [nI_leI (by omega) (by omega)] at c38
                exact h41
      · rw [decide_eq_false hj] at cJ
        refine PW.iload_n hX dX7_who_0 rfl rfl ?_
        refine PW.if_lt (tgt := 41) hX dX7_who_1 (by decide) (fun c1 => ?_) (fun c1 => ?_)
        · try rw [nI_lt0 (by omega)] at c1
          exact c1.elim -- CLOSED
        · try rw [nI_lt0 (by omega)] at c1
          refine PW.aload_n hX dX7_who_4 rfl rfl ?_
          refine PW.iload_n hX dX7_who_5 rfl rfl ?_
          refine PW.bipush (v := nI 10) hX dX7_who_6 (by decide) ?_
          refine PW.idiv hX dX7_who_8 (by decide) ?_
          refine PW.top (div10 hk) ?_
          refine PW.vIi hX ml_X7_138 (cJ) dX7_who_9 17 rfl rfl rfl rfl rfl rfl rfl rfl rfl rfl rfl rfl rfl rfl rfl ?_
          refine PW.if_ne (tgt := 41) hX dX7_who_12 (by decide) (fun c12 => ?_) (fun c12 => ?_)
          · first | rw [bI_d0] at c12 | rw [bI_eq0] at c12 | rw [nI_eq0 (by omega)] at c12 | skip
            exact h41
          · first | rw [bI_d0] at c12 | rw [bI_eq0] at c12 | rw [nI_eq0 (by omega)] at c12 | skip
            exact absurd c12 (by decide) -- CLOSED
    | true =>
      dsimp only [cond_true]
      have hl := isSh_lt ok hs
      rw [decide_eq_true hl.2.1] at cJ
      have e20 := (p4 _ hl.2.1).2.1
      have b20 := h3 (20 + k / 10) (by omega)
      have hs2 : 1 ≤ k % 10 ∧ k % 10 ≤ plsh P (k / 10) := by
        unfold isSh at hs
        simp only [Bool.and_eq_true, decide_eq_true_eq] at hs
        exact hs.2
      have e5 := cr.2.2.2.2 k hl.1
      refine PM.start (Or.inl (by decide +kernel)) rfl rfl rfl ?_
      intro X hX hR hx hin
      refine PW.iload_n hX dX7_who_0 rfl rfl ?_
      refine PW.if_lt (tgt := 41) hX dX7_who_1 (by decide) (fun c1 => ?_) (fun c1 => ?_)
      · try rw [nI_lt0 (by omega)] at c1
        exact c1.elim -- CLOSED
      · try rw [nI_lt0 (by omega)] at c1
        refine PW.aload_n hX dX7_who_4 rfl rfl ?_
        refine PW.iload_n hX dX7_who_5 rfl rfl ?_
        refine PW.bipush (v := nI 10) hX dX7_who_6 (by decide) ?_
        refine PW.idiv hX dX7_who_8 (by decide) ?_
        refine PW.top (div10 hk) ?_
        refine PW.vIi hX ml_X7_138 (cJ) dX7_who_9 17 rfl rfl rfl rfl rfl rfl rfl rfl rfl rfl rfl rfl rfl rfl rfl ?_
        refine PW.if_ne (tgt := 41) hX dX7_who_12 (by decide) (fun c12 => ?_) (fun c12 => ?_)
        · first | rw [bI_d0] at c12 | rw [bI_eq0] at c12 | rw [nI_eq0 (by omega)] at c12 | skip
          exact absurd rfl c12 -- CLOSED
        · first | rw [bI_d0] at c12 | rw [bI_eq0] at c12 | rw [nI_eq0 (by omega)] at c12 | skip
          refine PW.iload_n hX dX7_who_15 rfl rfl ?_
          refine PW.bipush (v := nI 10) hX dX7_who_16 (by decide) ?_
          refine PW.irem hX dX7_who_18 (by decide) ?_
          refine PW.top (rem10 hk) ?_
          refine PW.if_eq (tgt := 41) hX dX7_who_19 (by decide) (fun c19 => ?_) (fun c19 => ?_)
          · first | rw [bI_d0] at c19 | rw [bI_eq0] at c19 | rw [nI_eq0 (by omega)] at c19 | skip
            exfalso; omega -- CLOSED
          · first | rw [bI_d0] at c19 | rw [bI_eq0] at c19 | rw [nI_eq0 (by omega)] at c19 | skip
            refine PW.iload_n hX dX7_who_22 rfl rfl ?_
            refine PW.bipush (v := nI 10) hX dX7_who_23 (by decide) ?_
            refine PW.irem hX dX7_who_25 (by decide) ?_
            refine PW.top (rem10 hk) ?_
            refine PW.aload_n hX dX7_who_26 rfl rfl ?_
            refine PW.getfield hX fl_X7_13 dX7_who_27 rfl rfl ?_
            refine PW.bipush (v := nI 20) hX dX7_who_30 (by decide) ?_
            refine PW.iload_n hX dX7_who_32 rfl rfl ?_
            refine PW.bipush (v := nI 10) hX dX7_who_33 (by decide) ?_
            refine PW.idiv hX dX7_who_35 (by decide) ?_
            refine PW.top (div10 hk) ?_
            refine PW.iadd hX dX7_who_36 ?_
            refine PW.top (nI_add 20 (k / 10)) ?_
            refine PW.iaload (k := 20 + k / 10) hX dX7_who_37 rfl rfl rfl (by omega) ?_
            refine PW.top (show _ = nI (mno M (20 + k / 10)) from rfl) ?_
            refine PW.icmp_le (tgt := 47) hX dX7_who_38 (by decide) (fun c38 => ?_) (fun c38 => ?_)
            · try rw [nI_leI (by omega) (by omega)] at c38
              refine PW.aload_n hX dX7_who_47 rfl rfl ?_
              refine PW.bipush (v := nI 99) hX dX7_who_48 (by decide) ?_
              refine PW.vVi hX ml_X7_147 (cG) dX7_who_50 17 rfl rfl rfl rfl rfl rfl rfl rfl rfl rfl rfl rfl rfl rfl rfl ?_
              refine PW.aload_n hX dX7_who_53 rfl rfl ?_
              refine PW.getfield hX fl_X7_47 dX7_who_54 rfl rfl ?_
              refine PW.iload_n hX dX7_who_57 rfl rfl ?_
              refine PW.iaload (k := k) hX dX7_who_58 rfl rfl rfl (by omega) ?_
              refine PW.top (show _ = hOf D k from e5) ?_
              refine PW.iret hX hR dX7_who_59 rfl rfl ?_
              exact ⟨rfl, rfl⟩
            · try rw [nI_leI (by omega) (by omega)] at c38
              exfalso; omega -- CLOSED
theorem i32_sa (a b c : Int32) : a - b + c = a + c - b := by
  rw [Int32.sub_eq_add_neg, Int32.sub_eq_add_neg, Int32.add_assoc, Int32.add_comm (-b) c, ← Int32.add_assoc]
theorem i32_ng (b : Int32) : -b = nI 0 - b := by
  rw [Int32.sub_eq_add_neg]
  exact (Int32.zero_add _).symm
def qMiss (P : Pl) (D : Dy) (M M' : Md) (x : Int32) : Int32 × Md := bif inB 4 x then (nI (sumN (ofW P x.toNatClampNeg) (plnj P)) - nI (sumN (hdF P D x.toNatClampNeg true) 60), M') else (-1, mNo M 1)
theorem pm_mmissing (M : Md) (C : MC) (P : Pl) (D : Dy) (pr : PR P (mno M)) (ok : PlOk P) (dk : DyOk P D 100) (df : DF P D 100) (cr : CRl D C) (di : DIn P D) (h3 : ∀ j, j < 80 → mno M j < 100) (cG : PM mu_X7_goTo 3 0 0 [.ref 0, .int (nI 99)] (mdB M) (eqP none (mdB (sC M C)))) (x : Int32) : PM mu_X7_missing 4 0 0 [.ref 0, .int x] (mdB M) (eqP (some (.int (qMiss P D M (sC M C) x).1)) (mdB (qMiss P D M (sC M C) x).2)) := by
  unfold qMiss
  have o1 := ok.1
  have p0 := pr.1
  have p4 := pr.2.2.2.2.1
  cases hj : inB 4 x with
  | false =>
    dsimp only [cond_false]
    refine PM.start (Or.inl (by decide +kernel)) rfl rfl rfl ?_
    intro X hX hR hx hin
    refine PW.aload_n hX dX7_missing_0 rfl rfl ?_
    refine PW.iload_n hX dX7_missing_1 rfl rfl ?_
    refine PW.vIi hX ml_X7_150 (pm_mnw M x) dX7_missing_2 17 rfl rfl rfl rfl rfl rfl rfl rfl rfl rfl rfl rfl rfl rfl rfl ?_
    rw [hj]
    refine PW.if_eq (tgt := 14) hX dX7_missing_5 (by decide) (fun c5 => ?_) (fun c5 => ?_)
    · first | rw [bI_d0] at c5 | rw [bI_eq0] at c5 | rw [nI_eq0 (by omega)] at c5 | skip
      exact absurd c5 (by decide) -- CLOSED
    · first | rw [bI_d0] at c5 | rw [bI_eq0] at c5 | rw [nI_eq0 (by omega)] at c5 | skip
      refine PW.aload_n hX dX7_missing_8 rfl rfl ?_
      refine PW.iconst (v := (-1)) hX dX7_missing_9 (by decide) ?_
      refine PW.vIi hX ml_X7_64 (pm_no M (-1) 1 (by decide) (by decide)) dX7_missing_10 17 rfl rfl rfl rfl rfl rfl rfl rfl rfl rfl rfl rfl rfl rfl rfl ?_
      refine PW.iret hX hR dX7_missing_13 rfl rfl ?_
      exact ⟨rfl, rfl⟩
  | true =>
    obtain ⟨o, ho, rfl⟩ := inB_of (by decide) hj
    dsimp only [cond_true]
    rw [nI_clamp (by omega)]
    have cH := pm_mhas M C P D pr ok dk df cr di h3 cG o ho true
    generalize sumN (hdF P D o true) 60 = s at cH ⊢
    refine PM.start (Or.inl (by decide +kernel)) rfl rfl rfl ?_
    intro X hX hR hx hin
    have loop : ∀ n i : Nat, i ≤ plnj P → plnj P < i + n → PW X 30 [some (.ref 0), some (.int (nI o)), some (.int (nI (sumN (ofW P o) i) - nI s)), some (.int (nI i))] [] (mdB (sC M C)) 0 0 := by
      intro n
      induction n with
      | zero => intro i h1 h2; exact absurd h2 (by omega)
      | succ n ih =>
        intro i h1 h2
        by_cases hi : i = plnj P
        · subst hi
          refine PW.iload_n hX dX7_missing_30 rfl rfl ?_
          refine PW.aload_n hX dX7_missing_31 rfl rfl ?_
          refine PW.getfield hX fl_X7_13 dX7_missing_32 rfl rfl ?_
          refine PW.iconst (v := nI 0) hX dX7_missing_35 (by decide) ?_
          refine PW.iaload (k := 0) hX dX7_missing_36 rfl rfl rfl (by decide) ?_
          refine PW.top (show _ = nI (plnj P) from congrArg nI p0) ?_
          refine PW.icmp_ge (tgt := 75) hX dX7_missing_37 (by decide) (fun c37 => ?_) (fun c37 => ?_)
          · try rw [nI_leI (by omega) (by omega)] at c37
            refine PW.iload_n hX dX7_missing_75 rfl rfl ?_
            refine PW.iret hX hR dX7_missing_76 rfl rfl ?_
            exact ⟨rfl, rfl⟩
          · try rw [nI_leI (by omega) (by omega)] at c37
            exfalso; omega -- CLOSED
        · have nx := ih (i + 1) (by omega) (by omega)
          rw [sumN] at nx
          obtain ⟨q1, q2, q3⟩ := p4 i (by omega)
          have b10 := h3 (10 + i) (by omega)
          have h67 : ∀ v, ofW P o i = v → PW X 67 [some (.ref 0), some (.int (nI o)), some (.int (nI (sumN (ofW P o) i) - nI s)), some (.int (nI i))] [.int (nI v), .int (nI (sumN (ofW P o) i) - nI s)] (mdB (sC M C)) 0 0 := by
            rintro v rfl
            refine PW.iadd hX dX7_missing_67 ?_
            refine PW.top (show _ = nI (sumN (ofW P o) i + ofW P o i) - nI s by rw [i32_sa, nI_add]) ?_
            refine PW.istore_n hX dX7_missing_68 rfl rfl ?_
            first | refine PW.iinc hX dX7_missing_69 rfl (iincN _) ?_ | refine PW.iinc hX dX7_missing_69 rfl rfl ?_
            refine PW.goto (tgt := 30) hX dX7_missing_72 (by decide) ?_
            exact nx
          refine PW.iload_n hX dX7_missing_30 rfl rfl ?_
          refine PW.aload_n hX dX7_missing_31 rfl rfl ?_
          refine PW.getfield hX fl_X7_13 dX7_missing_32 rfl rfl ?_
          refine PW.iconst (v := nI 0) hX dX7_missing_35 (by decide) ?_
          refine PW.iaload (k := 0) hX dX7_missing_36 rfl rfl rfl (by decide) ?_
          refine PW.top (show _ = nI (plnj P) from congrArg nI p0) ?_
          refine PW.icmp_ge (tgt := 75) hX dX7_missing_37 (by decide) (fun c37 => ?_) (fun c37 => ?_)
          · try rw [nI_leI (by omega) (by omega)] at c37
            exfalso; omega -- CLOSED
          · try rw [nI_leI (by omega) (by omega)] at c37
            refine PW.iload_n hX dX7_missing_40 rfl rfl ?_
            refine PW.aload_n hX dX7_missing_41 rfl rfl ?_
            refine PW.getfield hX fl_X7_13 dX7_missing_42 rfl rfl ?_
            refine PW.bipush (v := nI 10) hX dX7_missing_45 (by decide) ?_
            refine PW.iload_n hX dX7_missing_47 rfl rfl ?_
            refine PW.iadd hX dX7_missing_48 ?_
            refine PW.top (nI_add 10 i) ?_
            refine PW.iaload (k := 10 + i) hX dX7_missing_49 rfl rfl rfl (by omega) ?_
            refine PW.top (show _ = nI (mno M (10 + i)) from rfl) ?_
            refine PW.iload_n hX dX7_missing_50 rfl rfl ?_
            refine PW.icmp_ne (tgt := 66) hX dX7_missing_51 (by decide) (fun c51 => ?_) (fun c51 => ?_)
            · first | rw [nI_eq (by omega) (by omega)] at c51 | rw [oI_eq9] at c51 | skip
              refine PW.iconst (v := nI 0) hX dX7_missing_66 (by decide) ?_
              exact h67 0 (by unfold ofW; rw [if_neg (fun q => c51 (q1.trans q))])
            · first | rw [nI_eq (by omega) (by omega)] at c51 | rw [oI_eq9] at c51 | skip
              refine PW.aload_n hX dX7_missing_54 rfl rfl ?_
              refine PW.getfield hX fl_X7_13 dX7_missing_55 rfl rfl ?_
              refine PW.bipush (v := nI 20) hX dX7_missing_58 (by decide) ?_
              refine PW.iload_n hX dX7_missing_60 rfl rfl ?_
              refine PW.iadd hX dX7_missing_61 ?_
              refine PW.top (nI_add 20 i) ?_
              refine PW.iaload (k := 20 + i) hX dX7_missing_62 rfl rfl rfl (by omega) ?_
              refine PW.top (show _ = nI (plsh P i) from congrArg nI q2) ?_
              refine PW.goto (tgt := 67) hX dX7_missing_63 (by decide) ?_
              exact h67 _ (by unfold ofW; rw [if_pos (q1.symm.trans c51)])
    have nx := loop (plnj P + 1) 0 (by omega) (by omega)
    refine PW.aload_n hX dX7_missing_0 rfl rfl ?_
    refine PW.iload_n hX dX7_missing_1 rfl rfl ?_
    refine PW.vIi hX ml_X7_150 (pm_mnw M (nI o)) dX7_missing_2 17 rfl rfl rfl rfl rfl rfl rfl rfl rfl rfl rfl rfl rfl rfl rfl ?_
    rw [hj]
    refine PW.if_eq (tgt := 14) hX dX7_missing_5 (by decide) (fun c5 => ?_) (fun c5 => ?_)
    · first | rw [bI_d0] at c5 | rw [bI_eq0] at c5 | rw [nI_eq0 (by omega)] at c5 | skip
      refine PW.aload_n hX dX7_missing_14 rfl rfl ?_
      refine PW.bipush (v := nI 99) hX dX7_missing_15 (by decide) ?_
      refine PW.vVi hX ml_X7_147 (cG) dX7_missing_17 17 rfl rfl rfl rfl rfl rfl rfl rfl rfl rfl rfl rfl rfl rfl rfl ?_
      refine PW.aload_n hX dX7_missing_20 rfl rfl ?_
      refine PW.iload_n hX dX7_missing_21 rfl rfl ?_
      refine PW.iconst (v := nI 1) hX dX7_missing_22 (by decide) ?_
      refine PW.vIi hX ml_X7_153 (cH) dX7_missing_23 17 rfl rfl rfl rfl rfl rfl rfl rfl rfl rfl rfl rfl rfl rfl rfl ?_
      refine PW.ineg hX dX7_missing_26 ?_
      refine PW.top (i32_ng (nI s)) ?_
      refine PW.istore_n hX dX7_missing_27 rfl rfl ?_
      refine PW.iconst (v := nI 0) hX dX7_missing_28 (by decide) ?_
      refine PW.istore_n hX dX7_missing_29 rfl rfl ?_
      exact nx
    · first | rw [bI_d0] at c5 | rw [bI_eq0] at c5 | rw [nI_eq0 (by omega)] at c5 | skip
      exact absurd rfl c5 -- CLOSED
def qAsk (P : Pl) (D : Dy) (M M' : Md) (x : Int32) : Int32 × Md := bif inB 4 x then (nI (orN (otF P D x.toNatClampNeg) 60), M') else (-1, mNo M 1)
theorem pm_mask (M : Md) (C : MC) (P : Pl) (D : Dy) (pr : PR P (mno M)) (ok : PlOk P) (dk : DyOk P D 100) (df : DF P D 100) (cr : CRl D C) (di : DIn P D) (h3 : ∀ j, j < 80 → mno M j < 100) (cG : PM mu_X7_goTo 3 0 0 [.ref 0, .int (nI 99)] (mdB M) (eqP none (mdB (sC M C)))) (x : Int32) : PM mu_X7_ask 4 0 0 [.ref 0, .int x] (mdB M) (eqP (some (.int (qAsk P D M (sC M C) x).1)) (mdB (qAsk P D M (sC M C) x).2)) := by
  unfold qAsk
  have o1 := ok.1
  have p0 := pr.1
  have p4 := pr.2.2.2.2.1
  have hc := fun k (hk : k < 60) => ho_cases dk cr di hk
  cases hj : inB 4 x with
  | false =>
    dsimp only [cond_false]
    refine PM.start (Or.inl (by decide +kernel)) rfl rfl rfl ?_
    intro X hX hR hx hin
    refine PW.aload_n hX dX7_ask_0 rfl rfl ?_
    refine PW.iload_n hX dX7_ask_1 rfl rfl ?_
    refine PW.vIi hX ml_X7_150 (pm_mnw M x) dX7_ask_2 17 rfl rfl rfl rfl rfl rfl rfl rfl rfl rfl rfl rfl rfl rfl rfl ?_
    rw [hj]
    refine PW.if_eq (tgt := 14) hX dX7_ask_5 (by decide) (fun c5 => ?_) (fun c5 => ?_)
    · first | rw [bI_d0] at c5 | rw [bI_eq0] at c5 | rw [nI_eq0 (by omega)] at c5 | skip
      exact absurd c5 (by decide) -- CLOSED
    · first | rw [bI_d0] at c5 | rw [bI_eq0] at c5 | rw [nI_eq0 (by omega)] at c5 | skip
      refine PW.aload_n hX dX7_ask_8 rfl rfl ?_
      refine PW.iconst (v := (-1)) hX dX7_ask_9 (by decide) ?_
      refine PW.vIi hX ml_X7_64 (pm_no M (-1) 1 (by decide) (by decide)) dX7_ask_10 17 rfl rfl rfl rfl rfl rfl rfl rfl rfl rfl rfl rfl rfl rfl rfl ?_
      refine PW.iret hX hR dX7_ask_13 rfl rfl ?_
      exact ⟨rfl, rfl⟩
  | true =>
    obtain ⟨o, ho, rfl⟩ := inB_of (by decide) hj
    dsimp only [cond_true]
    rw [nI_clamp (by omega), ot_60 ok]
    refine PM.start (Or.inl (by decide +kernel)) rfl rfl rfl ?_
    intro X hX hR hx hin
    have loop : ∀ n k : Nat, k ≤ 10 * plnj P → 10 * plnj P < k + n → PW X 24 [some (.ref 0), some (.int (nI o)), some (.int (nI (orN (otF P D o) k))), some (.int (nI k))] [] (mdB (sC M C)) 0 0 := by
      intro n
      induction n with
      | zero => intro k h1 h2; exact absurd h2 (by omega)
      | succ n ih =>
        intro k h1 h2
        by_cases hk : k = 10 * plnj P
        · subst hk
          refine PW.iload_n hX dX7_ask_24 rfl rfl ?_
          refine PW.bipush (v := nI 10) hX dX7_ask_25 (by decide) ?_
          refine PW.aload_n hX dX7_ask_27 rfl rfl ?_
          refine PW.getfield hX fl_X7_13 dX7_ask_28 rfl rfl ?_
          refine PW.iconst (v := nI 0) hX dX7_ask_31 (by decide) ?_
          refine PW.iaload (k := 0) hX dX7_ask_32 rfl rfl rfl (by decide) ?_
          refine PW.imul hX dX7_ask_33 ?_
          refine PW.top (show nI 10 * nI (mno M 0) = nI (10 * plnj P) by rw [pk_mul, p0]) ?_
          refine PW.icmp_ge (tgt := 89) hX dX7_ask_34 (by decide) (fun c34 => ?_) (fun c34 => ?_)
          · try rw [nI_leI (by omega) (by omega)] at c34
            refine PW.iload_n hX dX7_ask_89 rfl rfl ?_
            refine PW.iret hX hR dX7_ask_90 rfl rfl ?_
            exact ⟨rfl, rfl⟩
          · try rw [nI_leI (by omega) (by omega)] at c34
            exfalso; omega -- CLOSED
        · have nx := ih (k + 1) (by omega) (by omega)
          rw [orN] at nx
          have nx0 := nx
          have b10 := h3 (10 + k / 10) (by omega)
          have eo := (p4 (k / 10) (by omega)).1
          have h83 : otF P D o k = 0 → PW X 83 [some (.ref 0), some (.int (nI o)), some (.int (nI (orN (otF P D o) k))), some (.int (nI k))] [] (mdB (sC M C)) 0 0 := by
            intro e
            rw [e, Nat.or_zero] at nx
            first | refine PW.iinc hX dX7_ask_83 rfl (iincN _) ?_ | refine PW.iinc hX dX7_ask_83 rfl rfl ?_
            refine PW.goto (tgt := 24) hX dX7_ask_86 (by decide) ?_
            exact nx
          have h83n : ∀ v, otF P D o k = v → PW X 83 [some (.ref 0), some (.int (nI o)), some (.int (nI (orN (otF P D o) k ||| v))), some (.int (nI k))] [] (mdB (sC M C)) 0 0 := by
            rintro v rfl
            first | refine PW.iinc hX dX7_ask_83 rfl (iincN _) ?_ | refine PW.iinc hX dX7_ask_83 rfl rfl ?_
            refine PW.goto (tgt := 24) hX dX7_ask_86 (by decide) ?_
            exact nx0
          rcases hc k (by omega) with ⟨a1, a2⟩ | ⟨x, a1, a2, a3, a4⟩
          · have e : otF P D o k = 0 := by unfold otF; rw [a2]
            refine PW.iload_n hX dX7_ask_24 rfl rfl ?_
            refine PW.bipush (v := nI 10) hX dX7_ask_25 (by decide) ?_
            refine PW.aload_n hX dX7_ask_27 rfl rfl ?_
            refine PW.getfield hX fl_X7_13 dX7_ask_28 rfl rfl ?_
            refine PW.iconst (v := nI 0) hX dX7_ask_31 (by decide) ?_
            refine PW.iaload (k := 0) hX dX7_ask_32 rfl rfl rfl (by decide) ?_
            refine PW.imul hX dX7_ask_33 ?_
            refine PW.top (show nI 10 * nI (mno M 0) = nI (10 * plnj P) by rw [pk_mul, p0]) ?_
            refine PW.icmp_ge (tgt := 89) hX dX7_ask_34 (by decide) (fun c34 => ?_) (fun c34 => ?_)
            · try rw [nI_leI (by omega) (by omega)] at c34
              exfalso; omega -- CLOSED
            · try rw [nI_leI (by omega) (by omega)] at c34
              refine PW.aload_n hX dX7_ask_37 rfl rfl ?_
              refine PW.getfield hX fl_X7_13 dX7_ask_38 rfl rfl ?_
              refine PW.bipush (v := nI 10) hX dX7_ask_41 (by decide) ?_
              refine PW.iload_n hX dX7_ask_43 rfl rfl ?_
              refine PW.bipush (v := nI 10) hX dX7_ask_44 (by decide) ?_
              refine PW.idiv hX dX7_ask_46 (by decide) ?_
              refine PW.top (show _ = nI (k / 10) from div10 (by omega)) ?_
              refine PW.iadd hX dX7_ask_47 ?_
              refine PW.top (nI_add 10 (k / 10)) ?_
              refine PW.iaload (k := 10 + k / 10) hX dX7_ask_48 rfl rfl rfl (by omega) ?_
              refine PW.top (show _ = nI (mno M (10 + k / 10)) from rfl) ?_
              refine PW.iload_n hX dX7_ask_49 rfl rfl ?_
              refine PW.icmp_ne (tgt := 83) hX dX7_ask_50 (by decide) (fun c50 => ?_) (fun c50 => ?_)
              · first | rw [nI_eq (by omega) (by omega)] at c50 | rw [oI_eq9] at c50 | skip
                exact h83 e
              · first | rw [nI_eq (by omega) (by omega)] at c50 | rw [oI_eq9] at c50 | skip
                refine PW.aload_n hX dX7_ask_53 rfl rfl ?_
                refine PW.getfield hX fl_X7_47 dX7_ask_54 rfl rfl ?_
                refine PW.iload_n hX dX7_ask_57 rfl rfl ?_
                refine PW.iaload (k := k) hX dX7_ask_58 rfl rfl rfl (by omega) ?_
                refine PW.top (show _ = cho C k from rfl) ?_
                refine PW.if_lt (tgt := 83) hX dX7_ask_59 (by decide) (fun c59 => ?_) (fun c59 => ?_)
                · try rw [nI_lt0 (by omega)] at c59
                  exact h83 e
                · try rw [nI_lt0 (by omega)] at c59
                  exact absurd a1 c59 -- CLOSED
          · have hs := df.1 k (by omega) a4
            have ev : otF P D o k = if ¬ x = o ∧ plow P (k / 10) = o then 2 ^ x else 0 := by
              unfold otF
              rw [a3, hs, Bool.true_and]
              simp only [decide_eq_true_eq]
            refine PW.iload_n hX dX7_ask_24 rfl rfl ?_
            refine PW.bipush (v := nI 10) hX dX7_ask_25 (by decide) ?_
            refine PW.aload_n hX dX7_ask_27 rfl rfl ?_
            refine PW.getfield hX fl_X7_13 dX7_ask_28 rfl rfl ?_
            refine PW.iconst (v := nI 0) hX dX7_ask_31 (by decide) ?_
            refine PW.iaload (k := 0) hX dX7_ask_32 rfl rfl rfl (by decide) ?_
            refine PW.imul hX dX7_ask_33 ?_
            refine PW.top (show nI 10 * nI (mno M 0) = nI (10 * plnj P) by rw [pk_mul, p0]) ?_
            refine PW.icmp_ge (tgt := 89) hX dX7_ask_34 (by decide) (fun c34 => ?_) (fun c34 => ?_)
            · try rw [nI_leI (by omega) (by omega)] at c34
              exfalso; omega -- CLOSED
            · try rw [nI_leI (by omega) (by omega)] at c34
              refine PW.aload_n hX dX7_ask_37 rfl rfl ?_
              refine PW.getfield hX fl_X7_13 dX7_ask_38 rfl rfl ?_
              refine PW.bipush (v := nI 10) hX dX7_ask_41 (by decide) ?_
              refine PW.iload_n hX dX7_ask_43 rfl rfl ?_
              refine PW.bipush (v := nI 10) hX dX7_ask_44 (by decide) ?_
              refine PW.idiv hX dX7_ask_46 (by decide) ?_
              refine PW.top (show _ = nI (k / 10) from div10 (by omega)) ?_
              refine PW.iadd hX dX7_ask_47 ?_
              refine PW.top (nI_add 10 (k / 10)) ?_
              refine PW.iaload (k := 10 + k / 10) hX dX7_ask_48 rfl rfl rfl (by omega) ?_
              refine PW.top (show _ = nI (mno M (10 + k / 10)) from rfl) ?_
              refine PW.iload_n hX dX7_ask_49 rfl rfl ?_
              refine PW.icmp_ne (tgt := 83) hX dX7_ask_50 (by decide) (fun c50 => ?_) (fun c50 => ?_)
              · first | rw [nI_eq (by omega) (by omega)] at c50 | rw [oI_eq9] at c50 | skip
                exact h83 (by rw [ev, if_neg (fun q => c50 (eo.trans q.2))])
              · first | rw [nI_eq (by omega) (by omega)] at c50 | rw [oI_eq9] at c50 | skip
                refine PW.aload_n hX dX7_ask_53 rfl rfl ?_
                refine PW.getfield hX fl_X7_47 dX7_ask_54 rfl rfl ?_
                refine PW.iload_n hX dX7_ask_57 rfl rfl ?_
                refine PW.iaload (k := k) hX dX7_ask_58 rfl rfl rfl (by omega) ?_
                refine PW.top (show _ = nI x from a2) ?_
                refine PW.if_lt (tgt := 83) hX dX7_ask_59 (by decide) (fun c59 => ?_) (fun c59 => ?_)
                · try rw [nI_lt0 (by omega)] at c59
                  exact c59.elim -- CLOSED
                · try rw [nI_lt0 (by omega)] at c59
                  refine PW.aload_n hX dX7_ask_62 rfl rfl ?_
                  refine PW.getfield hX fl_X7_47 dX7_ask_63 rfl rfl ?_
                  refine PW.iload_n hX dX7_ask_66 rfl rfl ?_
                  refine PW.iaload (k := k) hX dX7_ask_67 rfl rfl rfl (by omega) ?_
                  refine PW.top (show _ = nI x from a2) ?_
                  refine PW.iload_n hX dX7_ask_68 rfl rfl ?_
                  refine PW.icmp_eq (tgt := 83) hX dX7_ask_69 (by decide) (fun c69 => ?_) (fun c69 => ?_)
                  · first | rw [nI_eq (by omega) (by omega)] at c69 | rw [oI_eq9] at c69 | skip
                    exact h83 (by rw [ev, if_neg (fun q => q.1 c69)])
                  · first | rw [nI_eq (by omega) (by omega)] at c69 | rw [oI_eq9] at c69 | skip
                    refine PW.iload_n hX dX7_ask_72 rfl rfl ?_
                    refine PW.iconst (v := nI 1) hX dX7_ask_73 (by decide) ?_
                    refine PW.aload_n hX dX7_ask_74 rfl rfl ?_
                    refine PW.getfield hX fl_X7_47 dX7_ask_75 rfl rfl ?_
                    refine PW.iload_n hX dX7_ask_78 rfl rfl ?_
                    refine PW.iaload (k := k) hX dX7_ask_79 rfl rfl rfl (by omega) ?_
                    refine PW.top (show _ = nI x from a2) ?_
                    refine PW.ishl hX dX7_ask_80 ?_
                    refine PW.top (nI_shl1 (by omega)) ?_
                    refine PW.ior hX dX7_ask_81 ?_
                    refine PW.top (nI_or _ _) ?_
                    refine PW.istore_n hX dX7_ask_82 rfl rfl ?_
                    exact h83n _ (by rw [ev, if_pos ⟨c69, eo.symm.trans c50⟩])
    have nx := loop (10 * plnj P + 1) 0 (by omega) (by omega)
    refine PW.aload_n hX dX7_ask_0 rfl rfl ?_
    refine PW.iload_n hX dX7_ask_1 rfl rfl ?_
    refine PW.vIi hX ml_X7_150 (pm_mnw M (nI o)) dX7_ask_2 17 rfl rfl rfl rfl rfl rfl rfl rfl rfl rfl rfl rfl rfl rfl rfl ?_
    rw [hj]
    refine PW.if_eq (tgt := 14) hX dX7_ask_5 (by decide) (fun c5 => ?_) (fun c5 => ?_)
    · first | rw [bI_d0] at c5 | rw [bI_eq0] at c5 | rw [nI_eq0 (by omega)] at c5 | skip
      refine PW.aload_n hX dX7_ask_14 rfl rfl ?_
      refine PW.bipush (v := nI 99) hX dX7_ask_15 (by decide) ?_
      refine PW.vVi hX ml_X7_147 (cG) dX7_ask_17 17 rfl rfl rfl rfl rfl rfl rfl rfl rfl rfl rfl rfl rfl rfl rfl ?_
      refine PW.iconst (v := nI 0) hX dX7_ask_20 (by decide) ?_
      refine PW.istore_n hX dX7_ask_21 rfl rfl ?_
      refine PW.iconst (v := nI 0) hX dX7_ask_22 (by decide) ?_
      refine PW.istore_n hX dX7_ask_23 rfl rfl ?_
      exact nx
    · first | rw [bI_d0] at c5 | rw [bI_eq0] at c5 | rw [nI_eq0 (by omega)] at c5 | skip
      exact absurd rfl c5 -- CLOSED
theorem pm_mmixing (M : Md) (C : MC) (ho : cos C ≤ 100) (h6 : ∀ i, i < cos C → cou C i < 60) : PM mu_X7_mixing 0 0 0 [.ref 0] (mdB (sC M C)) (eqP (some (.int (nI (mxS (cou C) (cos C - 1))))) (mdB (sC M C))) := by
  refine PM.start (Or.inl (by decide +kernel)) rfl rfl rfl ?_
  intro X hX hR hx hin
  have loop : ∀ n i : Nat, i ≤ cos C - 1 → cos C - 1 < i + n → PW X 4 [some (.ref 0), some (.int (nI (mxS (cou C) i))), some (.int (nI (i + 1)))] [] (mdB (sC M C)) 0 0 := by
    intro n
    induction n with
    | zero => intro i h1 h2; exact absurd h2 (by omega)
    | succ n ih =>
      intro i h1 h2
      by_cases hi : i = cos C - 1
      · rw [← hi] at hR
        refine PW.iload_n hX dX7_mixing_4 rfl rfl ?_
        refine PW.aload_n hX dX7_mixing_5 rfl rfl ?_
        refine PW.getfield hX fl_X7_113 dX7_mixing_6 rfl rfl ?_
        refine PW.top (show _ = nI (cos C) from rfl) ?_
        refine PW.icmp_ge (tgt := 49) hX dX7_mixing_9 (by decide) (fun c9 => ?_) (fun c9 => ?_)
        · try rw [nI_leI (by omega) (by omega)] at c9
          refine PW.iload_n hX dX7_mixing_49 rfl rfl ?_
          refine PW.iret hX hR dX7_mixing_50 rfl rfl ?_
          exact ⟨rfl, rfl⟩
        · try rw [nI_leI (by omega) (by omega)] at c9
          exfalso; omega -- CLOSED
      · have nx := ih (i + 1) (by omega) (by omega)
        have q1 := h6 i (by omega)
        have q2 := h6 (i + 1) (by omega)
        have h41 : ∀ v, (if cou C (i + 1) / 10 = cou C i / 10 then 0 else 1) = v → PW X 41 [some (.ref 0), some (.int (nI (mxS (cou C) i))), some (.int (nI (i + 1)))] [.int (nI v), .int (nI (mxS (cou C) i))] (mdB (sC M C)) 0 0 := by
          rintro v rfl
          refine PW.iadd hX dX7_mixing_41 ?_
          refine PW.top (nI_add _ _) ?_
          refine PW.istore_n hX dX7_mixing_42 rfl rfl ?_
          first | refine PW.iinc hX dX7_mixing_43 rfl (iincN _) ?_ | refine PW.iinc hX dX7_mixing_43 rfl rfl ?_
          refine PW.goto (tgt := 4) hX dX7_mixing_46 (by decide) ?_
          exact nx
        refine PW.iload_n hX dX7_mixing_4 rfl rfl ?_
        refine PW.aload_n hX dX7_mixing_5 rfl rfl ?_
        refine PW.getfield hX fl_X7_113 dX7_mixing_6 rfl rfl ?_
        refine PW.top (show _ = nI (cos C) from rfl) ?_
        refine PW.icmp_ge (tgt := 49) hX dX7_mixing_9 (by decide) (fun c9 => ?_) (fun c9 => ?_)
        · try rw [nI_leI (by omega) (by omega)] at c9
          exfalso; omega -- CLOSED
        · try rw [nI_leI (by omega) (by omega)] at c9
          refine PW.iload_n hX dX7_mixing_12 rfl rfl ?_
          refine PW.aload_n hX dX7_mixing_13 rfl rfl ?_
          refine PW.getfield hX fl_X7_38 dX7_mixing_14 rfl rfl ?_
          refine PW.iload_n hX dX7_mixing_17 rfl rfl ?_
          refine PW.iaload (k := i + 1) hX dX7_mixing_18 rfl rfl rfl (by omega) ?_
          refine PW.top (show _ = nI (cou C (i + 1)) from rfl) ?_
          refine PW.bipush (v := nI 10) hX dX7_mixing_19 (by decide) ?_
          refine PW.idiv hX dX7_mixing_21 (by decide) ?_
          refine PW.top (div10 (show cou C (i + 1) < 2 ^ 31 by omega)) ?_
          refine PW.aload_n hX dX7_mixing_22 rfl rfl ?_
          refine PW.getfield hX fl_X7_38 dX7_mixing_23 rfl rfl ?_
          refine PW.iload_n hX dX7_mixing_26 rfl rfl ?_
          refine PW.iconst (v := nI 1) hX dX7_mixing_27 (by decide) ?_
          refine PW.isub hX dX7_mixing_28 ?_
          refine PW.top (pk_sub (a := i + 1) (b := 1) (by omega)) ?_
          refine PW.iaload (k := i) hX dX7_mixing_29 rfl rfl rfl (by omega) ?_
          refine PW.top (show _ = nI (cou C i) from rfl) ?_
          refine PW.bipush (v := nI 10) hX dX7_mixing_30 (by decide) ?_
          refine PW.idiv hX dX7_mixing_32 (by decide) ?_
          refine PW.top (div10 (show cou C i < 2 ^ 31 by omega)) ?_
          refine PW.icmp_eq (tgt := 40) hX dX7_mixing_33 (by decide) (fun c33 => ?_) (fun c33 => ?_)
          · first | rw [nI_eq (by omega) (by omega)] at c33 | rw [oI_eq9] at c33 | skip
            refine PW.iconst (v := nI 0) hX dX7_mixing_40 (by decide) ?_
            exact h41 0 (if_pos c33)
          · first | rw [nI_eq (by omega) (by omega)] at c33 | rw [oI_eq9] at c33 | skip
            refine PW.iconst (v := nI 1) hX dX7_mixing_36 (by decide) ?_
            refine PW.goto (tgt := 41) hX dX7_mixing_37 (by decide) ?_
            exact h41 1 (if_neg c33)
  have nx := loop (cos C + 1) 0 (by omega) (by omega)
  by_cases h0 : cos C = 0
  · rw [h0] at hR
    refine PW.iconst (v := nI 0) hX dX7_mixing_0 (by decide) ?_
    refine PW.istore_n hX dX7_mixing_1 rfl rfl ?_
    refine PW.iconst (v := nI 1) hX dX7_mixing_2 (by decide) ?_
    refine PW.istore_n hX dX7_mixing_3 rfl rfl ?_
    refine PW.iload_n hX dX7_mixing_4 rfl rfl ?_
    refine PW.aload_n hX dX7_mixing_5 rfl rfl ?_
    refine PW.getfield hX fl_X7_113 dX7_mixing_6 rfl rfl ?_
    refine PW.top (show _ = nI (cos C) from rfl) ?_
    refine PW.icmp_ge (tgt := 49) hX dX7_mixing_9 (by decide) (fun c9 => ?_) (fun c9 => ?_)
    · try rw [nI_leI (by omega) (by omega)] at c9
      refine PW.iload_n hX dX7_mixing_49 rfl rfl ?_
      refine PW.iret hX hR dX7_mixing_50 rfl rfl ?_
      exact ⟨rfl, rfl⟩
    · try rw [nI_leI (by omega) (by omega)] at c9
      exfalso; omega -- CLOSED
  · refine PW.iconst (v := nI 0) hX dX7_mixing_0 (by decide) ?_
    refine PW.istore_n hX dX7_mixing_1 rfl rfl ?_
    refine PW.iconst (v := nI 1) hX dX7_mixing_2 (by decide) ?_
    refine PW.istore_n hX dX7_mixing_3 rfl rfl ?_
    exact nx
theorem mx_cr {P : Pl} {C : MC} {D : Dy} (cr : CRl D C) : mxS (cou C) (cos C - 1) = mxS (dyos D) (dyn D - 1) := by
  rw [cr.1]
  refine sumN_congr (fun q hq => ?_)
  rw [(cr.2.1 q (by omega)).1, (cr.2.1 (q + 1) (by omega)).1]
theorem pm_mmixed (M : Md) (C : MC) (P : Pl) (D : Dy) (pr : PR P (mno M)) (ok : PlOk P) (dk : DyOk P D 100) (df : DF P D 100) (cr : CRl D C) (di : DIn P D) (h3 : ∀ j, j < 80 → mno M j < 100) (cG : PM mu_X7_goTo 3 0 0 [.ref 0, .int (nI 99)] (mdB M) (eqP none (mdB (sC M C)))) : PM mu_X7_mixed 4 0 0 [.ref 0] (mdB M) (eqP (some (.int (nI (mxS (dyos D) (dyn D - 1))))) (mdB (sC M C))) := by
  have cX := pm_mmixing M C (by rw [cr.1]; exact dk.2.2.1) (fun i hi => by
    have hi : i < dyn D := by rw [← cr.1]; exact hi
    rw [(cr.2.1 i hi).1]
    exact (isSh_lt ok (dk.2.2.2.1 i hi).1).1)
  rw [mx_cr (P := P) cr] at cX
  refine PM.start (Or.inl (by decide +kernel)) rfl rfl rfl ?_
  intro X hX hR hx hin
  refine PW.aload_n hX dX7_mixed_0 rfl rfl ?_
  refine PW.bipush (v := nI 99) hX dX7_mixed_1 (by decide) ?_
  refine PW.vVi hX ml_X7_147 (cG) dX7_mixed_3 17 rfl rfl rfl rfl rfl rfl rfl rfl rfl rfl rfl rfl rfl rfl rfl ?_
  refine PW.aload_n hX dX7_mixed_6 rfl rfl ?_
  refine PW.vIi hX ml_X7_160 (cX) dX7_mixed_7 17 rfl rfl rfl rfl rfl rfl rfl rfl rfl rfl rfl rfl rfl rfl rfl ?_
  refine PW.iret hX hR dX7_mixed_10 rfl rfl ?_
  exact ⟨rfl, rfl⟩
