/-! ===== the reference: what came, and changes of the floor ===== -/
def MnR (f : Nat → Nat) : Prop := f 0 ≤ 6 ∧ f 1 ≤ 6 ∧ f 2 < 6 ∧ f 3 < 10 ∧ ∀ j, j < 80 → f j < 100
def mAim (M : Md) (j c : Nat) : Bool := decide (mso M = 1 ∨ (mfi M 1 < 4 ∧ ((mso M = 0 ∧ 0 < mfi M 2 ∧ mfi M 3 < 60 ∧ j < 6) ∨ (mso M ≠ 0 ∧ c < 6))))
theorem pm_maim (M : Md) (hf : ∀ k, k < 4 → mfi M k < 100) (hs : mso M < 3) (j c : Nat) (hj : j < 1000) (hc : c < 1000) : PM mu_X7_isAsItMustBe 0 0 0 [.ref 0, .int (nI j), .int (nI c)] (mdB M) (eqP (some (.int (bI (mAim M j c)))) (mdB M)) := by
  have f1 := hf 1 (by decide)
  have f2 := hf 2 (by decide)
  have f3 := hf 3 (by decide)
  have et : (mso M = 1 ∨ (mfi M 1 < 4 ∧ ((mso M = 0 ∧ 0 < mfi M 2 ∧ mfi M 3 < 60 ∧ j < 6) ∨ (mso M ≠ 0 ∧ c < 6)))) → mAim M j c = true := fun h => decide_eq_true h
  have ef : ¬ (mso M = 1 ∨ (mfi M 1 < 4 ∧ ((mso M = 0 ∧ 0 < mfi M 2 ∧ mfi M 3 < 60 ∧ j < 6) ∨ (mso M ≠ 0 ∧ c < 6)))) → mAim M j c = false := fun h => decide_eq_false h
  refine PM.start (Or.inl (by decide +kernel)) rfl rfl rfl ?_
  intro X hX hR hx hin
  have h66 : mAim M j c = false → PW X 66 [some (.ref 0), some (.int (nI j)), some (.int (nI c))] [] (mdB M) 0 0 := by
    intro e
    rw [e] at hR
    refine PW.iconst (v := nI 0) hX dX7_isAsItMustBe_66 (by decide) ?_
    refine PW.zret hX hR dX7_isAsItMustBe_67 (by first | exact Or.inl rfl | exact Or.inr rfl | assumption) rfl rfl ?_
    exact ⟨rfl, rfl⟩
  have h62 : mAim M j c = true → PW X 62 [some (.ref 0), some (.int (nI j)), some (.int (nI c))] [] (mdB M) 0 0 := by
    intro e
    rw [e] at hR
    refine PW.iconst (v := nI 1) hX dX7_isAsItMustBe_62 (by decide) ?_
    refine PW.goto (tgt := 67) hX dX7_isAsItMustBe_63 (by decide) ?_
    refine PW.zret hX hR dX7_isAsItMustBe_67 (by first | exact Or.inl rfl | exact Or.inr rfl | assumption) rfl rfl ?_
    exact ⟨rfl, rfl⟩
  refine PW.aload_n hX dX7_isAsItMustBe_0 rfl rfl ?_
  refine PW.getfield hX fl_X7_82 dX7_isAsItMustBe_1 rfl rfl ?_
  refine PW.iconst (v := nI 1) hX dX7_isAsItMustBe_4 (by decide) ?_
  refine PW.icmp_ne (tgt := 10) hX dX7_isAsItMustBe_5 (by decide) (fun c5 => ?_) (fun c5 => ?_)
  · first | rw [nI_eq (by omega) (by omega)] at c5 | rw [oI_eq9] at c5 | skip
    refine PW.aload_n hX dX7_isAsItMustBe_10 rfl rfl ?_
    refine PW.getfield hX fl_X7_32 dX7_isAsItMustBe_11 rfl rfl ?_
    refine PW.iconst (v := nI 1) hX dX7_isAsItMustBe_14 (by decide) ?_
    refine PW.iaload hX dX7_isAsItMustBe_15 rfl rfl rfl (by omega) ?_
    refine PW.top (show _ = nI (mfi M 1) from rfl) ?_
    refine PW.iconst (v := nI 4) hX dX7_isAsItMustBe_16 (by decide) ?_
    refine PW.icmp_ge (tgt := 66) hX dX7_isAsItMustBe_17 (by decide) (fun c17 => ?_) (fun c17 => ?_)
    · try rw [nI_leI (by omega) (by omega)] at c17
      exact h66 (ef (by omega))
    · try rw [nI_leI (by omega) (by omega)] at c17
      refine PW.aload_n hX dX7_isAsItMustBe_20 rfl rfl ?_
      refine PW.getfield hX fl_X7_82 dX7_isAsItMustBe_21 rfl rfl ?_
      refine PW.if_ne (tgt := 56) hX dX7_isAsItMustBe_24 (by decide) (fun c24 => ?_) (fun c24 => ?_)
      · first | rw [bI_d0] at c24 | rw [bI_eq0] at c24 | rw [nI_eq0 (by omega)] at c24 | skip
        refine PW.iload_n hX dX7_isAsItMustBe_56 rfl rfl ?_
        refine PW.bipush (v := nI 6) hX dX7_isAsItMustBe_57 (by decide) ?_
        refine PW.icmp_ge (tgt := 66) hX dX7_isAsItMustBe_59 (by decide) (fun c59 => ?_) (fun c59 => ?_)
        · try rw [nI_leI (by omega) (by omega)] at c59
          exact h66 (ef (by omega))
        · try rw [nI_leI (by omega) (by omega)] at c59
          exact h62 (et (by omega))
      · first | rw [bI_d0] at c24 | rw [bI_eq0] at c24 | rw [nI_eq0 (by omega)] at c24 | skip
        refine PW.aload_n hX dX7_isAsItMustBe_27 rfl rfl ?_
        refine PW.getfield hX fl_X7_32 dX7_isAsItMustBe_28 rfl rfl ?_
        refine PW.iconst (v := nI 2) hX dX7_isAsItMustBe_31 (by decide) ?_
        refine PW.iaload hX dX7_isAsItMustBe_32 rfl rfl rfl (by omega) ?_
        refine PW.top (show _ = nI (mfi M 2) from rfl) ?_
        refine PW.if_le (tgt := 66) hX dX7_isAsItMustBe_33 (by decide) (fun c33 => ?_) (fun c33 => ?_)
        · try rw [nI_le0 (by omega)] at c33
          exact h66 (ef (by omega))
        · try rw [nI_le0 (by omega)] at c33
          refine PW.aload_n hX dX7_isAsItMustBe_36 rfl rfl ?_
          refine PW.getfield hX fl_X7_32 dX7_isAsItMustBe_37 rfl rfl ?_
          refine PW.iconst (v := nI 3) hX dX7_isAsItMustBe_40 (by decide) ?_
          refine PW.iaload hX dX7_isAsItMustBe_41 rfl rfl rfl (by omega) ?_
          refine PW.top (show _ = nI (mfi M 3) from rfl) ?_
          refine PW.bipush (v := nI 60) hX dX7_isAsItMustBe_42 (by decide) ?_
          refine PW.icmp_ge (tgt := 66) hX dX7_isAsItMustBe_44 (by decide) (fun c44 => ?_) (fun c44 => ?_)
          · try rw [nI_leI (by omega) (by omega)] at c44
            exact h66 (ef (by omega))
          · try rw [nI_leI (by omega) (by omega)] at c44
            refine PW.iload_n hX dX7_isAsItMustBe_47 rfl rfl ?_
            refine PW.bipush (v := nI 6) hX dX7_isAsItMustBe_48 (by decide) ?_
            refine PW.icmp_ge (tgt := 66) hX dX7_isAsItMustBe_50 (by decide) (fun c50 => ?_) (fun c50 => ?_)
            · try rw [nI_leI (by omega) (by omega)] at c50
              exact h66 (ef (by omega))
            · try rw [nI_leI (by omega) (by omega)] at c50
              refine PW.goto (tgt := 62) hX dX7_isAsItMustBe_53 (by decide) ?_
              exact h62 (et (by omega))
  · first | rw [nI_eq (by omega) (by omega)] at c5 | rw [oI_eq9] at c5 | skip
    refine PW.iconst (v := nI 1) hX dX7_isAsItMustBe_8 (by decide) ?_
    refine PW.zret hX hR dX7_isAsItMustBe_9 (by first | exact Or.inl rfl | exact Or.inr rfl | assumption) rfl rfl ?_
    rw [et (Or.inl c5)]
    exact ⟨rfl, rfl⟩
theorem pm_mnw (M : Md) (x : Int32) : PM mu_X7_isNoOwner 0 0 0 [.ref 0, .int x] (mdB M) (eqP (some (.int (bI (!inB 4 x)))) (mdB M)) := by
  by_cases h0 : x < 0
  · have e : inB 4 x = false := by unfold inB; rw [decide_eq_true h0]; rfl
    rw [e]
    refine PM.start (Or.inl (by decide +kernel)) rfl rfl rfl ?_
    intro X hX hR hx hin
    refine PW.iload_n hX dX7_isNoOwner_0 rfl rfl ?_
    refine PW.if_lt (tgt := 9) hX dX7_isNoOwner_1 (by decide) (fun c1 => ?_) (fun c1 => ?_)
    · refine PW.iconst (v := nI 1) hX dX7_isNoOwner_9 (by decide) ?_
      refine PW.goto (tgt := 14) hX dX7_isNoOwner_10 (by decide) ?_
      refine PW.zret hX hR dX7_isNoOwner_14 (by first | exact Or.inl rfl | exact Or.inr rfl | assumption) rfl rfl ?_
      exact ⟨rfl, rfl⟩
    · exact absurd h0 c1 -- CLOSED
  · by_cases h1 : x < nI 4
    · have e : inB 4 x = true := by unfold inB; rw [decide_eq_false h0, decide_eq_true h1]; rfl
      rw [e]
      refine PM.start (Or.inl (by decide +kernel)) rfl rfl rfl ?_
      intro X hX hR hx hin
      refine PW.iload_n hX dX7_isNoOwner_0 rfl rfl ?_
      refine PW.if_lt (tgt := 9) hX dX7_isNoOwner_1 (by decide) (fun c1 => ?_) (fun c1 => ?_)
      · exact absurd c1 h0 -- CLOSED
      · refine PW.iload_n hX dX7_isNoOwner_4 rfl rfl ?_
        refine PW.iconst (v := nI 4) hX dX7_isNoOwner_5 (by decide) ?_
        refine PW.icmp_lt (tgt := 13) hX dX7_isNoOwner_6 (by decide) (fun c6 => ?_) (fun c6 => ?_)
        · refine PW.iconst (v := nI 0) hX dX7_isNoOwner_13 (by decide) ?_
          refine PW.zret hX hR dX7_isNoOwner_14 (by first | exact Or.inl rfl | exact Or.inr rfl | assumption) rfl rfl ?_
          exact ⟨rfl, rfl⟩
        · exact absurd h1 c6 -- CLOSED
    · have e : inB 4 x = false := by unfold inB; rw [decide_eq_false h0, decide_eq_false h1]; rfl
      rw [e]
      refine PM.start (Or.inl (by decide +kernel)) rfl rfl rfl ?_
      intro X hX hR hx hin
      refine PW.iload_n hX dX7_isNoOwner_0 rfl rfl ?_
      refine PW.if_lt (tgt := 9) hX dX7_isNoOwner_1 (by decide) (fun c1 => ?_) (fun c1 => ?_)
      · exact absurd c1 h0 -- CLOSED
      · refine PW.iload_n hX dX7_isNoOwner_4 rfl rfl ?_
        refine PW.iconst (v := nI 4) hX dX7_isNoOwner_5 (by decide) ?_
        refine PW.icmp_lt (tgt := 13) hX dX7_isNoOwner_6 (by decide) (fun c6 => ?_) (fun c6 => ?_)
        · exact absurd c6 h1 -- CLOSED
        · refine PW.iconst (v := nI 1) hX dX7_isNoOwner_9 (by decide) ?_
          refine PW.goto (tgt := 14) hX dX7_isNoOwner_10 (by decide) ?_
          refine PW.zret hX hR dX7_isNoOwner_14 (by first | exact Or.inl rfl | exact Or.inr rfl | assumption) rfl rfl ?_
          exact ⟨rfl, rfl⟩
theorem pm_mnj (M : Md) (x : Int32) : PM mu_X7_isNoJob 0 0 0 [.ref 0, .int x] (mdB M) (eqP (some (.int (bI (!inB (mno M 0) x)))) (mdB M)) := by
  by_cases h0 : x < 0
  · have e : inB (mno M 0) x = false := by unfold inB; rw [decide_eq_true h0]; rfl
    rw [e]
    refine PM.start (Or.inl (by decide +kernel)) rfl rfl rfl ?_
    intro X hX hR hx hin
    refine PW.iload_n hX dX7_isNoJob_0 rfl rfl ?_
    refine PW.if_lt (tgt := 14) hX dX7_isNoJob_1 (by decide) (fun c1 => ?_) (fun c1 => ?_)
    · refine PW.iconst (v := nI 1) hX dX7_isNoJob_14 (by decide) ?_
      refine PW.goto (tgt := 19) hX dX7_isNoJob_15 (by decide) ?_
      refine PW.zret hX hR dX7_isNoJob_19 (by first | exact Or.inl rfl | exact Or.inr rfl | assumption) rfl rfl ?_
      exact ⟨rfl, rfl⟩
    · exact absurd h0 c1 -- CLOSED
  · by_cases h1 : x < nI (mno M 0)
    · have e : inB (mno M 0) x = true := by unfold inB; rw [decide_eq_false h0, decide_eq_true h1]; rfl
      rw [e]
      refine PM.start (Or.inl (by decide +kernel)) rfl rfl rfl ?_
      intro X hX hR hx hin
      refine PW.iload_n hX dX7_isNoJob_0 rfl rfl ?_
      refine PW.if_lt (tgt := 14) hX dX7_isNoJob_1 (by decide) (fun c1 => ?_) (fun c1 => ?_)
      · exact absurd c1 h0 -- CLOSED
      · refine PW.iload_n hX dX7_isNoJob_4 rfl rfl ?_
        refine PW.aload_n hX dX7_isNoJob_5 rfl rfl ?_
        refine PW.getfield hX fl_X7_13 dX7_isNoJob_6 rfl rfl ?_
        refine PW.iconst (v := nI 0) hX dX7_isNoJob_9 (by decide) ?_
        refine PW.iaload hX dX7_isNoJob_10 rfl rfl rfl (by omega) ?_
        refine PW.icmp_lt (tgt := 18) hX dX7_isNoJob_11 (by decide) (fun c11 => ?_) (fun c11 => ?_)
        · refine PW.iconst (v := nI 0) hX dX7_isNoJob_18 (by decide) ?_
          refine PW.zret hX hR dX7_isNoJob_19 (by first | exact Or.inl rfl | exact Or.inr rfl | assumption) rfl rfl ?_
          exact ⟨rfl, rfl⟩
        · exact absurd h1 c11 -- CLOSED
    · have e : inB (mno M 0) x = false := by unfold inB; rw [decide_eq_false h0, decide_eq_false h1]; rfl
      rw [e]
      refine PM.start (Or.inl (by decide +kernel)) rfl rfl rfl ?_
      intro X hX hR hx hin
      refine PW.iload_n hX dX7_isNoJob_0 rfl rfl ?_
      refine PW.if_lt (tgt := 14) hX dX7_isNoJob_1 (by decide) (fun c1 => ?_) (fun c1 => ?_)
      · exact absurd c1 h0 -- CLOSED
      · refine PW.iload_n hX dX7_isNoJob_4 rfl rfl ?_
        refine PW.aload_n hX dX7_isNoJob_5 rfl rfl ?_
        refine PW.getfield hX fl_X7_13 dX7_isNoJob_6 rfl rfl ?_
        refine PW.iconst (v := nI 0) hX dX7_isNoJob_9 (by decide) ?_
        refine PW.iaload hX dX7_isNoJob_10 rfl rfl rfl (by omega) ?_
        refine PW.icmp_lt (tgt := 18) hX dX7_isNoJob_11 (by decide) (fun c11 => ?_) (fun c11 => ?_)
        · exact absurd c11 h1 -- CLOSED
        · refine PW.iconst (v := nI 1) hX dX7_isNoJob_14 (by decide) ?_
          refine PW.goto (tgt := 19) hX dX7_isNoJob_15 (by decide) ?_
          refine PW.zret hX hR dX7_isNoJob_19 (by first | exact Or.inl rfl | exact Or.inr rfl | assumption) rfl rfl ?_
          exact ⟨rfl, rfl⟩
theorem pm_mnt (M : Md) (x : Int32) : PM mu_X7_isNoTaker 0 0 0 [.ref 0, .int x] (mdB M) (eqP (some (.int (bI (!inB (mno M 1) x)))) (mdB M)) := by
  by_cases h0 : x < 0
  · have e : inB (mno M 1) x = false := by unfold inB; rw [decide_eq_true h0]; rfl
    rw [e]
    refine PM.start (Or.inl (by decide +kernel)) rfl rfl rfl ?_
    intro X hX hR hx hin
    refine PW.iload_n hX dX7_isNoTaker_0 rfl rfl ?_
    refine PW.if_lt (tgt := 14) hX dX7_isNoTaker_1 (by decide) (fun c1 => ?_) (fun c1 => ?_)
    · refine PW.iconst (v := nI 1) hX dX7_isNoTaker_14 (by decide) ?_
      refine PW.goto (tgt := 19) hX dX7_isNoTaker_15 (by decide) ?_
      refine PW.zret hX hR dX7_isNoTaker_19 (by first | exact Or.inl rfl | exact Or.inr rfl | assumption) rfl rfl ?_
      exact ⟨rfl, rfl⟩
    · exact absurd h0 c1 -- CLOSED
  · by_cases h1 : x < nI (mno M 1)
    · have e : inB (mno M 1) x = true := by unfold inB; rw [decide_eq_false h0, decide_eq_true h1]; rfl
      rw [e]
      refine PM.start (Or.inl (by decide +kernel)) rfl rfl rfl ?_
      intro X hX hR hx hin
      refine PW.iload_n hX dX7_isNoTaker_0 rfl rfl ?_
      refine PW.if_lt (tgt := 14) hX dX7_isNoTaker_1 (by decide) (fun c1 => ?_) (fun c1 => ?_)
      · exact absurd c1 h0 -- CLOSED
      · refine PW.iload_n hX dX7_isNoTaker_4 rfl rfl ?_
        refine PW.aload_n hX dX7_isNoTaker_5 rfl rfl ?_
        refine PW.getfield hX fl_X7_13 dX7_isNoTaker_6 rfl rfl ?_
        refine PW.iconst (v := nI 1) hX dX7_isNoTaker_9 (by decide) ?_
        refine PW.iaload hX dX7_isNoTaker_10 rfl rfl rfl (by omega) ?_
        refine PW.icmp_lt (tgt := 18) hX dX7_isNoTaker_11 (by decide) (fun c11 => ?_) (fun c11 => ?_)
        · refine PW.iconst (v := nI 0) hX dX7_isNoTaker_18 (by decide) ?_
          refine PW.zret hX hR dX7_isNoTaker_19 (by first | exact Or.inl rfl | exact Or.inr rfl | assumption) rfl rfl ?_
          exact ⟨rfl, rfl⟩
        · exact absurd h1 c11 -- CLOSED
    · have e : inB (mno M 1) x = false := by unfold inB; rw [decide_eq_false h0, decide_eq_false h1]; rfl
      rw [e]
      refine PM.start (Or.inl (by decide +kernel)) rfl rfl rfl ?_
      intro X hX hR hx hin
      refine PW.iload_n hX dX7_isNoTaker_0 rfl rfl ?_
      refine PW.if_lt (tgt := 14) hX dX7_isNoTaker_1 (by decide) (fun c1 => ?_) (fun c1 => ?_)
      · exact absurd c1 h0 -- CLOSED
      · refine PW.iload_n hX dX7_isNoTaker_4 rfl rfl ?_
        refine PW.aload_n hX dX7_isNoTaker_5 rfl rfl ?_
        refine PW.getfield hX fl_X7_13 dX7_isNoTaker_6 rfl rfl ?_
        refine PW.iconst (v := nI 1) hX dX7_isNoTaker_9 (by decide) ?_
        refine PW.iaload hX dX7_isNoTaker_10 rfl rfl rfl (by omega) ?_
        refine PW.icmp_lt (tgt := 18) hX dX7_isNoTaker_11 (by decide) (fun c11 => ?_) (fun c11 => ?_)
        · exact absurd c11 h1 -- CLOSED
        · refine PW.iconst (v := nI 1) hX dX7_isNoTaker_14 (by decide) ?_
          refine PW.goto (tgt := 19) hX dX7_isNoTaker_15 (by decide) ?_
          refine PW.zret hX hR dX7_isNoTaker_19 (by first | exact Or.inl rfl | exact Or.inr rfl | assumption) rfl rfl ?_
          exact ⟨rfl, rfl⟩
