theorem st_F (W : Wp) (f : Nat → Nat) : (wpB W).set 44 (.inl (0, 7, fun j => nI (f j))) = wpB (wpP W, wpK W, wpD W, wpT W, wpS W, wpY W, wpR W, f, wpI W) := rfl
theorem st_sent (W : Wp) (f : Nat → Nat) : (wpB W).set 4 (.inl (0, 6, fun j => nI (f j))) = wpB (swP W (plow (wpP W), plsh (wpP W), f, (wpP W).2.2.2)) := rfl
theorem st_come (W : Wp) (f : Nat → Nat) : (wpB W).set 8 (.inl (0, 6, fun j => nI (f j))) = wpB (swP W (plow (wpP W), plsh (wpP W), plse (wpP W), pltk (wpP W), pltw (wpP W), pltf (wpP W), f, (wpP W).2.2.2.2.2.2.2)) := rfl
theorem st_dsent (W : Wp) (f : Nat → Nat) : (wpB W).set 20 (.inl (0, 6, fun j => nI (f j))) = wpB (swD W (plow (wpD W), plsh (wpD W), f, (wpD W).2.2.2)) := rfl
theorem pm_refuse (W : Wp) (x : Int32) (k : Nat) (hng : -x = nI k) (h1 : 1 ≤ k) (h7 : k < 7) : PM mu_X6_refuse 0 0 0 [.ref 0, .int x] (wpB W) (eqP (some (.int x)) (wpB (rfu W k))) := by
  refine PM.start (Or.inl (by decide +kernel)) rfl rfl rfl ?_
  intro X hX hR hx hin
  refine PW.iload_n hX dX6_refuse_0 rfl rfl ?_
  refine PW.ineg hX dX6_refuse_1 ?_
  refine PW.top hng ?_
  refine PW.istore_n hX dX6_refuse_2 rfl rfl ?_
  refine PW.iload_n hX dX6_refuse_3 rfl rfl ?_
  refine PW.iconst (v := nI 1) hX dX6_refuse_4 (by decide) ?_
  refine PW.icmp_lt (tgt := 24) hX dX6_refuse_5 (by decide) (fun c5 => ?_) (fun c5 => ?_)
  · try rw [nI_ltI (by omega) (by omega)] at c5
    exfalso; omega -- CLOSED
  · try rw [nI_ltI (by omega) (by omega)] at c5
    refine PW.iload_n hX dX6_refuse_8 rfl rfl ?_
    refine PW.bipush (v := nI 7) hX dX6_refuse_9 (by decide) ?_
    refine PW.icmp_ge (tgt := 24) hX dX6_refuse_11 (by decide) (fun c11 => ?_) (fun c11 => ?_)
    · try rw [nI_leI (by omega) (by omega)] at c11
      exfalso; omega -- CLOSED
    · try rw [nI_leI (by omega) (by omega)] at c11
      refine PW.aload_n hX dX6_refuse_14 rfl rfl ?_
      refine PW.getfield hX fl_X6_50 dX6_refuse_15 rfl rfl ?_
      refine PW.iload_n hX dX6_refuse_18 rfl rfl ?_
      refine PW.dup2 hX dX6_refuse_19 rfl rfl ?_
      refine PW.iaload hX dX6_refuse_20 rfl rfl rfl (by omega) ?_
      refine PW.iconst (v := nI 1) hX dX6_refuse_21 (by decide) ?_
      refine PW.iadd hX dX6_refuse_22 ?_
      refine PW.top (nI_add _ 1) ?_
      refine PW.iastore hX dX6_refuse_23 rfl rfl rfl (by omega) ?_
      refine PW.iload_n hX dX6_refuse_24 rfl rfl ?_
      refine PW.iret hX hR dX6_refuse_25 rfl rfl ?_
      exact ⟨rfl, (congrArg (fun f => (wpB W).set 44 (Sum.inl (0, 7, f))) (upd_nI _ _ _)).trans (st_F W _)⟩
def wRefd (W : Wp) (x : Int32) : Int32 := if x < nI 1 then -9 else if nI 7 ≤ x then -9 else nI (wpF W x.toNatClampNeg)
theorem pm_refusalsCounted (W : Wp) (x : Int32) : PM mu_X6_refusalsCounted 0 0 0 [.ref 0, .int x] (wpB W) (eqP (some (.int (wRefd W x))) (wpB W)) := by
  by_cases h1 : x < nI 1
  · have e : wRefd W x = -9 := by unfold wRefd; rw [if_pos h1]
    rw [e]
    refine PM.start (Or.inl (by decide +kernel)) rfl rfl rfl ?_
    intro X hX hR hx hin
    refine PW.iload_n hX dX6_refusalsCounted_0 rfl rfl ?_
    refine PW.iconst (v := nI 1) hX dX6_refusalsCounted_1 (by decide) ?_
    refine PW.icmp_lt (tgt := 20) hX dX6_refusalsCounted_2 (by decide) (fun c2 => ?_) (fun c2 => ?_)
    · refine PW.bipush (v := (-9)) hX dX6_refusalsCounted_20 (by decide) ?_
      refine PW.iret hX hR dX6_refusalsCounted_22 rfl rfl ?_
      exact ⟨rfl, rfl⟩
    · exact absurd h1 c2 -- CLOSED
  · by_cases h2 : nI 7 ≤ x
    · have e : wRefd W x = -9 := by unfold wRefd; rw [if_neg h1, if_pos h2]
      rw [e]
      refine PM.start (Or.inl (by decide +kernel)) rfl rfl rfl ?_
      intro X hX hR hx hin
      refine PW.iload_n hX dX6_refusalsCounted_0 rfl rfl ?_
      refine PW.iconst (v := nI 1) hX dX6_refusalsCounted_1 (by decide) ?_
      refine PW.icmp_lt (tgt := 20) hX dX6_refusalsCounted_2 (by decide) (fun c2 => ?_) (fun c2 => ?_)
      · exact absurd c2 h1 -- CLOSED
      · refine PW.iload_n hX dX6_refusalsCounted_5 rfl rfl ?_
        refine PW.bipush (v := nI 7) hX dX6_refusalsCounted_6 (by decide) ?_
        refine PW.icmp_ge (tgt := 20) hX dX6_refusalsCounted_8 (by decide) (fun c8 => ?_) (fun c8 => ?_)
        · refine PW.bipush (v := (-9)) hX dX6_refusalsCounted_20 (by decide) ?_
          refine PW.iret hX hR dX6_refusalsCounted_22 rfl rfl ?_
          exact ⟨rfl, rfl⟩
        · exact absurd h2 c8 -- CLOSED
    · have hx0 : ¬ x < 0 := fun q => h1 (Int32.lt_of_lt_of_le q (by decide))
      obtain ⟨k, hk, rfl⟩ := nI_of hx0
      rw [nI_leI (by omega) hk] at h2
      have e : wRefd W (nI k) = nI (wpF W k) := by unfold wRefd; rw [if_neg h1, if_neg (by rw [nI_leI (by omega) hk]; exact h2), nI_clamp hk]
      rw [e]
      refine PM.start (Or.inl (by decide +kernel)) rfl rfl rfl ?_
      intro X hX hR hx hin
      refine PW.iload_n hX dX6_refusalsCounted_0 rfl rfl ?_
      refine PW.iconst (v := nI 1) hX dX6_refusalsCounted_1 (by decide) ?_
      refine PW.icmp_lt (tgt := 20) hX dX6_refusalsCounted_2 (by decide) (fun c2 => ?_) (fun c2 => ?_)
      · try rw [nI_ltI (by omega) (by omega)] at c2
        exact absurd ((nI_ltI hk (by omega)).mpr c2) h1 -- CLOSED
      · try rw [nI_ltI (by omega) (by omega)] at c2
        refine PW.iload_n hX dX6_refusalsCounted_5 rfl rfl ?_
        refine PW.bipush (v := nI 7) hX dX6_refusalsCounted_6 (by decide) ?_
        refine PW.icmp_ge (tgt := 20) hX dX6_refusalsCounted_8 (by decide) (fun c8 => ?_) (fun c8 => ?_)
        · try rw [nI_leI (by omega) (by omega)] at c8
          exfalso; omega -- CLOSED
        · try rw [nI_leI (by omega) (by omega)] at c8
          refine PW.aload_n hX dX6_refusalsCounted_11 rfl rfl ?_
          refine PW.getfield hX fl_X6_50 dX6_refusalsCounted_12 rfl rfl ?_
          refine PW.iload_n hX dX6_refusalsCounted_15 rfl rfl ?_
          refine PW.iaload hX dX6_refusalsCounted_16 rfl rfl rfl (by omega) ?_
          refine PW.goto (tgt := 22) hX dX6_refusalsCounted_17 (by decide) ?_
          refine PW.iret hX hR dX6_refusalsCounted_22 rfl rfl ?_
          exact ⟨rfl, rfl⟩
def wLetter (W : Wp) (x : Int32) : Int32 × Wp := if x < 0 then (-4, rfu W 4) else if nI 255 < x ∨ 80 ≤ ten (wpT W) then (-6, rfu W 6) else (nI (ten (wpT W) + 1), swT W (va_up (tele (wpT W)) (ten (wpT W)) x.toNatClampNeg, ten (wpT W) + 1, tepl (wpT W), tehd (wpT W), teki (wpT W), teow (wpT W), tefi (wpT W), temi (wpT W)))
theorem pm_letter (W : Wp) (wk : WpOk W) (x : Int32) : PM mu_X6_letter 1 0 0 [.ref 0, .int x] (wpB W) (eqP (some (.int (wLetter W x).1)) (wpB (wLetter W x).2)) := by
  have t1 := wk.2.2.1.1
  have t1 : ten (wpT W) ≤ 80 := t1
  by_cases h0 : x < 0
  · have e : wLetter W x = (-4, rfu W 4) := by unfold wLetter; rw [if_pos h0]
    rw [e]
    refine PM.start (Or.inl (by decide +kernel)) rfl rfl rfl ?_
    intro X hX hR hx hin
    refine PW.iload_n hX dX6_letter_0 rfl rfl ?_
    refine PW.if_ge (tgt := 11) hX dX6_letter_1 (by decide) (fun c1 => ?_) (fun c1 => ?_)
    · exact absurd h0 (i32_nlt.mpr c1) -- CLOSED
    · refine PW.aload_n hX dX6_letter_4 rfl rfl ?_
      refine PW.bipush (v := (-4)) hX dX6_letter_5 (by decide) ?_
      refine PW.vIi hX ml_X6_58 (pm_refuse W (-4) 4 (by decide) (by decide) (by decide)) dX6_letter_7 45 rfl rfl rfl rfl rfl rfl rfl rfl rfl rfl rfl rfl rfl rfl rfl ?_
      refine PW.iret hX hR dX6_letter_10 rfl rfl ?_
      exact ⟨rfl, rfl⟩
  · by_cases h1 : nI 255 < x ∨ 80 ≤ ten (wpT W)
    · have e : wLetter W x = (-6, rfu W 6) := by unfold wLetter; rw [if_neg h0, if_pos h1]
      rw [e]
      refine PM.start (Or.inl (by decide +kernel)) rfl rfl rfl ?_
      intro X hX hR hx hin
      refine PW.iload_n hX dX6_letter_0 rfl rfl ?_
      refine PW.if_ge (tgt := 11) hX dX6_letter_1 (by decide) (fun c1 => ?_) (fun c1 => ?_)
      · refine PW.iload_n hX dX6_letter_11 rfl rfl ?_
        refine PW.sipush (v := nI 255) hX dX6_letter_12 (by decide) ?_
        refine PW.icmp_gt (tgt := 30) hX dX6_letter_15 (by decide) (fun c15 => ?_) (fun c15 => ?_)
        · refine PW.aload_n hX dX6_letter_30 rfl rfl ?_
          refine PW.bipush (v := (-6)) hX dX6_letter_31 (by decide) ?_
          refine PW.vIi hX ml_X6_58 (pm_refuse W (-6) 6 (by decide) (by decide) (by decide)) dX6_letter_33 45 rfl rfl rfl rfl rfl rfl rfl rfl rfl rfl rfl rfl rfl rfl rfl ?_
          refine PW.iret hX hR dX6_letter_36 rfl rfl ?_
          exact ⟨rfl, rfl⟩
        · refine PW.aload_n hX dX6_letter_18 rfl rfl ?_
          refine PW.getfield hX fl_X6_25 dX6_letter_19 rfl rfl ?_
          refine PW.getfield hX fl_X6_62 dX6_letter_22 rfl rfl ?_
          refine PW.bipush (v := nI 80) hX dX6_letter_25 (by decide) ?_
          refine PW.icmp_lt (tgt := 37) hX dX6_letter_27 (by decide) (fun c27 => ?_) (fun c27 => ?_)
          · rw [nI_ltI (by omega) (by omega)] at c27
            exact absurd h1 (fun q => q.elim c15 (fun z => by omega)) -- CLOSED
          · refine PW.aload_n hX dX6_letter_30 rfl rfl ?_
            refine PW.bipush (v := (-6)) hX dX6_letter_31 (by decide) ?_
            refine PW.vIi hX ml_X6_58 (pm_refuse W (-6) 6 (by decide) (by decide) (by decide)) dX6_letter_33 45 rfl rfl rfl rfl rfl rfl rfl rfl rfl rfl rfl rfl rfl rfl rfl ?_
            refine PW.iret hX hR dX6_letter_36 rfl rfl ?_
            exact ⟨rfl, rfl⟩
      · exact absurd (i32_nle.mp c1) h0 -- CLOSED
    · obtain ⟨k, hk, rfl⟩ := nI_of h0
      have e : wLetter W (nI k) = (nI (ten (wpT W) + 1), swT W (va_up (tele (wpT W)) (ten (wpT W)) k, ten (wpT W) + 1, tepl (wpT W), tehd (wpT W), teki (wpT W), teow (wpT W), tefi (wpT W), temi (wpT W))) := by unfold wLetter; rw [if_neg h0, if_neg h1, nI_clamp hk]
      rw [e]
      refine PM.start (Or.inl (by decide +kernel)) rfl rfl rfl ?_
      intro X hX hR hx hin
      refine PW.iload_n hX dX6_letter_0 rfl rfl ?_
      refine PW.if_ge (tgt := 11) hX dX6_letter_1 (by decide) (fun c1 => ?_) (fun c1 => ?_)
      · refine PW.iload_n hX dX6_letter_11 rfl rfl ?_
        refine PW.sipush (v := nI 255) hX dX6_letter_12 (by decide) ?_
        refine PW.icmp_gt (tgt := 30) hX dX6_letter_15 (by decide) (fun c15 => ?_) (fun c15 => ?_)
        · exact absurd (Or.inl c15) h1 -- CLOSED
        · refine PW.aload_n hX dX6_letter_18 rfl rfl ?_
          refine PW.getfield hX fl_X6_25 dX6_letter_19 rfl rfl ?_
          refine PW.getfield hX fl_X6_62 dX6_letter_22 rfl rfl ?_
          refine PW.bipush (v := nI 80) hX dX6_letter_25 (by decide) ?_
          refine PW.icmp_lt (tgt := 37) hX dX6_letter_27 (by decide) (fun c27 => ?_) (fun c27 => ?_)
          · refine PW.aload_n hX dX6_letter_37 rfl rfl ?_
            refine PW.getfield hX fl_X6_25 dX6_letter_38 rfl rfl ?_
            refine PW.iload_n hX dX6_letter_41 rfl rfl ?_
            refine PW.vI hX ml_X6_66 (pm_teAdd (wpT W) (by omega) k) dX6_letter_42 [25, 26] (e1_T W) rfl rfl rfl rfl rfl rfl rfl rfl rfl rfl rfl rfl rfl (eh_T W _) ?_
            refine PW.iret hX hR dX6_letter_45 rfl rfl ?_
            exact ⟨rfl, rfl⟩
          · rw [nI_ltI (by omega) (by omega)] at c27
            exact absurd (Or.inr (by omega)) h1 -- CLOSED
      · exact absurd (i32_nle.mp c1) h0 -- CLOSED
def wJob (W : Wp) (x y : Int32) : Int32 × Wp := bif inB (plnj (wpP W)) x then (if y = nI 0 then (nI (plow (wpP W) x.toNatClampNeg), W) else if y = nI 1 then (nI (plsh (wpP W) x.toNatClampNeg), W) else if y = nI 2 then (nI (plse (wpP W) x.toNatClampNeg), W) else (-2, rfu W 2)) else (-1, rfu W 1)
theorem sw_out {y : Int32} {n : Nat} (hn : n < 1000) (h : ∀ k, k ≤ n → ¬ y = nI k) : y.toInt < 0 ∨ (n : Int) < y.toInt := by
  by_cases h0 : y < 0
  · exact Or.inl (by simpa using Int32.lt_iff_toInt_lt.mp h0)
  · obtain ⟨k, hk, rfl⟩ := nI_of h0
    rw [nI_toInt hk]
    by_cases hkn : k ≤ n
    · exact absurd rfl (h k hkn)
    · exact Or.inr (by omega)
theorem pm_job (W : Wp) (wk : WpOk W) (x y : Int32) : PM mu_X6_job 1 0 0 [.ref 0, .int x, .int y] (wpB W) (eqP (some (.int (wJob W x y).1)) (wpB (wJob W x y).2)) := by
  have o1 := wk.1.1
  have o1 : plnj (wpP W) ≤ 6 := o1
  cases hb : inB (plnj (wpP W)) x with
  | false =>
    have e : wJob W x y = (-1, rfu W 1) := by unfold wJob; rw [hb]; rfl
    rw [e]
    refine PM.start (Or.inl (by decide +kernel)) rfl rfl rfl ?_
    intro X hX hR hx hin
    refine PW.aload_n hX dX6_job_0 rfl rfl ?_
    refine PW.getfield hX fl_X6_12 dX6_job_1 rfl rfl ?_
    refine PW.iload_n hX dX6_job_4 rfl rfl ?_
    refine PW.vR hX ml_X6_79 (pm_hasJob (wpP W) x) dX6_job_5 [1, 2, 3, 4, 5, 6, 7, 8] (e1_P W) rfl rfl rfl rfl rfl rfl rfl rfl rfl rfl rfl rfl ?_
    refine PW.if_ne (tgt := 17) hX dX6_job_8 (by decide) (fun c8 => ?_) (fun c8 => ?_)
    · first | rw [bI_d0] at c8 | rw [bI_eq0] at c8 | rw [nI_eq0 (by omega)] at c8 | skip
      exact absurd hb c8 -- CLOSED
    · first | rw [bI_d0] at c8 | rw [bI_eq0] at c8 | rw [nI_eq0 (by omega)] at c8 | skip
      refine PW.aload_n hX dX6_job_11 rfl rfl ?_
      refine PW.iconst (v := (-1)) hX dX6_job_12 (by decide) ?_
      refine PW.vIi hX ml_X6_58 (pm_refuse W (-1) 1 (by decide) (by decide) (by decide)) dX6_job_13 45 rfl rfl rfl rfl rfl rfl rfl rfl rfl rfl rfl rfl rfl rfl rfl ?_
      refine PW.iret hX hR dX6_job_16 rfl rfl ?_
      exact ⟨rfl, rfl⟩
  | true =>
    obtain ⟨k, hk, rfl⟩ := inB_of (by omega) hb
    have e : wJob W (nI k) y = (if y = nI 0 then (nI (plow (wpP W) k), W) else if y = nI 1 then (nI (plsh (wpP W) k), W) else if y = nI 2 then (nI (plse (wpP W) k), W) else (-2, rfu W 2)) := by unfold wJob; rw [hb, nI_clamp (by omega)]; rfl
    rw [e]
    by_cases y0 : y = nI 0
    · rw [if_pos y0]
      subst y0
      refine PM.start (Or.inl (by decide +kernel)) rfl rfl rfl ?_
      intro X hX hR hx hin
      refine PW.aload_n hX dX6_job_0 rfl rfl ?_
      refine PW.getfield hX fl_X6_12 dX6_job_1 rfl rfl ?_
      refine PW.iload_n hX dX6_job_4 rfl rfl ?_
      refine PW.vR hX ml_X6_79 (pm_hasJob (wpP W) (nI k)) dX6_job_5 [1, 2, 3, 4, 5, 6, 7, 8] (e1_P W) rfl rfl rfl rfl rfl rfl rfl rfl rfl rfl rfl rfl ?_
      refine PW.if_ne (tgt := 17) hX dX6_job_8 (by decide) (fun c8 => ?_) (fun c8 => ?_)
      · first | rw [bI_d0] at c8 | rw [bI_eq0] at c8 | rw [nI_eq0 (by omega)] at c8 | skip
        refine PW.iload_n hX dX6_job_17 rfl rfl ?_
        refine PW.tableIn (off := 26) (tgt := 44) hX dX6_job_18 (by decide) (by decide) (by decide) (by decide) ?_
        refine PW.aload_n hX dX6_job_44 rfl rfl ?_
        refine PW.getfield hX fl_X6_12 dX6_job_45 rfl rfl ?_
        refine PW.getfield hX fl_X6_83 dX6_job_48 rfl rfl ?_
        refine PW.iload_n hX dX6_job_51 rfl rfl ?_
        refine PW.iaload hX dX6_job_52 rfl rfl rfl (by omega) ?_
        refine PW.iret hX hR dX6_job_53 rfl rfl ?_
        exact ⟨rfl, rfl⟩
      · first | rw [bI_d0] at c8 | rw [bI_eq0] at c8 | rw [nI_eq0 (by omega)] at c8 | skip
        exact absurd (hb.symm.trans c8) (by decide) -- CLOSED
    · rw [if_neg y0]
      by_cases y1 : y = nI 1
      · rw [if_pos y1]
        subst y1
        refine PM.start (Or.inl (by decide +kernel)) rfl rfl rfl ?_
        intro X hX hR hx hin
        refine PW.aload_n hX dX6_job_0 rfl rfl ?_
        refine PW.getfield hX fl_X6_12 dX6_job_1 rfl rfl ?_
        refine PW.iload_n hX dX6_job_4 rfl rfl ?_
        refine PW.vR hX ml_X6_79 (pm_hasJob (wpP W) (nI k)) dX6_job_5 [1, 2, 3, 4, 5, 6, 7, 8] (e1_P W) rfl rfl rfl rfl rfl rfl rfl rfl rfl rfl rfl rfl ?_
        refine PW.if_ne (tgt := 17) hX dX6_job_8 (by decide) (fun c8 => ?_) (fun c8 => ?_)
        · first | rw [bI_d0] at c8 | rw [bI_eq0] at c8 | rw [nI_eq0 (by omega)] at c8 | skip
          refine PW.iload_n hX dX6_job_17 rfl rfl ?_
          refine PW.tableIn (off := 36) (tgt := 54) hX dX6_job_18 (by decide) (by decide) (by decide) (by decide) ?_
          refine PW.aload_n hX dX6_job_54 rfl rfl ?_
          refine PW.getfield hX fl_X6_12 dX6_job_55 rfl rfl ?_
          refine PW.getfield hX fl_X6_86 dX6_job_58 rfl rfl ?_
          refine PW.iload_n hX dX6_job_61 rfl rfl ?_
          refine PW.iaload hX dX6_job_62 rfl rfl rfl (by omega) ?_
          refine PW.iret hX hR dX6_job_63 rfl rfl ?_
          exact ⟨rfl, rfl⟩
        · first | rw [bI_d0] at c8 | rw [bI_eq0] at c8 | rw [nI_eq0 (by omega)] at c8 | skip
          exact absurd (hb.symm.trans c8) (by decide) -- CLOSED
      · rw [if_neg y1]
        by_cases y2 : y = nI 2
        · rw [if_pos y2]
          subst y2
          refine PM.start (Or.inl (by decide +kernel)) rfl rfl rfl ?_
          intro X hX hR hx hin
          refine PW.aload_n hX dX6_job_0 rfl rfl ?_
          refine PW.getfield hX fl_X6_12 dX6_job_1 rfl rfl ?_
          refine PW.iload_n hX dX6_job_4 rfl rfl ?_
          refine PW.vR hX ml_X6_79 (pm_hasJob (wpP W) (nI k)) dX6_job_5 [1, 2, 3, 4, 5, 6, 7, 8] (e1_P W) rfl rfl rfl rfl rfl rfl rfl rfl rfl rfl rfl rfl ?_
          refine PW.if_ne (tgt := 17) hX dX6_job_8 (by decide) (fun c8 => ?_) (fun c8 => ?_)
          · first | rw [bI_d0] at c8 | rw [bI_eq0] at c8 | rw [nI_eq0 (by omega)] at c8 | skip
            refine PW.iload_n hX dX6_job_17 rfl rfl ?_
            refine PW.tableIn (off := 46) (tgt := 64) hX dX6_job_18 (by decide) (by decide) (by decide) (by decide) ?_
            refine PW.aload_n hX dX6_job_64 rfl rfl ?_
            refine PW.getfield hX fl_X6_12 dX6_job_65 rfl rfl ?_
            refine PW.getfield hX fl_X6_89 dX6_job_68 rfl rfl ?_
            refine PW.iload_n hX dX6_job_71 rfl rfl ?_
            refine PW.iaload hX dX6_job_72 rfl rfl rfl (by omega) ?_
            refine PW.iret hX hR dX6_job_73 rfl rfl ?_
            exact ⟨rfl, rfl⟩
          · first | rw [bI_d0] at c8 | rw [bI_eq0] at c8 | rw [nI_eq0 (by omega)] at c8 | skip
            exact absurd (hb.symm.trans c8) (by decide) -- CLOSED
        · rw [if_neg y2]
          refine PM.start (Or.inl (by decide +kernel)) rfl rfl rfl ?_
          intro X hX hR hx hin
          refine PW.aload_n hX dX6_job_0 rfl rfl ?_
          refine PW.getfield hX fl_X6_12 dX6_job_1 rfl rfl ?_
          refine PW.iload_n hX dX6_job_4 rfl rfl ?_
          refine PW.vR hX ml_X6_79 (pm_hasJob (wpP W) (nI k)) dX6_job_5 [1, 2, 3, 4, 5, 6, 7, 8] (e1_P W) rfl rfl rfl rfl rfl rfl rfl rfl rfl rfl rfl rfl ?_
          refine PW.if_ne (tgt := 17) hX dX6_job_8 (by decide) (fun c8 => ?_) (fun c8 => ?_)
          · first | rw [bI_d0] at c8 | rw [bI_eq0] at c8 | rw [nI_eq0 (by omega)] at c8 | skip
            refine PW.iload_n hX dX6_job_17 rfl rfl ?_
            refine PW.tableOut (tgt := 74) hX dX6_job_18 (sw_out (n := 2) (by decide) (fun k hk => by rcases (show k = 0 ∨ k = 1 ∨ k = 2 by omega) with rfl | rfl | rfl <;> assumption)) (by decide) ?_
            refine PW.aload_n hX dX6_job_74 rfl rfl ?_
            refine PW.bipush (v := (-2)) hX dX6_job_75 (by decide) ?_
            refine PW.vIi hX ml_X6_58 (pm_refuse W (-2) 2 (by decide) (by decide) (by decide)) dX6_job_77 45 rfl rfl rfl rfl rfl rfl rfl rfl rfl rfl rfl rfl rfl rfl rfl ?_
            refine PW.iret hX hR dX6_job_80 rfl rfl ?_
            exact ⟨rfl, rfl⟩
          · first | rw [bI_d0] at c8 | rw [bI_eq0] at c8 | rw [nI_eq0 (by omega)] at c8 | skip
            exact absurd (hb.symm.trans c8) (by decide) -- CLOSED
