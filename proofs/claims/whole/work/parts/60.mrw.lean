/-! ===== the reference: row count judge together two three lacks ===== -/
def qRow (M : Md) (x : Int32) : Int32 × Md := if x < 0 then (-4, mNo M 4) else if nI 100 ≤ x ∨ 20 ≤ mln M then (-6, mNo M 6) else (nI (mln M + 1), sE M (va_up (mli M) (mln M) x.toNatClampNeg, mln M + 1, mwy M))
theorem pm_mrow (M : Md) (hn : mln M ≤ 20) (x : Int32) : PM mu_X7_row 1 0 0 [.ref 0, .int x] (mdB M) (eqP (some (.int (qRow M x).1)) (mdB (qRow M x).2)) := by
  unfold qRow
  by_cases h0 : x < 0
  · rw [if_pos h0]
    refine PM.start (Or.inl (by decide +kernel)) rfl rfl rfl ?_
    intro X hX hR hx hin
    refine PW.iload_n hX dX7_row_0 rfl rfl ?_
    refine PW.if_ge (tgt := 11) hX dX7_row_1 (by decide) (fun c1 => ?_) (fun c1 => ?_)
    · exact absurd h0 (i32_ge0 c1) -- CLOSED
    · refine PW.aload_n hX dX7_row_4 rfl rfl ?_
      refine PW.bipush (v := (-4)) hX dX7_row_5 (by decide) ?_
      refine PW.vIi hX ml_X7_64 (pm_no M (-4) 4 (by decide) (by decide)) dX7_row_7 17 rfl rfl rfl rfl rfl rfl rfl rfl rfl rfl rfl rfl rfl rfl rfl ?_
      refine PW.iret hX hR dX7_row_10 rfl rfl ?_
      exact ⟨rfl, rfl⟩
  · rw [if_neg h0]
    by_cases h1 : nI 100 ≤ x ∨ 20 ≤ mln M
    · rw [if_pos h1]
      refine PM.start (Or.inl (by decide +kernel)) rfl rfl rfl ?_
      intro X hX hR hx hin
      refine PW.iload_n hX dX7_row_0 rfl rfl ?_
      refine PW.if_ge (tgt := 11) hX dX7_row_1 (by decide) (fun c1 => ?_) (fun c1 => ?_)
      · refine PW.iload_n hX dX7_row_11 rfl rfl ?_
        refine PW.bipush (v := nI 99) hX dX7_row_12 (by decide) ?_
        refine PW.icmp_gt (tgt := 26) hX dX7_row_14 (by decide) (fun c14 => ?_) (fun c14 => ?_)
        · refine PW.aload_n hX dX7_row_26 rfl rfl ?_
          refine PW.bipush (v := (-6)) hX dX7_row_27 (by decide) ?_
          refine PW.vIi hX ml_X7_64 (pm_no M (-6) 6 (by decide) (by decide)) dX7_row_29 17 rfl rfl rfl rfl rfl rfl rfl rfl rfl rfl rfl rfl rfl rfl rfl ?_
          refine PW.iret hX hR dX7_row_32 rfl rfl ?_
          exact ⟨rfl, rfl⟩
        · refine PW.aload_n hX dX7_row_17 rfl rfl ?_
          refine PW.getfield hX fl_X7_166 dX7_row_18 rfl rfl ?_
          refine PW.bipush (v := nI 20) hX dX7_row_21 (by decide) ?_
          refine PW.icmp_ne (tgt := 33) hX dX7_row_23 (by decide) (fun c23 => ?_) (fun c23 => ?_)
          · rw [nI_eq (by omega) (by omega)] at c23
            exact absurd h1 (fun q => q.elim (fun q => c14 (Int32.lt_of_lt_of_le (by decide) q)) (fun q => by omega)) -- CLOSED
          · refine PW.aload_n hX dX7_row_26 rfl rfl ?_
            refine PW.bipush (v := (-6)) hX dX7_row_27 (by decide) ?_
            refine PW.vIi hX ml_X7_64 (pm_no M (-6) 6 (by decide) (by decide)) dX7_row_29 17 rfl rfl rfl rfl rfl rfl rfl rfl rfl rfl rfl rfl rfl rfl rfl ?_
            refine PW.iret hX hR dX7_row_32 rfl rfl ?_
            exact ⟨rfl, rfl⟩
      · exact absurd (i32_lt0 c1) h0 -- CLOSED
    · rw [if_neg h1]
      obtain ⟨k, hk, rfl⟩ := nI_of h0
      rw [nI_clamp hk]
      have k1 : k < 100 := by
        by_cases q : k < 100
        · exact q
        · exact absurd (Or.inl ((nI_leI (by omega) hk).mpr (by omega))) h1
      have n1 : mln M < 20 := by
        by_cases q : mln M < 20
        · exact q
        · exact absurd (Or.inr (by omega)) h1
      refine PM.start (Or.inl (by decide +kernel)) rfl rfl rfl ?_
      intro X hX hR hx hin
      refine PW.iload_n hX dX7_row_0 rfl rfl ?_
      refine PW.if_ge (tgt := 11) hX dX7_row_1 (by decide) (fun c1 => ?_) (fun c1 => ?_)
      · try rw [nI_ge0 (by omega)] at c1
        refine PW.iload_n hX dX7_row_11 rfl rfl ?_
        refine PW.bipush (v := nI 99) hX dX7_row_12 (by decide) ?_
        refine PW.icmp_gt (tgt := 26) hX dX7_row_14 (by decide) (fun c14 => ?_) (fun c14 => ?_)
        · try rw [nI_ltI (by omega) (by omega)] at c14
          exfalso; omega -- CLOSED
        · try rw [nI_ltI (by omega) (by omega)] at c14
          refine PW.aload_n hX dX7_row_17 rfl rfl ?_
          refine PW.getfield hX fl_X7_166 dX7_row_18 rfl rfl ?_
          refine PW.bipush (v := nI 20) hX dX7_row_21 (by decide) ?_
          refine PW.icmp_ne (tgt := 33) hX dX7_row_23 (by decide) (fun c23 => ?_) (fun c23 => ?_)
          · first | rw [nI_eq (by omega) (by omega)] at c23 | rw [oI_eq9] at c23 | skip
            refine PW.aload_n hX dX7_row_33 rfl rfl ?_
            refine PW.getfield hX fl_X7_54 dX7_row_34 rfl rfl ?_
            refine PW.aload_n hX dX7_row_37 rfl rfl ?_
            refine PW.getfield hX fl_X7_166 dX7_row_38 rfl rfl ?_
            refine PW.iload_n hX dX7_row_41 rfl rfl ?_
            refine PW.iastore hX dX7_row_42 rfl rfl rfl (by omega) ?_
            refine PW.aload_n hX dX7_row_43 rfl rfl ?_
            refine PW.dup hX dX7_row_44 rfl ?_
            refine PW.getfield hX fl_X7_166 dX7_row_45 rfl rfl ?_
            refine PW.iconst (v := nI 1) hX dX7_row_48 (by decide) ?_
            refine PW.iadd hX dX7_row_49 ?_
            refine PW.top (nI_add _ 1) ?_
            refine PW.putI hX fp_X7_166 dX7_row_50 rfl rfl ?_
            refine PW.aload_n hX dX7_row_53 rfl rfl ?_
            refine PW.getfield hX fl_X7_166 dX7_row_54 rfl rfl ?_
            refine PW.iret hX hR dX7_row_57 rfl rfl ?_
            exact ⟨rfl, by simp only [upd_nI]; rfl⟩
          · first | rw [nI_eq (by omega) (by omega)] at c23 | rw [oI_eq9] at c23 | skip
            exfalso; omega -- CLOSED
      · try rw [nI_ge0 (by omega)] at c1
        exact absurd trivial c1 -- CLOSED
def rfI (g : Nat → Nat) (x : Int32) : Int32 := if x < nI 1 then -9 else if nI 7 ≤ x then -9 else nI (g x.toNatClampNeg)
def qCount (M : Md) (P : Pl) (x : Int32) : Int32 := if x = nI 0 then nI (plnj P) else if x = nI 1 then nI (sumN (plsh P) (plnj P)) else if x = nI 2 then nI (plnt P) else if x = nI 3 then nI (plkd P) else if x = nI 4 then nI (plsp P) else if x = nI 5 then nI (mln M) else if x = nI 6 then nI (mtn M) else rfI (mrf M) (x - nI 10)
theorem rfI_in (g : Nat → Nat) {k : Nat} (h1 : 1 ≤ k) (h6 : k ≤ 6) : rfI g (nI (k + 10) - nI 10) = nI (g k) := by
  have e : nI (k + 10) - nI 10 = nI k := by rw [pk_sub (by omega)]; congr 1
  unfold rfI
  rw [e, if_neg (by rw [nI_ltI (by omega) (by omega)]; omega), if_neg (by rw [nI_leI (by omega) (by omega)]; omega), nI_clamp (by omega)]
theorem rfI_out (g : Nat → Nat) {x : Int32} (h : ∀ k, 1 ≤ k → k ≤ 6 → x ≠ nI (k + 10)) : rfI g (x - nI 10) = -9 := by
  unfold rfI
  by_cases h1 : x - nI 10 < nI 1
  · rw [if_pos h1]
  · rw [if_neg h1]
    by_cases h2 : nI 7 ≤ x - nI 10
    · rw [if_pos h2]
    · exfalso
      obtain ⟨k, hk, e⟩ := nI_of (x := x - nI 10) (fun q => h1 (Int32.lt_of_lt_of_le q (by decide)))
      rw [e, nI_ltI hk (by decide)] at h1
      rw [e, nI_leI (by decide) hk] at h2
      refine h k (by omega) (by omega) ?_
      rw [← nI_add, ← e, Int32.sub_add_cancel]
theorem pm_mcount (M : Md) (P : Pl) (pr : PR P (mno M)) (ok : PlOk P) (x : Int32) : PM mu_X7_count 1 0 0 [.ref 0, .int x] (mdB M) (eqP (some (.int (qCount M P x))) (mdB M)) := by
  obtain ⟨p0, p1, p2, p3, p4, p5⟩ := pr
  have o1 := ok.1
  unfold qCount
  by_cases y0 : x = nI 0
  · rw [if_pos y0]
    subst y0
    refine PM.start (Or.inl (by decide +kernel)) rfl rfl rfl ?_
    intro X hX hR hx hin
    refine PW.iload_n hX dX7_count_0 rfl rfl ?_
    refine PW.tableIn (off := 43) (tgt := 44) hX dX7_count_1 (by decide) (by decide) (by decide) (by decide) ?_
    refine PW.aload_n hX dX7_count_44 rfl rfl ?_
    refine PW.getfield hX fl_X7_13 dX7_count_45 rfl rfl ?_
    refine PW.iconst (v := nI 0) hX dX7_count_48 (by decide) ?_
    refine PW.iaload (k := 0) hX dX7_count_49 rfl rfl rfl (by decide) ?_
    refine PW.top (show _ = nI (plnj P) from congrArg nI p0) ?_
    refine PW.iret hX hR dX7_count_50 rfl rfl ?_
    exact ⟨rfl, rfl⟩
  · rw [if_neg y0]
    by_cases y1 : x = nI 1
    · rw [if_pos y1]
      subst y1
      refine PM.start (Or.inl (by decide +kernel)) rfl rfl rfl ?_
      intro X hX hR hx hin
      have loop : ∀ n i : Nat, i ≤ plnj P → plnj P < i + n → PW X 55 [some (.ref 0), some (.int (nI 1)), some (.int (nI (sumN (plsh P) i))), some (.int (nI i))] [] (mdB M) 0 0 := by
        intro n
        induction n with
        | zero => intro i h1 h2; exact absurd h2 (by omega)
        | succ n ih =>
          intro i h1 h2
          by_cases hi : i = plnj P
          · subst hi
            refine PW.iload_n hX dX7_count_55 rfl rfl ?_
            refine PW.aload_n hX dX7_count_56 rfl rfl ?_
            refine PW.getfield hX fl_X7_13 dX7_count_57 rfl rfl ?_
            refine PW.iconst (v := nI 0) hX dX7_count_60 (by decide) ?_
            refine PW.iaload (k := 0) hX dX7_count_61 rfl rfl rfl (by decide) ?_
            refine PW.top (show _ = nI (plnj P) from congrArg nI p0) ?_
            refine PW.icmp_ge (tgt := 83) hX dX7_count_62 (by decide) (fun c62 => ?_) (fun c62 => ?_)
            · try rw [nI_leI (by omega) (by omega)] at c62
              refine PW.iload_n hX dX7_count_83 rfl rfl ?_
              refine PW.iret hX hR dX7_count_84 rfl rfl ?_
              exact ⟨rfl, rfl⟩
            · try rw [nI_leI (by omega) (by omega)] at c62
              exfalso; omega -- CLOSED
          · have nx := ih (i + 1) (by omega) (by omega)
            rw [sumN] at nx
            obtain ⟨q1, q2, q3⟩ := p4 i (by omega)
            refine PW.iload_n hX dX7_count_55 rfl rfl ?_
            refine PW.aload_n hX dX7_count_56 rfl rfl ?_
            refine PW.getfield hX fl_X7_13 dX7_count_57 rfl rfl ?_
            refine PW.iconst (v := nI 0) hX dX7_count_60 (by decide) ?_
            refine PW.iaload (k := 0) hX dX7_count_61 rfl rfl rfl (by decide) ?_
            refine PW.top (show _ = nI (plnj P) from congrArg nI p0) ?_
            refine PW.icmp_ge (tgt := 83) hX dX7_count_62 (by decide) (fun c62 => ?_) (fun c62 => ?_)
            · try rw [nI_leI (by omega) (by omega)] at c62
              exfalso; omega -- CLOSED
            · try rw [nI_leI (by omega) (by omega)] at c62
              refine PW.iload_n hX dX7_count_65 rfl rfl ?_
              refine PW.aload_n hX dX7_count_66 rfl rfl ?_
              refine PW.getfield hX fl_X7_13 dX7_count_67 rfl rfl ?_
              refine PW.bipush (v := nI 20) hX dX7_count_70 (by decide) ?_
              refine PW.iload_n hX dX7_count_72 rfl rfl ?_
              refine PW.iadd hX dX7_count_73 ?_
              refine PW.top (nI_add 20 i) ?_
              refine PW.iaload (k := 20 + i) hX dX7_count_74 rfl rfl rfl (by omega) ?_
              refine PW.top (show _ = nI (plsh P i) from congrArg nI q2) ?_
              refine PW.iadd hX dX7_count_75 ?_
              refine PW.top (nI_add _ _) ?_
              refine PW.istore_n hX dX7_count_76 rfl rfl ?_
              first | refine PW.iinc hX dX7_count_77 rfl (iincN _) ?_ | refine PW.iinc hX dX7_count_77 rfl rfl ?_
              refine PW.goto (tgt := 55) hX dX7_count_80 (by decide) ?_
              exact nx
      have nx := loop (plnj P + 1) 0 (by omega) (by omega)
      refine PW.iload_n hX dX7_count_0 rfl rfl ?_
      refine PW.tableIn (off := 50) (tgt := 51) hX dX7_count_1 (by decide) (by decide) (by decide) (by decide) ?_
      refine PW.iconst (v := nI 0) hX dX7_count_51 (by decide) ?_
      refine PW.istore_n hX dX7_count_52 rfl rfl ?_
      refine PW.iconst (v := nI 0) hX dX7_count_53 (by decide) ?_
      refine PW.istore_n hX dX7_count_54 rfl rfl ?_
      exact nx
    · rw [if_neg y1]
      by_cases y2 : x = nI 2
      · rw [if_pos y2]
        subst y2
        refine PM.start (Or.inl (by decide +kernel)) rfl rfl rfl ?_
        intro X hX hR hx hin
        refine PW.iload_n hX dX7_count_0 rfl rfl ?_
        refine PW.tableIn (off := 84) (tgt := 85) hX dX7_count_1 (by decide) (by decide) (by decide) (by decide) ?_
        refine PW.aload_n hX dX7_count_85 rfl rfl ?_
        refine PW.getfield hX fl_X7_13 dX7_count_86 rfl rfl ?_
        refine PW.iconst (v := nI 1) hX dX7_count_89 (by decide) ?_
        refine PW.iaload (k := 1) hX dX7_count_90 rfl rfl rfl (by decide) ?_
        refine PW.top (show _ = nI (plnt P) from congrArg nI p1) ?_
        refine PW.iret hX hR dX7_count_91 rfl rfl ?_
        exact ⟨rfl, rfl⟩
      · rw [if_neg y2]
        by_cases y3 : x = nI 3
        · rw [if_pos y3]
          subst y3
          refine PM.start (Or.inl (by decide +kernel)) rfl rfl rfl ?_
          intro X hX hR hx hin
          refine PW.iload_n hX dX7_count_0 rfl rfl ?_
          refine PW.tableIn (off := 91) (tgt := 92) hX dX7_count_1 (by decide) (by decide) (by decide) (by decide) ?_
          refine PW.aload_n hX dX7_count_92 rfl rfl ?_
          refine PW.getfield hX fl_X7_13 dX7_count_93 rfl rfl ?_
          refine PW.iconst (v := nI 2) hX dX7_count_96 (by decide) ?_
          refine PW.iaload (k := 2) hX dX7_count_97 rfl rfl rfl (by decide) ?_
          refine PW.top (show _ = nI (plkd P) from congrArg nI p2) ?_
          refine PW.iret hX hR dX7_count_98 rfl rfl ?_
          exact ⟨rfl, rfl⟩
        · rw [if_neg y3]
          by_cases y4 : x = nI 4
          · rw [if_pos y4]
            subst y4
            refine PM.start (Or.inl (by decide +kernel)) rfl rfl rfl ?_
            intro X hX hR hx hin
            refine PW.iload_n hX dX7_count_0 rfl rfl ?_
            refine PW.tableIn (off := 98) (tgt := 99) hX dX7_count_1 (by decide) (by decide) (by decide) (by decide) ?_
            refine PW.aload_n hX dX7_count_99 rfl rfl ?_
            refine PW.getfield hX fl_X7_13 dX7_count_100 rfl rfl ?_
            refine PW.iconst (v := nI 3) hX dX7_count_103 (by decide) ?_
            refine PW.iaload (k := 3) hX dX7_count_104 rfl rfl rfl (by decide) ?_
            refine PW.top (show _ = nI (plsp P) from congrArg nI p3) ?_
            refine PW.iret hX hR dX7_count_105 rfl rfl ?_
            exact ⟨rfl, rfl⟩
          · rw [if_neg y4]
            by_cases y5 : x = nI 5
            · rw [if_pos y5]
              subst y5
              refine PM.start (Or.inl (by decide +kernel)) rfl rfl rfl ?_
              intro X hX hR hx hin
              refine PW.iload_n hX dX7_count_0 rfl rfl ?_
              refine PW.tableIn (off := 105) (tgt := 106) hX dX7_count_1 (by decide) (by decide) (by decide) (by decide) ?_
              refine PW.aload_n hX dX7_count_106 rfl rfl ?_
              refine PW.getfield hX fl_X7_166 dX7_count_107 rfl rfl ?_
              refine PW.iret hX hR dX7_count_110 rfl rfl ?_
              exact ⟨rfl, rfl⟩
            · rw [if_neg y5]
              by_cases y6 : x = nI 6
              · rw [if_pos y6]
                subst y6
                refine PM.start (Or.inl (by decide +kernel)) rfl rfl rfl ?_
                intro X hX hR hx hin
                refine PW.iload_n hX dX7_count_0 rfl rfl ?_
                refine PW.tableIn (off := 110) (tgt := 111) hX dX7_count_1 (by decide) (by decide) (by decide) (by decide) ?_
                refine PW.aload_n hX dX7_count_111 rfl rfl ?_
                refine PW.getfield hX fl_X7_68 dX7_count_112 rfl rfl ?_
                refine PW.iret hX hR dX7_count_115 rfl rfl ?_
                exact ⟨rfl, rfl⟩
              · rw [if_neg y6]
                have hsw := sw_out (y := x) (n := 6) (by decide) (fun k hk => by rcases (show k = 0 ∨ k = 1 ∨ k = 2 ∨ k = 3 ∨ k = 4 ∨ k = 5 ∨ k = 6 by omega) with rfl | rfl | rfl | rfl | rfl | rfl | rfl <;> assumption)
                by_cases hr : x < nI 11 ∨ nI 16 < x
                · have e : rfI (mrf M) (x - nI 10) = -9 := rfI_out (mrf M) (fun k k1 k6 q => by
                    rw [q, nI_ltI (by omega) (by decide), nI_ltI (by decide) (by omega)] at hr
                    omega)
                  rw [e]
                  refine PM.start (Or.inl (by decide +kernel)) rfl rfl rfl ?_
                  intro X hX hR hx hin
                  refine PW.iload_n hX dX7_count_0 rfl rfl ?_
                  refine PW.tableOut (tgt := 116) hX dX7_count_1 hsw (by decide) ?_
                  refine PW.iload_n hX dX7_count_116 rfl rfl ?_
                  refine PW.bipush (v := nI 11) hX dX7_count_117 (by decide) ?_
                  refine PW.icmp_lt (tgt := 140) hX dX7_count_119 (by decide) (fun c119 => ?_) (fun c119 => ?_)
                  · refine PW.bipush (v := (-9)) hX dX7_count_140 (by decide) ?_
                    refine PW.iret hX hR dX7_count_142 rfl rfl ?_
                    exact ⟨rfl, rfl⟩
                  · refine PW.iload_n hX dX7_count_122 rfl rfl ?_
                    refine PW.bipush (v := nI 16) hX dX7_count_123 (by decide) ?_
                    refine PW.icmp_gt (tgt := 140) hX dX7_count_125 (by decide) (fun c125 => ?_) (fun c125 => ?_)
                    · refine PW.bipush (v := (-9)) hX dX7_count_140 (by decide) ?_
                      refine PW.iret hX hR dX7_count_142 rfl rfl ?_
                      exact ⟨rfl, rfl⟩
                    · exact absurd hr (fun q => q.elim c119 (i32_nlt.mpr (i32_nlt.mp (fun q => c125 q)))) -- CLOSED
                · have x0 : ¬ x < 0 := fun q => hr (Or.inl (Int32.lt_of_lt_of_le q (by decide)))
                  obtain ⟨k, hk, rfl⟩ := nI_of x0
                  rw [nI_ltI hk (by decide), nI_ltI (by decide) hk] at hr
                  obtain ⟨j, rfl⟩ : ∃ j, k = j + 10 := ⟨k - 10, by omega⟩
                  rw [rfI_in (mrf M) (show 1 ≤ j by omega) (by omega)]
                  refine PM.start (Or.inl (by decide +kernel)) rfl rfl rfl ?_
                  intro X hX hR hx hin
                  refine PW.iload_n hX dX7_count_0 rfl rfl ?_
                  refine PW.tableOut (tgt := 116) hX dX7_count_1 hsw (by decide) ?_
                  refine PW.iload_n hX dX7_count_116 rfl rfl ?_
                  refine PW.bipush (v := nI 11) hX dX7_count_117 (by decide) ?_
                  refine PW.icmp_lt (tgt := 140) hX dX7_count_119 (by decide) (fun c119 => ?_) (fun c119 => ?_)
                  · try rw [nI_ltI (by omega) (by omega)] at c119
                    exfalso; omega -- CLOSED
                  · try rw [nI_ltI (by omega) (by omega)] at c119
                    refine PW.iload_n hX dX7_count_122 rfl rfl ?_
                    refine PW.bipush (v := nI 16) hX dX7_count_123 (by decide) ?_
                    refine PW.icmp_gt (tgt := 140) hX dX7_count_125 (by decide) (fun c125 => ?_) (fun c125 => ?_)
                    · try rw [nI_ltI (by omega) (by omega)] at c125
                      exfalso; omega -- CLOSED
                    · try rw [nI_ltI (by omega) (by omega)] at c125
                      refine PW.aload_n hX dX7_count_128 rfl rfl ?_
                      refine PW.getfield hX fl_X7_1 dX7_count_129 rfl rfl ?_
                      refine PW.iload_n hX dX7_count_132 rfl rfl ?_
                      refine PW.bipush (v := nI 10) hX dX7_count_133 (by decide) ?_
                      refine PW.isub hX dX7_count_135 ?_
                      refine PW.top (show nI (j + 10) - nI 10 = nI j by rw [pk_sub (by omega)]; congr 1) ?_
                      refine PW.iaload (k := j) hX dX7_count_136 rfl rfl rfl (by omega) ?_
                      refine PW.goto (tgt := 142) hX dX7_count_137 (by decide) ?_
                      refine PW.iret hX hR dX7_count_142 rfl rfl ?_
                      exact ⟨rfl, rfl⟩
theorem iincP (k : Nat) : nI k + Int32.ofInt (-1) = nI k - nI 1 := by
  rw [Int32.sub_eq_add_neg, show Int32.ofInt (-1) = -nI 1 by decide]
def qJudge (D : Dy) (M M' : Md) : Int32 × Md := (oI (jdL D (mli M) (mln M) 0), sE M' (mli M, 0, mwy M))
theorem pm_mjudge (M : Md) (C : MC) (P : Pl) (D : Dy) (pr : PR P (mno M)) (ok : PlOk P) (dk : DyOk P D 100) (df : DF P D 100) (cr : CRl D C) (di : DIn P D) (h3 : ∀ j, j < 80 → mno M j < 100) (cG : PM mu_X7_goTo 3 0 0 [.ref 0, .int (nI 99)] (mdB M) (eqP none (mdB (sC M C)))) (hn : mln M ≤ 20) (hv : ∀ i, i < mln M → mli M i < 100) : PM mu_X7_judge 4 0 0 [.ref 0] (mdB M) (eqP (some (.int (qJudge D M (sC M C)).1)) (mdB (qJudge D M (sC M C)).2)) := by
  unfold qJudge
  obtain ⟨r1, r2, r3, r4, r5⟩ := cr
  have n1 := dk.2.2.1
  have dv := dk.2.2.2.1
  refine PM.start (Or.inl (by decide +kernel)) rfl rfl rfl ?_
  intro X hX hR hx hin
  have loop : ∀ t, t ≤ mln M → PW X 16 [some (.ref 0), some (.int (oI (jdL D (mli M) (mln M - t) t))), some (.int (nI t - nI 1))] [] (mdB (sC M C)) 0 0 := by
    intro t
    induction t with
    | zero =>
      intro _
      refine PW.iload_n hX dX7_judge_16 rfl rfl ?_
      refine PW.if_lt (tgt := 55) hX dX7_judge_17 (by decide) (fun c17 => ?_) (fun c17 => ?_)
      · refine PW.aload_n hX dX7_judge_55 rfl rfl ?_
        refine PW.iconst (v := nI 0) hX dX7_judge_56 (by decide) ?_
        refine PW.putI hX fp_X7_166 dX7_judge_57 rfl rfl ?_
        refine PW.iload_n hX dX7_judge_60 rfl rfl ?_
        refine PW.iret hX hR dX7_judge_61 rfl rfl ?_
        exact ⟨rfl, rfl⟩
      · exact absurd (by decide) c17 -- CLOSED
    | succ t ih =>
      intro ht
      have nx := ih (by omega)
      have bv := hv t (by omega)
      have e : mln M - t = (mln M - (t + 1)) + 1 := by omega
      rw [e, jdL, sOut_nI n1 (by omega)] at nx
      generalize jdL D (mli M) (mln M - (t + 1)) (t + 1) = z at nx ⊢
      rw [show nI (t + 1) - nI 1 = nI t from pk_sub (a := t + 1) (b := 1) (by omega)]
      have h48 : ∀ v, (if (if t < dyn D then some (dyos D t) else none) = some (mli M t) then z else some t) = v → PW X 48 [some (.ref 0), some (.int (oI z)), some (.int (nI t))] [.int (oI v)] (mdB (sC M C)) 0 0 := by
        rintro v rfl
        refine PW.istore_n hX dX7_judge_48 rfl rfl ?_
        refine PW.iinc (v := nI t - nI 1) hX dX7_judge_49 rfl (iincP t) ?_
        refine PW.goto (tgt := 16) hX dX7_judge_52 (by decide) ?_
        exact nx
      by_cases hk : t < dyn D
      · obtain ⟨q1, q2⟩ := r2 t hk
        have hs := isSh_lt ok (dv t hk).1
        rw [if_pos hk] at h48
        refine PW.iload_n hX dX7_judge_16 rfl rfl ?_
        refine PW.if_lt (tgt := 55) hX dX7_judge_17 (by decide) (fun c17 => ?_) (fun c17 => ?_)
        · try rw [nI_lt0 (by omega)] at c17
          exact c17.elim -- CLOSED
        · try rw [nI_lt0 (by omega)] at c17
          refine PW.iload_n hX dX7_judge_20 rfl rfl ?_
          refine PW.aload_n hX dX7_judge_21 rfl rfl ?_
          refine PW.getfield hX fl_X7_113 dX7_judge_22 rfl rfl ?_
          refine PW.top (show _ = nI (dyn D) from congrArg nI r1) ?_
          refine PW.icmp_ge (tgt := 43) hX dX7_judge_25 (by decide) (fun c25 => ?_) (fun c25 => ?_)
          · try rw [nI_leI (by omega) (by omega)] at c25
            exfalso; omega -- CLOSED
          · try rw [nI_leI (by omega) (by omega)] at c25
            refine PW.aload_n hX dX7_judge_28 rfl rfl ?_
            refine PW.getfield hX fl_X7_38 dX7_judge_29 rfl rfl ?_
            refine PW.iload_n hX dX7_judge_32 rfl rfl ?_
            refine PW.iaload (k := t) hX dX7_judge_33 rfl rfl rfl (by omega) ?_
            refine PW.top (show _ = nI (dyos D t) from congrArg nI q1) ?_
            refine PW.aload_n hX dX7_judge_34 rfl rfl ?_
            refine PW.getfield hX fl_X7_54 dX7_judge_35 rfl rfl ?_
            refine PW.iload_n hX dX7_judge_38 rfl rfl ?_
            refine PW.iaload (k := t) hX dX7_judge_39 rfl rfl rfl (by omega) ?_
            refine PW.top (show _ = nI (mli M t) from rfl) ?_
            refine PW.icmp_eq (tgt := 47) hX dX7_judge_40 (by decide) (fun c40 => ?_) (fun c40 => ?_)
            · first | rw [nI_eq (by omega) (by omega)] at c40 | rw [oI_eq9] at c40 | skip
              refine PW.iload_n hX dX7_judge_47 rfl rfl ?_
              exact h48 z (if_pos (congrArg some c40))
            · first | rw [nI_eq (by omega) (by omega)] at c40 | rw [oI_eq9] at c40 | skip
              refine PW.iload_n hX dX7_judge_43 rfl rfl ?_
              refine PW.goto (tgt := 48) hX dX7_judge_44 (by decide) ?_
              exact h48 (some t) (if_neg (fun q => c40 (Option.some.inj q)))
      · rw [if_neg hk] at h48
        refine PW.iload_n hX dX7_judge_16 rfl rfl ?_
        refine PW.if_lt (tgt := 55) hX dX7_judge_17 (by decide) (fun c17 => ?_) (fun c17 => ?_)
        · try rw [nI_lt0 (by omega)] at c17
          exact c17.elim -- CLOSED
        · try rw [nI_lt0 (by omega)] at c17
          refine PW.iload_n hX dX7_judge_20 rfl rfl ?_
          refine PW.aload_n hX dX7_judge_21 rfl rfl ?_
          refine PW.getfield hX fl_X7_113 dX7_judge_22 rfl rfl ?_
          refine PW.top (show _ = nI (dyn D) from congrArg nI r1) ?_
          refine PW.icmp_ge (tgt := 43) hX dX7_judge_25 (by decide) (fun c25 => ?_) (fun c25 => ?_)
          · try rw [nI_leI (by omega) (by omega)] at c25
            refine PW.iload_n hX dX7_judge_43 rfl rfl ?_
            refine PW.goto (tgt := 48) hX dX7_judge_44 (by decide) ?_
            exact h48 (some t) (if_neg (fun q => by cases q))
          · try rw [nI_leI (by omega) (by omega)] at c25
            exfalso; omega -- CLOSED
  have nx := loop (mln M) (Nat.le_refl _)
  rw [Nat.sub_self] at nx
  refine PW.aload_n hX dX7_judge_0 rfl rfl ?_
  refine PW.bipush (v := nI 99) hX dX7_judge_1 (by decide) ?_
  refine PW.vVi hX ml_X7_147 (cG) dX7_judge_3 17 rfl rfl rfl rfl rfl rfl rfl rfl rfl rfl rfl rfl rfl rfl rfl ?_
  refine PW.bipush (v := (-9)) hX dX7_judge_6 (by decide) ?_
  refine PW.istore_n hX dX7_judge_8 rfl rfl ?_
  refine PW.aload_n hX dX7_judge_9 rfl rfl ?_
  refine PW.getfield hX fl_X7_166 dX7_judge_10 rfl rfl ?_
  refine PW.iconst (v := nI 1) hX dX7_judge_13 (by decide) ?_
  refine PW.isub hX dX7_judge_14 ?_
  refine PW.istore_n hX dX7_judge_15 rfl rfl ?_
  exact nx
theorem addIf_f (x s : Int32) : s + nI 0 = addIf false x s := Int32.add_zero s
theorem addIf_t (x s : Int32) : s + x = addIf true x s := rfl
theorem pm_mtog (M : Md) (hn : mln M ≤ 20) (hv : ∀ i, i < mln M → mli M i < 100) (a b c : Nat) (ha : a < 10) (hb : b < 10) (hc : c < 10) : PM mu_X7_together 0 0 0 [.ref 0, .int (nI a), .int (nI b), .int (nI c)] (mdB M) (eqP (some (.int (wRes (mli M) (mln M) a b c (mwy M)))) (mdB (sE M (mli M, mln M, wAll (mli M) (mln M) a b c (mwy M))))) := by
  obtain ⟨MA', MB'', C, li, ln, wy⟩ := M
  have hn : ln ≤ 20 := hn
  have hv : ∀ i, i < ln → li i < 100 := hv
  show PM mu_X7_together 0 0 0 [.ref 0, .int (nI a), .int (nI b), .int (nI c)] (mdB (MA', MB'', C, li, ln, wy)) (eqP (some (.int (wRes li ln a b c wy))) (mdB (MA', MB'', C, li, ln, wAll li ln a b c wy)))
  by_cases hs : a + b + c = ln
  · have e1 : wRes li ln a b c wy = wI li b c wy (a + 1) (atN a b c) := by unfold wRes; rw [if_pos hs]
    have e2 : wAll li ln a b c wy = wI li b c wy (a + 1) := by unfold wAll; rw [if_pos hs]
    rw [e1, e2]
    refine PM.start (Or.inl (by decide +kernel)) rfl rfl rfl ?_
    intro X hX hR hx hin
    have loop3 : ∀ n i j k : Nat, i ≤ a → j ≤ b → k ≤ c + 1 → c + 1 < k + n → ∀ w : Nat → Int32, (PW X 249 [some (.ref 0), some (.int (nI a)), some (.int (nI b)), some (.int (nI c)), some (.int (nI i)), some (.int (nI j)), none, none, none] [] (mdB (MA', MB'', C, li, ln, wK li i j w (c + 1))) 0 0) → PW X 35 [some (.ref 0), some (.int (nI a)), some (.int (nI b)), some (.int (nI c)), some (.int (nI i)), some (.int (nI j)), some (.int (nI k)), none, none] [] (mdB (MA', MB'', C, li, ln, wK li i j w k)) 0 0 := by
      intro n
      induction n with
      | zero => intro i j k h1 h2 h3 h4; exact absurd h4 (by omega)
      | succ n ih =>
        intro i j k h1 h2 h3 h4 w hw
        by_cases hk : k = c + 1
        · subst hk
          refine PW.iload hX dX7_together_35 rfl ?_
          refine PW.iload_n hX dX7_together_37 rfl rfl ?_
          refine PW.icmp_gt (tgt := 249) hX dX7_together_38 (by decide) (fun c38 => ?_) (fun c38 => ?_)
          · try rw [nI_ltI (by omega) (by omega)] at c38
            refine PW.clr 6 ?_
            exact hw
          · try rw [nI_ltI (by omega) (by omega)] at c38
            exfalso; omega -- CLOSED
        · have nx := ih i j (k + 1) h1 h2 (by omega) (by omega) w hw
          rw [wK] at nx
          have hat : atN i j k < 1000 := by unfold atN; omega
          generalize wK li i j w k = w' at nx ⊢
          have ei : 0 < i → atN (i - 1) j k < 1000 := by intro h; unfold atN; omega
          have ej : 0 < j → atN i (j - 1) k < 1000 := by intro h; unfold atN; omega
          have ek : 0 < k → atN i j (k - 1) < 1000 := by intro h; unfold atN; omega
          have xi : 0 < i → 100 * i - 100 + 10 * j + k = atN (i - 1) j k := by intro h; unfold atN; omega
          have xj : 0 < j → 100 * i + 10 * j - 10 + k = atN i (j - 1) k := by intro h; unfold atN; omega
          have xk : 0 < k → 100 * i + 10 * j + k - 1 = atN i j (k - 1) := by intro h; unfold atN; omega
          have xx : 100 * i + 10 * j + k = atN i j k := by unfold atN; omega
          have h222 : ∀ v : Int32, v = wT li w' i j k → ∀ z8, PW X 222 [some (.ref 0), some (.int (nI a)), some (.int (nI b)), some (.int (nI c)), some (.int (nI i)), some (.int (nI j)), some (.int (nI k)), some (.int v), z8] [] (mdB (MA', MB'', C, li, ln, w')) 0 0 := by
            rintro v rfl z8
            refine PW.aload_n hX dX7_together_222 rfl rfl ?_
            refine PW.getfield hX fl_X7_57 dX7_together_223 rfl rfl ?_
            refine PW.bipush (v := nI 100) hX dX7_together_226 (by decide) ?_
            refine PW.iload hX dX7_together_228 rfl ?_
            refine PW.imul hX dX7_together_230 ?_
            refine PW.bipush (v := nI 10) hX dX7_together_231 (by decide) ?_
            refine PW.iload hX dX7_together_233 rfl ?_
            refine PW.imul hX dX7_together_235 ?_
            refine PW.iadd hX dX7_together_236 ?_
            refine PW.iload hX dX7_together_237 rfl ?_
            refine PW.iadd hX dX7_together_239 ?_
            refine PW.top (show nI 100 * nI i + nI 10 * nI j + nI k = nI (atN i j k) by rw [pk_mul, pk_mul, nI_add, nI_add, xx]) ?_
            refine PW.iload hX dX7_together_240 rfl ?_
            refine PW.iastore hX dX7_together_242 rfl rfl rfl hat ?_
            first | refine PW.iinc hX dX7_together_243 rfl (iincN _) ?_ | refine PW.iinc hX dX7_together_243 rfl rfl ?_
            refine PW.goto (tgt := 35) hX dX7_together_246 (by decide) ?_
            refine PW.clr 7 (PW.clr 8 ?_)
            exact nx
          by_cases hz : i + j + k = 0
          · have i0 : i = 0 := by omega
            have j0 : j = 0 := by omega
            have k0 : k = 0 := by omega
            have n2 := h222 (nI 1) (by unfold wT; rw [if_pos hz])
            refine PW.iload hX dX7_together_35 rfl ?_
            refine PW.iload_n hX dX7_together_37 rfl rfl ?_
            refine PW.icmp_gt (tgt := 249) hX dX7_together_38 (by decide) (fun c38 => ?_) (fun c38 => ?_)
            · try rw [nI_ltI (by omega) (by omega)] at c38
              exfalso; omega -- CLOSED
            · try rw [nI_ltI (by omega) (by omega)] at c38
              refine PW.iload hX dX7_together_41 rfl ?_
              refine PW.iload hX dX7_together_43 rfl ?_
              refine PW.iadd hX dX7_together_45 ?_
              refine PW.iload hX dX7_together_46 rfl ?_
              refine PW.iadd hX dX7_together_48 ?_
              refine PW.top (show nI i + nI j + nI k = nI (i + j + k) by rw [nI_add, nI_add]) ?_
              refine PW.if_ne (tgt := 56) hX dX7_together_49 (by decide) (fun c49 => ?_) (fun c49 => ?_)
              · first | rw [bI_d0] at c49 | rw [bI_eq0] at c49 | rw [nI_eq0 (by omega)] at c49 | skip
                exfalso; omega -- CLOSED
              · first | rw [bI_d0] at c49 | rw [bI_eq0] at c49 | rw [nI_eq0 (by omega)] at c49 | skip
                refine PW.iconst (v := nI 1) hX dX7_together_52 (by decide) ?_
                refine PW.goto (tgt := 57) hX dX7_together_53 (by decide) ?_
                refine PW.istore hX dX7_together_57 rfl ?_
                refine PW.iload hX dX7_together_59 rfl ?_
                refine PW.iload hX dX7_together_61 rfl ?_
                refine PW.iadd hX dX7_together_63 ?_
                refine PW.iload hX dX7_together_64 rfl ?_
                refine PW.iadd hX dX7_together_66 ?_
                refine PW.top (show nI i + nI j + nI k = nI (i + j + k) by rw [nI_add, nI_add]) ?_
                refine PW.if_ne (tgt := 74) hX dX7_together_67 (by decide) (fun c67 => ?_) (fun c67 => ?_)
                · first | rw [bI_d0] at c67 | rw [bI_eq0] at c67 | rw [nI_eq0 (by omega)] at c67 | skip
                  exfalso; omega -- CLOSED
                · first | rw [bI_d0] at c67 | rw [bI_eq0] at c67 | rw [nI_eq0 (by omega)] at c67 | skip
                  refine PW.iconst (v := nI 0) hX dX7_together_70 (by decide) ?_
                  refine PW.goto (tgt := 92) hX dX7_together_71 (by decide) ?_
                  refine PW.istore hX dX7_together_92 rfl ?_
                  refine PW.iload hX dX7_together_94 rfl ?_
                  refine PW.iload hX dX7_together_96 rfl ?_
                  refine PW.if_le (tgt := 133) hX dX7_together_98 (by decide) (fun c98 => ?_) (fun c98 => ?_)
                  · try rw [nI_le0 (by omega)] at c98
                    refine PW.iconst (v := nI 0) hX dX7_together_133 (by decide) ?_
                    refine PW.iadd hX dX7_together_134 ?_
                    refine PW.istore hX dX7_together_135 rfl ?_
                    refine PW.iload hX dX7_together_137 rfl ?_
                    refine PW.iload hX dX7_together_139 rfl ?_
                    refine PW.if_le (tgt := 176) hX dX7_together_141 (by decide) (fun c141 => ?_) (fun c141 => ?_)
                    · try rw [nI_le0 (by omega)] at c141
                      refine PW.iconst (v := nI 0) hX dX7_together_176 (by decide) ?_
                      refine PW.iadd hX dX7_together_177 ?_
                      refine PW.istore hX dX7_together_178 rfl ?_
                      refine PW.iload hX dX7_together_180 rfl ?_
                      refine PW.iload hX dX7_together_182 rfl ?_
                      refine PW.if_le (tgt := 218) hX dX7_together_184 (by decide) (fun c184 => ?_) (fun c184 => ?_)
                      · try rw [nI_le0 (by omega)] at c184
                        refine PW.iconst (v := nI 0) hX dX7_together_218 (by decide) ?_
                        refine PW.iadd hX dX7_together_219 ?_
                        refine PW.istore hX dX7_together_220 rfl ?_
                        exact n2 _
                      · try rw [nI_le0 (by omega)] at c184
                        exfalso; omega -- CLOSED
                    · try rw [nI_le0 (by omega)] at c141
                      exfalso; omega -- CLOSED
                  · try rw [nI_le0 (by omega)] at c98
                    exfalso; omega -- CLOSED
          · have bd := hv (i + j + k - 1) (by omega)
            have hwT : wT li w' i j k = addIf (decide (0 < k ∧ li (i + j + k - 1) % 10 = k)) (w' (atN i j (k - 1))) (addIf (decide (0 < j ∧ li (i + j + k - 1) % 10 = j)) (w' (atN i (j - 1) k)) (addIf (decide (0 < i ∧ li (i + j + k - 1) % 10 = i)) (w' (atN (i - 1) j k)) (nI 0))) := by unfold wT; rw [if_neg hz]
            generalize hd : li (i + j + k - 1) % 10 = d at hwT
            have hd10 : d < 10 := by omega
            have h180 : ∀ s : Int32, s = addIf (decide (0 < j ∧ d = j)) (w' (atN i (j - 1) k)) (addIf (decide (0 < i ∧ d = i)) (w' (atN (i - 1) j k)) (nI 0)) → PW X 180 [some (.ref 0), some (.int (nI a)), some (.int (nI b)), some (.int (nI c)), some (.int (nI i)), some (.int (nI j)), some (.int (nI k)), some (.int s), some (.int (nI d))] [] (mdB (MA', MB'', C, li, ln, w')) 0 0 := by
              intro s hs
              rw [← hs] at hwT
              refine PW.iload hX dX7_together_180 rfl ?_
              refine PW.iload hX dX7_together_182 rfl ?_
              refine PW.if_le (tgt := 218) hX dX7_together_184 (by decide) (fun c184 => ?_) (fun c184 => ?_)
              · try rw [nI_le0 (by omega)] at c184
                refine PW.iconst (v := nI 0) hX dX7_together_218 (by decide) ?_
                refine PW.iadd hX dX7_together_219 ?_
                refine PW.istore hX dX7_together_220 rfl ?_
                exact h222 _ (by rw [hwT, decide_eq_false (by omega), ← addIf_f]) _
              · try rw [nI_le0 (by omega)] at c184
                refine PW.iload hX dX7_together_187 rfl ?_
                refine PW.iload hX dX7_together_189 rfl ?_
                refine PW.icmp_ne (tgt := 218) hX dX7_together_191 (by decide) (fun c191 => ?_) (fun c191 => ?_)
                · first | rw [nI_eq (by omega) (by omega)] at c191 | rw [oI_eq9] at c191 | skip
                  refine PW.iconst (v := nI 0) hX dX7_together_218 (by decide) ?_
                  refine PW.iadd hX dX7_together_219 ?_
                  refine PW.istore hX dX7_together_220 rfl ?_
                  exact h222 _ (by rw [hwT, decide_eq_false (by omega), ← addIf_f]) _
                · first | rw [nI_eq (by omega) (by omega)] at c191 | rw [oI_eq9] at c191 | skip
                  refine PW.aload_n hX dX7_together_194 rfl rfl ?_
                  refine PW.getfield hX fl_X7_57 dX7_together_195 rfl rfl ?_
                  refine PW.bipush (v := nI 100) hX dX7_together_198 (by decide) ?_
                  refine PW.iload hX dX7_together_200 rfl ?_
                  refine PW.imul hX dX7_together_202 ?_
                  refine PW.bipush (v := nI 10) hX dX7_together_203 (by decide) ?_
                  refine PW.iload hX dX7_together_205 rfl ?_
                  refine PW.imul hX dX7_together_207 ?_
                  refine PW.iadd hX dX7_together_208 ?_
                  refine PW.iload hX dX7_together_209 rfl ?_
                  refine PW.iadd hX dX7_together_211 ?_
                  refine PW.iconst (v := nI 1) hX dX7_together_212 (by decide) ?_
                  refine PW.isub hX dX7_together_213 ?_
                  refine PW.top (show nI 100 * nI i + nI 10 * nI j + nI k - nI 1 = nI (atN i j (k - 1)) by rw [pk_mul, pk_mul, nI_add, nI_add, pk_sub (by omega), xk (by omega)]) ?_
                  refine PW.iaload hX dX7_together_214 rfl rfl rfl (ek (by omega)) ?_
                  refine PW.goto (tgt := 219) hX dX7_together_215 (by decide) ?_
                  refine PW.iadd hX dX7_together_219 ?_
                  refine PW.istore hX dX7_together_220 rfl ?_
                  exact h222 _ (by rw [hwT, decide_eq_true ⟨by omega, c191⟩]; rfl) _
            have h137 : ∀ s : Int32, s = addIf (decide (0 < i ∧ d = i)) (w' (atN (i - 1) j k)) (nI 0) → PW X 137 [some (.ref 0), some (.int (nI a)), some (.int (nI b)), some (.int (nI c)), some (.int (nI i)), some (.int (nI j)), some (.int (nI k)), some (.int s), some (.int (nI d))] [] (mdB (MA', MB'', C, li, ln, w')) 0 0 := by
              intro s hs
              rw [← hs] at h180
              refine PW.iload hX dX7_together_137 rfl ?_
              refine PW.iload hX dX7_together_139 rfl ?_
              refine PW.if_le (tgt := 176) hX dX7_together_141 (by decide) (fun c141 => ?_) (fun c141 => ?_)
              · try rw [nI_le0 (by omega)] at c141
                refine PW.iconst (v := nI 0) hX dX7_together_176 (by decide) ?_
                refine PW.iadd hX dX7_together_177 ?_
                refine PW.istore hX dX7_together_178 rfl ?_
                exact h180 _ (by rw [decide_eq_false (by omega), ← addIf_f])
              · try rw [nI_le0 (by omega)] at c141
                refine PW.iload hX dX7_together_144 rfl ?_
                refine PW.iload hX dX7_together_146 rfl ?_
                refine PW.icmp_ne (tgt := 176) hX dX7_together_148 (by decide) (fun c148 => ?_) (fun c148 => ?_)
                · first | rw [nI_eq (by omega) (by omega)] at c148 | rw [oI_eq9] at c148 | skip
                  refine PW.iconst (v := nI 0) hX dX7_together_176 (by decide) ?_
                  refine PW.iadd hX dX7_together_177 ?_
                  refine PW.istore hX dX7_together_178 rfl ?_
                  exact h180 _ (by rw [decide_eq_false (by omega), ← addIf_f])
                · first | rw [nI_eq (by omega) (by omega)] at c148 | rw [oI_eq9] at c148 | skip
                  refine PW.aload_n hX dX7_together_151 rfl rfl ?_
                  refine PW.getfield hX fl_X7_57 dX7_together_152 rfl rfl ?_
                  refine PW.bipush (v := nI 100) hX dX7_together_155 (by decide) ?_
                  refine PW.iload hX dX7_together_157 rfl ?_
                  refine PW.imul hX dX7_together_159 ?_
                  refine PW.bipush (v := nI 10) hX dX7_together_160 (by decide) ?_
                  refine PW.iload hX dX7_together_162 rfl ?_
                  refine PW.imul hX dX7_together_164 ?_
                  refine PW.iadd hX dX7_together_165 ?_
                  refine PW.bipush (v := nI 10) hX dX7_together_166 (by decide) ?_
                  refine PW.isub hX dX7_together_168 ?_
                  refine PW.iload hX dX7_together_169 rfl ?_
                  refine PW.iadd hX dX7_together_171 ?_
                  refine PW.top (show nI 100 * nI i + nI 10 * nI j - nI 10 + nI k = nI (atN i (j - 1) k) by rw [pk_mul, pk_mul, nI_add, pk_sub (by omega), nI_add, xj (by omega)]) ?_
                  refine PW.iaload hX dX7_together_172 rfl rfl rfl (ej (by omega)) ?_
                  refine PW.goto (tgt := 177) hX dX7_together_173 (by decide) ?_
                  refine PW.iadd hX dX7_together_177 ?_
                  refine PW.istore hX dX7_together_178 rfl ?_
                  exact h180 _ (by rw [decide_eq_true ⟨by omega, c148⟩]; rfl)
            refine PW.iload hX dX7_together_35 rfl ?_
            refine PW.iload_n hX dX7_together_37 rfl rfl ?_
            refine PW.icmp_gt (tgt := 249) hX dX7_together_38 (by decide) (fun c38 => ?_) (fun c38 => ?_)
            · try rw [nI_ltI (by omega) (by omega)] at c38
              exfalso; omega -- CLOSED
            · try rw [nI_ltI (by omega) (by omega)] at c38
              refine PW.iload hX dX7_together_41 rfl ?_
              refine PW.iload hX dX7_together_43 rfl ?_
              refine PW.iadd hX dX7_together_45 ?_
              refine PW.iload hX dX7_together_46 rfl ?_
              refine PW.iadd hX dX7_together_48 ?_
              refine PW.top (show nI i + nI j + nI k = nI (i + j + k) by rw [nI_add, nI_add]) ?_
              refine PW.if_ne (tgt := 56) hX dX7_together_49 (by decide) (fun c49 => ?_) (fun c49 => ?_)
              · first | rw [bI_d0] at c49 | rw [bI_eq0] at c49 | rw [nI_eq0 (by omega)] at c49 | skip
                refine PW.iconst (v := nI 0) hX dX7_together_56 (by decide) ?_
                refine PW.istore hX dX7_together_57 rfl ?_
                refine PW.iload hX dX7_together_59 rfl ?_
                refine PW.iload hX dX7_together_61 rfl ?_
                refine PW.iadd hX dX7_together_63 ?_
                refine PW.iload hX dX7_together_64 rfl ?_
                refine PW.iadd hX dX7_together_66 ?_
                refine PW.top (show nI i + nI j + nI k = nI (i + j + k) by rw [nI_add, nI_add]) ?_
                refine PW.if_ne (tgt := 74) hX dX7_together_67 (by decide) (fun c67 => ?_) (fun c67 => ?_)
                · first | rw [bI_d0] at c67 | rw [bI_eq0] at c67 | rw [nI_eq0 (by omega)] at c67 | skip
                  refine PW.aload_n hX dX7_together_74 rfl rfl ?_
                  refine PW.getfield hX fl_X7_54 dX7_together_75 rfl rfl ?_
                  refine PW.iload hX dX7_together_78 rfl ?_
                  refine PW.iload hX dX7_together_80 rfl ?_
                  refine PW.iadd hX dX7_together_82 ?_
                  refine PW.iload hX dX7_together_83 rfl ?_
                  refine PW.iadd hX dX7_together_85 ?_
                  refine PW.iconst (v := nI 1) hX dX7_together_86 (by decide) ?_
                  refine PW.isub hX dX7_together_87 ?_
                  refine PW.top (show nI i + nI j + nI k - nI 1 = nI (i + j + k - 1) by rw [nI_add, nI_add, pk_sub (by omega)]) ?_
                  refine PW.iaload (k := i + j + k - 1) hX dX7_together_88 rfl rfl rfl (by omega) ?_
                  refine PW.top (show _ = nI (li (i + j + k - 1)) from rfl) ?_
                  refine PW.bipush (v := nI 10) hX dX7_together_89 (by decide) ?_
                  refine PW.irem hX dX7_together_91 (by decide) ?_
                  refine PW.top (show _ = nI d by rw [rem10 (by omega), hd]) ?_
                  refine PW.istore hX dX7_together_92 rfl ?_
                  refine PW.iload hX dX7_together_94 rfl ?_
                  refine PW.iload hX dX7_together_96 rfl ?_
                  refine PW.if_le (tgt := 133) hX dX7_together_98 (by decide) (fun c98 => ?_) (fun c98 => ?_)
                  · try rw [nI_le0 (by omega)] at c98
                    refine PW.iconst (v := nI 0) hX dX7_together_133 (by decide) ?_
                    refine PW.iadd hX dX7_together_134 ?_
                    refine PW.istore hX dX7_together_135 rfl ?_
                    exact h137 _ (by rw [decide_eq_false (by omega), ← addIf_f])
                  · try rw [nI_le0 (by omega)] at c98
                    refine PW.iload hX dX7_together_101 rfl ?_
                    refine PW.iload hX dX7_together_103 rfl ?_
                    refine PW.icmp_ne (tgt := 133) hX dX7_together_105 (by decide) (fun c105 => ?_) (fun c105 => ?_)
                    · first | rw [nI_eq (by omega) (by omega)] at c105 | rw [oI_eq9] at c105 | skip
                      refine PW.iconst (v := nI 0) hX dX7_together_133 (by decide) ?_
                      refine PW.iadd hX dX7_together_134 ?_
                      refine PW.istore hX dX7_together_135 rfl ?_
                      exact h137 _ (by rw [decide_eq_false (by omega), ← addIf_f])
                    · first | rw [nI_eq (by omega) (by omega)] at c105 | rw [oI_eq9] at c105 | skip
                      refine PW.aload_n hX dX7_together_108 rfl rfl ?_
                      refine PW.getfield hX fl_X7_57 dX7_together_109 rfl rfl ?_
                      refine PW.bipush (v := nI 100) hX dX7_together_112 (by decide) ?_
                      refine PW.iload hX dX7_together_114 rfl ?_
                      refine PW.imul hX dX7_together_116 ?_
                      refine PW.bipush (v := nI 100) hX dX7_together_117 (by decide) ?_
                      refine PW.isub hX dX7_together_119 ?_
                      refine PW.bipush (v := nI 10) hX dX7_together_120 (by decide) ?_
                      refine PW.iload hX dX7_together_122 rfl ?_
                      refine PW.imul hX dX7_together_124 ?_
                      refine PW.iadd hX dX7_together_125 ?_
                      refine PW.iload hX dX7_together_126 rfl ?_
                      refine PW.iadd hX dX7_together_128 ?_
                      refine PW.top (show nI 100 * nI i - nI 100 + nI 10 * nI j + nI k = nI (atN (i - 1) j k) by rw [pk_mul, pk_mul, pk_sub (by omega), nI_add, nI_add, xi (by omega)]) ?_
                      refine PW.iaload hX dX7_together_129 rfl rfl rfl (ei (by omega)) ?_
                      refine PW.goto (tgt := 134) hX dX7_together_130 (by decide) ?_
                      refine PW.iadd hX dX7_together_134 ?_
                      refine PW.istore hX dX7_together_135 rfl ?_
                      exact h137 _ (by rw [decide_eq_true ⟨by omega, c105⟩]; rfl)
                · first | rw [bI_d0] at c67 | rw [bI_eq0] at c67 | rw [nI_eq0 (by omega)] at c67 | skip
                  exfalso; omega -- CLOSED
              · first | rw [bI_d0] at c49 | rw [bI_eq0] at c49 | rw [nI_eq0 (by omega)] at c49 | skip
                exfalso; omega -- CLOSED
    have loop2 : ∀ n i j : Nat, i ≤ a → j ≤ b + 1 → b + 1 < j + n → ∀ w : Nat → Int32, (PW X 255 [some (.ref 0), some (.int (nI a)), some (.int (nI b)), some (.int (nI c)), some (.int (nI i)), none, none, none, none] [] (mdB (MA', MB'', C, li, ln, wJ li c i w (b + 1))) 0 0) → PW X 26 [some (.ref 0), some (.int (nI a)), some (.int (nI b)), some (.int (nI c)), some (.int (nI i)), some (.int (nI j)), none, none, none] [] (mdB (MA', MB'', C, li, ln, wJ li c i w j)) 0 0 := by
      intro n
      induction n with
      | zero => intro i j h1 h2 h3; exact absurd h3 (by omega)
      | succ n ih =>
        intro i j h1 h2 h3 w hw
        by_cases hj : j = b + 1
        · subst hj
          refine PW.iload hX dX7_together_26 rfl ?_
          refine PW.iload_n hX dX7_together_28 rfl rfl ?_
          refine PW.icmp_gt (tgt := 255) hX dX7_together_29 (by decide) (fun c29 => ?_) (fun c29 => ?_)
          · try rw [nI_ltI (by omega) (by omega)] at c29
            refine PW.clr 5 ?_
            exact hw
          · try rw [nI_ltI (by omega) (by omega)] at c29
            exfalso; omega -- CLOSED
        · have nx := ih i (j + 1) h1 (by omega) (by omega) w hw
          rw [wJ] at nx
          generalize wJ li c i w j = w' at nx ⊢
          have h249 : PW X 249 [some (.ref 0), some (.int (nI a)), some (.int (nI b)), some (.int (nI c)), some (.int (nI i)), some (.int (nI j)), none, none, none] [] (mdB (MA', MB'', C, li, ln, wK li i j w' (c + 1))) 0 0 := by
            generalize wK li i j w' (c + 1) = w2 at nx ⊢
            first | refine PW.iinc hX dX7_together_249 rfl (iincN _) ?_ | refine PW.iinc hX dX7_together_249 rfl rfl ?_
            refine PW.goto (tgt := 26) hX dX7_together_252 (by decide) ?_
            exact nx
          have h35 := loop3 (c + 2) i j 0 h1 (by omega) (by omega) (by omega) w' h249
          rw [wK] at h35
          refine PW.iload hX dX7_together_26 rfl ?_
          refine PW.iload_n hX dX7_together_28 rfl rfl ?_
          refine PW.icmp_gt (tgt := 255) hX dX7_together_29 (by decide) (fun c29 => ?_) (fun c29 => ?_)
          · try rw [nI_ltI (by omega) (by omega)] at c29
            exfalso; omega -- CLOSED
          · try rw [nI_ltI (by omega) (by omega)] at c29
            refine PW.iconst (v := nI 0) hX dX7_together_32 (by decide) ?_
            refine PW.istore hX dX7_together_33 rfl ?_
            exact h35
    have loop1 : ∀ n i : Nat, i ≤ a + 1 → a + 1 < i + n → PW X 17 [some (.ref 0), some (.int (nI a)), some (.int (nI b)), some (.int (nI c)), some (.int (nI i)), none, none, none, none] [] (mdB (MA', MB'', C, li, ln, wI li b c wy i)) 0 0 := by
      intro n
      induction n with
      | zero => intro i h1 h2; exact absurd h2 (by omega)
      | succ n ih =>
        intro i h1 h2
        by_cases hi : i = a + 1
        · subst hi
          generalize wI li b c wy (a + 1) = w2 at hR ⊢
          have hat : atN a b c < 1000 := by unfold atN; omega
          have xx : 100 * a + 10 * b + c = atN a b c := by unfold atN; omega
          refine PW.iload hX dX7_together_17 rfl ?_
          refine PW.iload_n hX dX7_together_19 rfl rfl ?_
          refine PW.icmp_gt (tgt := 261) hX dX7_together_20 (by decide) (fun c20 => ?_) (fun c20 => ?_)
          · try rw [nI_ltI (by omega) (by omega)] at c20
            refine PW.aload_n hX dX7_together_261 rfl rfl ?_
            refine PW.getfield hX fl_X7_57 dX7_together_262 rfl rfl ?_
            refine PW.bipush (v := nI 100) hX dX7_together_265 (by decide) ?_
            refine PW.iload_n hX dX7_together_267 rfl rfl ?_
            refine PW.imul hX dX7_together_268 ?_
            refine PW.bipush (v := nI 10) hX dX7_together_269 (by decide) ?_
            refine PW.iload_n hX dX7_together_271 rfl rfl ?_
            refine PW.imul hX dX7_together_272 ?_
            refine PW.iadd hX dX7_together_273 ?_
            refine PW.iload_n hX dX7_together_274 rfl rfl ?_
            refine PW.iadd hX dX7_together_275 ?_
            refine PW.top (show nI 100 * nI a + nI 10 * nI b + nI c = nI (atN a b c) by rw [pk_mul, pk_mul, nI_add, nI_add, xx]) ?_
            refine PW.iaload hX dX7_together_276 rfl rfl rfl hat ?_
            refine PW.iret hX hR dX7_together_277 rfl rfl ?_
            exact ⟨rfl, rfl⟩
          · try rw [nI_ltI (by omega) (by omega)] at c20
            exfalso; omega -- CLOSED
        · have nx := ih (i + 1) (by omega) (by omega)
          rw [wI] at nx
          generalize wI li b c wy i = w' at nx ⊢
          have h255 : PW X 255 [some (.ref 0), some (.int (nI a)), some (.int (nI b)), some (.int (nI c)), some (.int (nI i)), none, none, none, none] [] (mdB (MA', MB'', C, li, ln, wJ li c i w' (b + 1))) 0 0 := by
            generalize wJ li c i w' (b + 1) = w2 at nx ⊢
            first | refine PW.iinc hX dX7_together_255 rfl (iincN _) ?_ | refine PW.iinc hX dX7_together_255 rfl rfl ?_
            refine PW.goto (tgt := 17) hX dX7_together_258 (by decide) ?_
            exact nx
          have h26 := loop2 (b + 2) i 0 (by omega) (by omega) (by omega) w' h255
          rw [wJ] at h26
          refine PW.iload hX dX7_together_17 rfl ?_
          refine PW.iload_n hX dX7_together_19 rfl rfl ?_
          refine PW.icmp_gt (tgt := 261) hX dX7_together_20 (by decide) (fun c20 => ?_) (fun c20 => ?_)
          · try rw [nI_ltI (by omega) (by omega)] at c20
            exfalso; omega -- CLOSED
          · try rw [nI_ltI (by omega) (by omega)] at c20
            refine PW.iconst (v := nI 0) hX dX7_together_23 (by decide) ?_
            refine PW.istore hX dX7_together_24 rfl ?_
            exact h26
    have h17 := loop1 (a + 2) 0 (by omega) (by omega)
    rw [wI] at h17
    refine PW.iload_n hX dX7_together_0 rfl rfl ?_
    refine PW.iload_n hX dX7_together_1 rfl rfl ?_
    refine PW.iadd hX dX7_together_2 ?_
    refine PW.iload_n hX dX7_together_3 rfl rfl ?_
    refine PW.iadd hX dX7_together_4 ?_
    refine PW.top (show nI a + nI b + nI c = nI (a + b + c) by rw [nI_add, nI_add]) ?_
    refine PW.aload_n hX dX7_together_5 rfl rfl ?_
    refine PW.getfield hX fl_X7_166 dX7_together_6 rfl rfl ?_
    refine PW.top (show _ = nI ln from rfl) ?_
    refine PW.icmp_eq (tgt := 14) hX dX7_together_9 (by decide) (fun c9 => ?_) (fun c9 => ?_)
    · first | rw [nI_eq (by omega) (by omega)] at c9 | rw [oI_eq9] at c9 | skip
      refine PW.iconst (v := nI 0) hX dX7_together_14 (by decide) ?_
      refine PW.istore hX dX7_together_15 rfl ?_
      exact h17
    · first | rw [nI_eq (by omega) (by omega)] at c9 | rw [oI_eq9] at c9 | skip
      exfalso; omega -- CLOSED
  · have e1 : wRes li ln a b c wy = nI 0 := by unfold wRes; rw [if_neg hs]
    have e2 : wAll li ln a b c wy = wy := by unfold wAll; rw [if_neg hs]
    rw [e1, e2]
    refine PM.start (Or.inl (by decide +kernel)) rfl rfl rfl ?_
    intro X hX hR hx hin
    refine PW.iload_n hX dX7_together_0 rfl rfl ?_
    refine PW.iload_n hX dX7_together_1 rfl rfl ?_
    refine PW.iadd hX dX7_together_2 ?_
    refine PW.iload_n hX dX7_together_3 rfl rfl ?_
    refine PW.iadd hX dX7_together_4 ?_
    refine PW.top (show nI a + nI b + nI c = nI (a + b + c) by rw [nI_add, nI_add]) ?_
    refine PW.aload_n hX dX7_together_5 rfl rfl ?_
    refine PW.getfield hX fl_X7_166 dX7_together_6 rfl rfl ?_
    refine PW.top (show _ = nI ln from rfl) ?_
    refine PW.icmp_eq (tgt := 14) hX dX7_together_9 (by decide) (fun c9 => ?_) (fun c9 => ?_)
    · first | rw [nI_eq (by omega) (by omega)] at c9 | rw [oI_eq9] at c9 | skip
      exfalso; omega -- CLOSED
    · first | rw [nI_eq (by omega) (by omega)] at c9 | rw [oI_eq9] at c9 | skip
      refine PW.iconst (v := nI 0) hX dX7_together_12 (by decide) ?_
      refine PW.iret hX hR dX7_together_13 rfl rfl ?_
      exact ⟨rfl, rfl⟩
