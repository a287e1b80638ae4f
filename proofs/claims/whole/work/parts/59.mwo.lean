/-! ===== the reference: when ready waits vain ===== -/
theorem pm_mwhen (M : Md) (C : MC) (P : Pl) (D : Dy) (pr : PR P (mno M)) (ok : PlOk P) (dk : DyOk P D 100) (df : DF P D 100) (cr : CRl D C) (di : DIn P D) (h3 : ∀ j, j < 80 → mno M j < 100) (cG : PM mu_X7_goTo 3 0 0 [.ref 0, .int (nI 99)] (mdB M) (eqP none (mdB (sC M C)))) (o : Nat) (ho : o < 4) : PM mu_X7_when 4 0 0 [.ref 0, .int (nI o)] (mdB M) (eqP (some (.int (oI (lfo P D o)))) (mdB (sC M C))) := by
  rw [← wn_lfo ok dk df o]
  have o1 := ok.1
  have p0 := pr.1
  have p4 := pr.2.2.2.2.1
  obtain ⟨r1, r2, r3, r4, r5⟩ := cr
  have n1 := dk.2.2.1
  have dv := dk.2.2.2.1
  have hso : sumN (ofW P o) (plnj P) < 1000 := by
    have e := cn_0 ok D o
    rw [← e]
    have := sumN_le (f := cnF P D o 0) (fun k => by unfold cnF; split <;> omega) 60
    unfold cnN
    omega
  refine PM.start (Or.inl (by decide +kernel)) rfl rfl rfl ?_
  intro X hX hR hx hin
  have h176 : ∀ (l k h : Nat) (z5 z6 : Option Value), wnL P D o (dyn D) 0 (sumN (ofW P o) (plnj P)) = none → PW X 176 [some (.ref 0), some (.int (nI o)), some (.int (nI l)), some (.int (nI h)), some (.int (nI k)), z5, z6] [] (mdB (sC M C)) 0 0 := by
    intro l k h z5 z6 e
    rw [e] at hR
    refine PW.bipush (v := (-9)) hX dX7_when_176 (by decide) ?_
    refine PW.iret hX hR dX7_when_178 rfl rfl ?_
    exact ⟨rfl, rfl⟩
  have loop2 : ∀ n k l h : Nat, k + n = dyn D → l < 1000 → wnL P D o (dyn D) 0 (sumN (ofW P o) (plnj P)) = wnL P D o n k l → PW X 60 [some (.ref 0), some (.int (nI o)), some (.int (nI l)), some (.int (nI h)), some (.int (nI k)), none, none] [] (mdB (sC M C)) 0 0 := by
    intro n
    induction n with
    | zero =>
      intro k l h h1 h2 h4
      have n9 := h176 l k h none none h4
      refine PW.iload hX dX7_when_60 rfl ?_
      refine PW.aload_n hX dX7_when_62 rfl rfl ?_
      refine PW.getfield hX fl_X7_113 dX7_when_63 rfl rfl ?_
      refine PW.top (show _ = nI (dyn D) from congrArg nI r1) ?_
      refine PW.icmp_ge (tgt := 176) hX dX7_when_66 (by decide) (fun c66 => ?_) (fun c66 => ?_)
      · try rw [nI_leI (by omega) (by omega)] at c66
        exact n9
      · try rw [nI_leI (by omega) (by omega)] at c66
        exfalso; omega -- CLOSED
    | succ n ih =>
      intro k l h h1 h2 h4
      rw [wnL] at h4
      by_cases hl : l = 0
      · rw [if_pos hl] at h4
        have n9 := h176 l k h none none h4
        refine PW.iload hX dX7_when_60 rfl ?_
        refine PW.aload_n hX dX7_when_62 rfl rfl ?_
        refine PW.getfield hX fl_X7_113 dX7_when_63 rfl rfl ?_
        refine PW.top (show _ = nI (dyn D) from congrArg nI r1) ?_
        refine PW.icmp_ge (tgt := 176) hX dX7_when_66 (by decide) (fun c66 => ?_) (fun c66 => ?_)
        · try rw [nI_leI (by omega) (by omega)] at c66
          exfalso; omega -- CLOSED
        · try rw [nI_leI (by omega) (by omega)] at c66
          refine PW.iload_n hX dX7_when_69 rfl rfl ?_
          refine PW.if_le (tgt := 176) hX dX7_when_70 (by decide) (fun c70 => ?_) (fun c70 => ?_)
          · try rw [nI_le0 (by omega)] at c70
            exact n9
          · try rw [nI_le0 (by omega)] at c70
            exfalso; omega -- CLOSED
      · rw [if_neg hl] at h4
        obtain ⟨q1, q2⟩ := r2 k (by omega)
        obtain ⟨d1, d2⟩ := dv k (by omega)
        have hs := isSh_lt ok d1
        have eo := (p4 _ hs.2.1).1
        have b10 := h3 (10 + dyos D k / 10) (by omega)
        generalize hE : (if decide (plow P (dyos D k / 10) = o) && !snB (dyos D) (dyos D k) k then 1 else 0) = E at h4
        have hE1 : E ≤ 1 := by rw [← hE]; split <;> omega
        have h154 : PW X 154 [some (.ref 0), some (.int (nI o)), some (.int (nI l)), some (.int (nI h)), some (.int (nI k)), some (.int (bI (snB (dyos D) (dyos D k) k))), some (.int (nI k))] [.int (nI E), .int (nI l)] (mdB (sC M C)) 0 0 := by
          by_cases hz : l - E = 0
          · rw [if_pos hz] at h4
            rw [h4] at hR
            refine PW.isub hX dX7_when_154 ?_
            refine PW.top (pk_sub (by omega)) ?_
            refine PW.istore_n hX dX7_when_155 rfl rfl ?_
            refine PW.aload_n hX dX7_when_156 rfl rfl ?_
            refine PW.getfield hX fl_X7_41 dX7_when_157 rfl rfl ?_
            refine PW.iload hX dX7_when_160 rfl ?_
            refine PW.iaload (k := k) hX dX7_when_162 rfl rfl rfl (by omega) ?_
            refine PW.top (show _ = nI (dyom D k) from congrArg nI q2) ?_
            refine PW.istore_n hX dX7_when_163 rfl rfl ?_
            refine PW.iload_n hX dX7_when_164 rfl rfl ?_
            refine PW.if_ne (tgt := 170) hX dX7_when_165 (by decide) (fun c165 => ?_) (fun c165 => ?_)
            · first | rw [bI_d0] at c165 | rw [bI_eq0] at c165 | rw [nI_eq0 (by omega)] at c165 | skip
              exfalso; omega -- CLOSED
            · first | rw [bI_d0] at c165 | rw [bI_eq0] at c165 | rw [nI_eq0 (by omega)] at c165 | skip
              refine PW.iload_n hX dX7_when_168 rfl rfl ?_
              refine PW.iret hX hR dX7_when_169 rfl rfl ?_
              exact ⟨rfl, rfl⟩
          · rw [if_neg hz] at h4
            have nx := ih (k + 1) (l - E) (dyom D k) (by omega) (by omega) h4
            refine PW.isub hX dX7_when_154 ?_
            refine PW.top (pk_sub (by omega)) ?_
            refine PW.istore_n hX dX7_when_155 rfl rfl ?_
            refine PW.aload_n hX dX7_when_156 rfl rfl ?_
            refine PW.getfield hX fl_X7_41 dX7_when_157 rfl rfl ?_
            refine PW.iload hX dX7_when_160 rfl ?_
            refine PW.iaload (k := k) hX dX7_when_162 rfl rfl rfl (by omega) ?_
            refine PW.top (show _ = nI (dyom D k) from congrArg nI q2) ?_
            refine PW.istore_n hX dX7_when_163 rfl rfl ?_
            refine PW.iload_n hX dX7_when_164 rfl rfl ?_
            refine PW.if_ne (tgt := 170) hX dX7_when_165 (by decide) (fun c165 => ?_) (fun c165 => ?_)
            · first | rw [bI_d0] at c165 | rw [bI_eq0] at c165 | rw [nI_eq0 (by omega)] at c165 | skip
              first | refine PW.iinc hX dX7_when_170 rfl (iincN _) ?_ | refine PW.iinc hX dX7_when_170 rfl rfl ?_
              refine PW.goto (tgt := 60) hX dX7_when_173 (by decide) ?_
              refine PW.clr 5 (PW.clr 6 ?_)
              exact nx
            · first | rw [bI_d0] at c165 | rw [bI_eq0] at c165 | rw [nI_eq0 (by omega)] at c165 | skip
              exfalso; omega -- CLOSED
        have h121 : PW X 121 [some (.ref 0), some (.int (nI o)), some (.int (nI l)), some (.int (nI h)), some (.int (nI k)), some (.int (bI (snB (dyos D) (dyos D k) k))), some (.int (nI k))] [] (mdB (sC M C)) 0 0 := by
          have h154e : ∀ v, (if decide (plow P (dyos D k / 10) = o) && !snB (dyos D) (dyos D k) k then 1 else 0) = v → PW X 154 [some (.ref 0), some (.int (nI o)), some (.int (nI l)), some (.int (nI h)), some (.int (nI k)), some (.int (bI (snB (dyos D) (dyos D k) k))), some (.int (nI k))] [.int (nI v), .int (nI l)] (mdB (sC M C)) 0 0 := by
            intro v hv
            rw [← hv, hE]
            exact h154
          clear h154
          generalize snB (dyos D) (dyos D k) k = b at *
          refine PW.iload_n hX dX7_when_121 rfl rfl ?_
          refine PW.aload_n hX dX7_when_122 rfl rfl ?_
          refine PW.getfield hX fl_X7_13 dX7_when_123 rfl rfl ?_
          refine PW.bipush (v := nI 10) hX dX7_when_126 (by decide) ?_
          refine PW.aload_n hX dX7_when_128 rfl rfl ?_
          refine PW.getfield hX fl_X7_38 dX7_when_129 rfl rfl ?_
          refine PW.iload hX dX7_when_132 rfl ?_
          refine PW.iaload (k := k) hX dX7_when_134 rfl rfl rfl (by omega) ?_
          refine PW.top (show _ = nI (dyos D k) from congrArg nI q1) ?_
          refine PW.bipush (v := nI 10) hX dX7_when_135 (by decide) ?_
          refine PW.idiv hX dX7_when_137 (by decide) ?_
          refine PW.top (show _ = nI (dyos D k / 10) from div10 (by omega)) ?_
          refine PW.iadd hX dX7_when_138 ?_
          refine PW.top (nI_add 10 (dyos D k / 10)) ?_
          refine PW.iaload (k := 10 + dyos D k / 10) hX dX7_when_139 rfl rfl rfl (by omega) ?_
          refine PW.top (show _ = nI (plow P (dyos D k / 10)) from congrArg nI eo) ?_
          refine PW.iload_n hX dX7_when_140 rfl rfl ?_
          refine PW.icmp_ne (tgt := 153) hX dX7_when_141 (by decide) (fun c141 => ?_) (fun c141 => ?_)
          · first | rw [nI_eq (by omega) (by omega)] at c141 | rw [oI_eq9] at c141 | skip
            rw [← eo] at c141
            refine PW.iconst (v := nI 0) hX dX7_when_153 (by decide) ?_
            exact h154e 0 (by rw [← eo, decide_eq_false c141]; rfl)
          · first | rw [nI_eq (by omega) (by omega)] at c141 | rw [oI_eq9] at c141 | skip
            rw [← eo] at c141
            refine PW.iload hX dX7_when_144 rfl ?_
            refine PW.if_ne (tgt := 153) hX dX7_when_146 (by decide) (fun c146 => ?_) (fun c146 => ?_)
            · first | rw [bI_d0] at c146 | rw [bI_eq0] at c146 | rw [nI_eq0 (by omega)] at c146 | skip
              refine PW.iconst (v := nI 0) hX dX7_when_153 (by decide) ?_
              exact h154e 0 (by rw [(Bool.not_eq_false _).mp c146, Bool.not_true, Bool.and_false]; rfl)
            · first | rw [bI_d0] at c146 | rw [bI_eq0] at c146 | rw [nI_eq0 (by omega)] at c146 | skip
              refine PW.iconst (v := nI 1) hX dX7_when_149 (by decide) ?_
              refine PW.goto (tgt := 154) hX dX7_when_150 (by decide) ?_
              exact h154e 1 (by rw [← eo, decide_eq_true c141, c146]; rfl)
        have loopI : ∀ n i : Nat, i + n = k → PW X 79 [some (.ref 0), some (.int (nI o)), some (.int (nI l)), some (.int (nI h)), some (.int (nI k)), some (.int (bI (snB (dyos D) (dyos D k) i))), some (.int (nI i))] [] (mdB (sC M C)) 0 0 := by
          intro n
          induction n with
          | zero =>
            intro i hi
            have e : i = k := by omega
            subst e
            refine PW.iload hX dX7_when_79 rfl ?_
            refine PW.iload hX dX7_when_81 rfl ?_
            refine PW.icmp_ge (tgt := 121) hX dX7_when_83 (by decide) (fun c83 => ?_) (fun c83 => ?_)
            · try rw [nI_leI (by omega) (by omega)] at c83
              exact h121
            · try rw [nI_leI (by omega) (by omega)] at c83
              exfalso; omega -- CLOSED
          | succ n ih2 =>
            intro i hi
            have nx := ih2 (i + 1) (by omega)
            rw [snB] at nx
            obtain ⟨qi1, qi2⟩ := r2 i (by omega)
            have hsi := isSh_lt ok (dv i (by omega)).1
            have h113 : ∀ v, (snB (dyos D) (dyos D k) i || decide (dyos D i = dyos D k)) = v → PW X 113 [some (.ref 0), some (.int (nI o)), some (.int (nI l)), some (.int (nI h)), some (.int (nI k)), some (.int (bI (snB (dyos D) (dyos D k) i))), some (.int (nI i))] [.int (bI v)] (mdB (sC M C)) 0 0 := by
              rintro v rfl
              refine PW.istore hX dX7_when_113 rfl ?_
              first | refine PW.iinc hX dX7_when_115 rfl (iincN _) ?_ | refine PW.iinc hX dX7_when_115 rfl rfl ?_
              refine PW.goto (tgt := 79) hX dX7_when_118 (by decide) ?_
              exact nx
            generalize snB (dyos D) (dyos D k) i = b at *
            refine PW.iload hX dX7_when_79 rfl ?_
            refine PW.iload hX dX7_when_81 rfl ?_
            refine PW.icmp_ge (tgt := 121) hX dX7_when_83 (by decide) (fun c83 => ?_) (fun c83 => ?_)
            · try rw [nI_leI (by omega) (by omega)] at c83
              exfalso; omega -- CLOSED
            · try rw [nI_leI (by omega) (by omega)] at c83
              refine PW.iload hX dX7_when_86 rfl ?_
              refine PW.if_ne (tgt := 108) hX dX7_when_88 (by decide) (fun c88 => ?_) (fun c88 => ?_)
              · first | rw [bI_d0] at c88 | rw [bI_eq0] at c88 | rw [nI_eq0 (by omega)] at c88 | skip
                refine PW.iconst (v := nI 1) hX dX7_when_108 (by decide) ?_
                refine PW.goto (tgt := 113) hX dX7_when_109 (by decide) ?_
                exact h113 true (by rw [(Bool.not_eq_false _).mp c88]; rfl)
              · first | rw [bI_d0] at c88 | rw [bI_eq0] at c88 | rw [nI_eq0 (by omega)] at c88 | skip
                refine PW.aload_n hX dX7_when_91 rfl rfl ?_
                refine PW.getfield hX fl_X7_38 dX7_when_92 rfl rfl ?_
                refine PW.iload hX dX7_when_95 rfl ?_
                refine PW.iaload (k := i) hX dX7_when_97 rfl rfl rfl (by omega) ?_
                refine PW.top (show _ = nI (dyos D i) from congrArg nI qi1) ?_
                refine PW.aload_n hX dX7_when_98 rfl rfl ?_
                refine PW.getfield hX fl_X7_38 dX7_when_99 rfl rfl ?_
                refine PW.iload hX dX7_when_102 rfl ?_
                refine PW.iaload (k := k) hX dX7_when_104 rfl rfl rfl (by omega) ?_
                refine PW.top (show _ = nI (dyos D k) from congrArg nI q1) ?_
                refine PW.icmp_ne (tgt := 112) hX dX7_when_105 (by decide) (fun c105 => ?_) (fun c105 => ?_)
                · first | rw [nI_eq (by omega) (by omega)] at c105 | rw [oI_eq9] at c105 | skip
                  refine PW.iconst (v := nI 0) hX dX7_when_112 (by decide) ?_
                  exact h113 false (by rw [c88, decide_eq_false c105]; rfl)
                · first | rw [nI_eq (by omega) (by omega)] at c105 | rw [oI_eq9] at c105 | skip
                  refine PW.iconst (v := nI 1) hX dX7_when_108 (by decide) ?_
                  refine PW.goto (tgt := 113) hX dX7_when_109 (by decide) ?_
                  exact h113 true (by rw [decide_eq_true c105, Bool.or_true])
        have nx := loopI k 0 (by omega)
        refine PW.iload hX dX7_when_60 rfl ?_
        refine PW.aload_n hX dX7_when_62 rfl rfl ?_
        refine PW.getfield hX fl_X7_113 dX7_when_63 rfl rfl ?_
        refine PW.top (show _ = nI (dyn D) from congrArg nI r1) ?_
        refine PW.icmp_ge (tgt := 176) hX dX7_when_66 (by decide) (fun c66 => ?_) (fun c66 => ?_)
        · try rw [nI_leI (by omega) (by omega)] at c66
          exfalso; omega -- CLOSED
        · try rw [nI_leI (by omega) (by omega)] at c66
          refine PW.iload_n hX dX7_when_69 rfl rfl ?_
          refine PW.if_le (tgt := 176) hX dX7_when_70 (by decide) (fun c70 => ?_) (fun c70 => ?_)
          · try rw [nI_le0 (by omega)] at c70
            exfalso; omega -- CLOSED
          · try rw [nI_le0 (by omega)] at c70
            refine PW.iconst (v := nI 0) hX dX7_when_73 (by decide) ?_
            refine PW.istore hX dX7_when_74 rfl ?_
            refine PW.iconst (v := nI 0) hX dX7_when_76 (by decide) ?_
            refine PW.istore hX dX7_when_77 rfl ?_
            exact nx
  have loop1 : ∀ n i : Nat, i ≤ plnj P → plnj P < i + n → PW X 10 [some (.ref 0), some (.int (nI o)), some (.int (nI (sumN (ofW P o) i))), some (.int (nI i)), none, none, none] [] (mdB (sC M C)) 0 0 := by
    intro n
    induction n with
    | zero => intro i h1 h2; exact absurd h2 (by omega)
    | succ n ih =>
      intro i h1 h2
      by_cases hi : i = plnj P
      · subst hi
        have nx := loop2 (dyn D) 0 (sumN (ofW P o) (plnj P)) 0 (by omega) hso rfl
        refine PW.iload_n hX dX7_when_10 rfl rfl ?_
        refine PW.aload_n hX dX7_when_11 rfl rfl ?_
        refine PW.getfield hX fl_X7_13 dX7_when_12 rfl rfl ?_
        refine PW.iconst (v := nI 0) hX dX7_when_15 (by decide) ?_
        refine PW.iaload (k := 0) hX dX7_when_16 rfl rfl rfl (by decide) ?_
        refine PW.top (show _ = nI (plnj P) from congrArg nI p0) ?_
        refine PW.icmp_ge (tgt := 55) hX dX7_when_17 (by decide) (fun c17 => ?_) (fun c17 => ?_)
        · try rw [nI_leI (by omega) (by omega)] at c17
          refine PW.iconst (v := nI 0) hX dX7_when_55 (by decide) ?_
          refine PW.istore_n hX dX7_when_56 rfl rfl ?_
          refine PW.iconst (v := nI 0) hX dX7_when_57 (by decide) ?_
          refine PW.istore hX dX7_when_58 rfl ?_
          exact nx
        · try rw [nI_leI (by omega) (by omega)] at c17
          exfalso; omega -- CLOSED
      · have nx := ih (i + 1) (by omega) (by omega)
        rw [sumN] at nx
        obtain ⟨q1, q2, q3⟩ := p4 i (by omega)
        have b10 := h3 (10 + i) (by omega)
        have h47 : ∀ v, ofW P o i = v → PW X 47 [some (.ref 0), some (.int (nI o)), some (.int (nI (sumN (ofW P o) i))), some (.int (nI i)), none, none, none] [.int (nI v), .int (nI (sumN (ofW P o) i))] (mdB (sC M C)) 0 0 := by
          rintro v rfl
          refine PW.iadd hX dX7_when_47 ?_
          refine PW.top (nI_add _ _) ?_
          refine PW.istore_n hX dX7_when_48 rfl rfl ?_
          first | refine PW.iinc hX dX7_when_49 rfl (iincN _) ?_ | refine PW.iinc hX dX7_when_49 rfl rfl ?_
          refine PW.goto (tgt := 10) hX dX7_when_52 (by decide) ?_
          exact nx
        refine PW.iload_n hX dX7_when_10 rfl rfl ?_
        refine PW.aload_n hX dX7_when_11 rfl rfl ?_
        refine PW.getfield hX fl_X7_13 dX7_when_12 rfl rfl ?_
        refine PW.iconst (v := nI 0) hX dX7_when_15 (by decide) ?_
        refine PW.iaload (k := 0) hX dX7_when_16 rfl rfl rfl (by decide) ?_
        refine PW.top (show _ = nI (plnj P) from congrArg nI p0) ?_
        refine PW.icmp_ge (tgt := 55) hX dX7_when_17 (by decide) (fun c17 => ?_) (fun c17 => ?_)
        · try rw [nI_leI (by omega) (by omega)] at c17
          exfalso; omega -- CLOSED
        · try rw [nI_leI (by omega) (by omega)] at c17
          refine PW.iload_n hX dX7_when_20 rfl rfl ?_
          refine PW.aload_n hX dX7_when_21 rfl rfl ?_
          refine PW.getfield hX fl_X7_13 dX7_when_22 rfl rfl ?_
          refine PW.bipush (v := nI 10) hX dX7_when_25 (by decide) ?_
          refine PW.iload_n hX dX7_when_27 rfl rfl ?_
          refine PW.iadd hX dX7_when_28 ?_
          refine PW.top (nI_add 10 i) ?_
          refine PW.iaload (k := 10 + i) hX dX7_when_29 rfl rfl rfl (by omega) ?_
          refine PW.top (show _ = nI (mno M (10 + i)) from rfl) ?_
          refine PW.iload_n hX dX7_when_30 rfl rfl ?_
          refine PW.icmp_ne (tgt := 46) hX dX7_when_31 (by decide) (fun c31 => ?_) (fun c31 => ?_)
          · first | rw [nI_eq (by omega) (by omega)] at c31 | rw [oI_eq9] at c31 | skip
            refine PW.iconst (v := nI 0) hX dX7_when_46 (by decide) ?_
            exact h47 0 (by unfold ofW; rw [if_neg (fun q => c31 (q1.trans q))])
          · first | rw [nI_eq (by omega) (by omega)] at c31 | rw [oI_eq9] at c31 | skip
            refine PW.aload_n hX dX7_when_34 rfl rfl ?_
            refine PW.getfield hX fl_X7_13 dX7_when_35 rfl rfl ?_
            refine PW.bipush (v := nI 20) hX dX7_when_38 (by decide) ?_
            refine PW.iload_n hX dX7_when_40 rfl rfl ?_
            refine PW.iadd hX dX7_when_41 ?_
            refine PW.top (nI_add 20 i) ?_
            refine PW.iaload (k := 20 + i) hX dX7_when_42 rfl rfl rfl (by omega) ?_
            refine PW.top (show _ = nI (plsh P i) from congrArg nI q2) ?_
            refine PW.goto (tgt := 47) hX dX7_when_43 (by decide) ?_
            exact h47 _ (by unfold ofW; rw [if_pos (q1.symm.trans c31)])
  have nx := loop1 (plnj P + 1) 0 (by omega) (by omega)
  refine PW.aload_n hX dX7_when_0 rfl rfl ?_
  refine PW.bipush (v := nI 99) hX dX7_when_1 (by decide) ?_
  refine PW.vVi hX ml_X7_147 (cG) dX7_when_3 17 rfl rfl rfl rfl rfl rfl rfl rfl rfl rfl rfl rfl rfl rfl rfl ?_
  refine PW.iconst (v := nI 0) hX dX7_when_6 (by decide) ?_
  refine PW.istore_n hX dX7_when_7 rfl rfl ?_
  refine PW.iconst (v := nI 0) hX dX7_when_8 (by decide) ?_
  refine PW.istore_n hX dX7_when_9 rfl rfl ?_
  exact nx
def qReady (P : Pl) (D : Dy) (M M' : Md) (x : Int32) : Int32 × Md := bif inB 4 x then (oI (lfo P D x.toNatClampNeg), M') else (-1, mNo M 1)
theorem pm_mready (M : Md) (C : MC) (P : Pl) (D : Dy) (pr : PR P (mno M)) (ok : PlOk P) (dk : DyOk P D 100) (df : DF P D 100) (cr : CRl D C) (di : DIn P D) (h3 : ∀ j, j < 80 → mno M j < 100) (cG : PM mu_X7_goTo 3 0 0 [.ref 0, .int (nI 99)] (mdB M) (eqP none (mdB (sC M C)))) (x : Int32) : PM mu_X7_ready 5 0 0 [.ref 0, .int x] (mdB M) (eqP (some (.int (qReady P D M (sC M C) x).1)) (mdB (qReady P D M (sC M C) x).2)) := by
  unfold qReady
  cases hj : inB 4 x with
  | false =>
    dsimp only [cond_false]
    refine PM.start (Or.inl (by decide +kernel)) rfl rfl rfl ?_
    intro X hX hR hx hin
    refine PW.aload_n hX dX7_ready_0 rfl rfl ?_
    refine PW.iload_n hX dX7_ready_1 rfl rfl ?_
    refine PW.vIi hX ml_X7_150 (pm_mnw M x) dX7_ready_2 17 rfl rfl rfl rfl rfl rfl rfl rfl rfl rfl rfl rfl rfl rfl rfl ?_
    rw [hj]
    refine PW.if_eq (tgt := 16) hX dX7_ready_5 (by decide) (fun c5 => ?_) (fun c5 => ?_)
    · first | rw [bI_d0] at c5 | rw [bI_eq0] at c5 | rw [nI_eq0 (by omega)] at c5 | skip
      exact absurd c5 (by decide) -- CLOSED
    · first | rw [bI_d0] at c5 | rw [bI_eq0] at c5 | rw [nI_eq0 (by omega)] at c5 | skip
      refine PW.aload_n hX dX7_ready_8 rfl rfl ?_
      refine PW.iconst (v := (-1)) hX dX7_ready_9 (by decide) ?_
      refine PW.vIi hX ml_X7_64 (pm_no M (-1) 1 (by decide) (by decide)) dX7_ready_10 17 rfl rfl rfl rfl rfl rfl rfl rfl rfl rfl rfl rfl rfl rfl rfl ?_
      refine PW.goto (tgt := 21) hX dX7_ready_13 (by decide) ?_
      refine PW.iret hX hR dX7_ready_21 rfl rfl ?_
      exact ⟨rfl, rfl⟩
  | true =>
    obtain ⟨o, ho, rfl⟩ := inB_of (by decide) hj
    dsimp only [cond_true]
    rw [nI_clamp (by omega)]
    have cW := pm_mwhen M C P D pr ok dk df cr di h3 cG o ho
    generalize lfo P D o = s at cW ⊢
    refine PM.start (Or.inl (by decide +kernel)) rfl rfl rfl ?_
    intro X hX hR hx hin
    refine PW.aload_n hX dX7_ready_0 rfl rfl ?_
    refine PW.iload_n hX dX7_ready_1 rfl rfl ?_
    refine PW.vIi hX ml_X7_150 (pm_mnw M (nI o)) dX7_ready_2 17 rfl rfl rfl rfl rfl rfl rfl rfl rfl rfl rfl rfl rfl rfl rfl ?_
    rw [hj]
    refine PW.if_eq (tgt := 16) hX dX7_ready_5 (by decide) (fun c5 => ?_) (fun c5 => ?_)
    · first | rw [bI_d0] at c5 | rw [bI_eq0] at c5 | rw [nI_eq0 (by omega)] at c5 | skip
      refine PW.aload_n hX dX7_ready_16 rfl rfl ?_
      refine PW.iload_n hX dX7_ready_17 rfl rfl ?_
      refine PW.vIi hX ml_X7_157 (cW) dX7_ready_18 17 rfl rfl rfl rfl rfl rfl rfl rfl rfl rfl rfl rfl rfl rfl rfl ?_
      refine PW.iret hX hR dX7_ready_21 rfl rfl ?_
      exact ⟨rfl, rfl⟩
    · first | rw [bI_d0] at c5 | rw [bI_eq0] at c5 | rw [nI_eq0 (by omega)] at c5 | skip
      exact absurd rfl c5 -- CLOSED
def qWaits (P : Pl) (D : Dy) (M M' : Md) (x y u : Int32) : Int32 × Md := bif inB 4 x then (if y < 0 ∨ u < 0 then (-4, mNo M 4) else if nI 100 ≤ y ∨ nI 30 < u then (-6, mNo M 6) else ((match lfo P D x.toNatClampNeg with | none => -9 | some r => mx0 (nI r - y - u)), M')) else (-1, mNo M 1)
theorem pm_mwaits (M : Md) (C : MC) (P : Pl) (D : Dy) (pr : PR P (mno M)) (ok : PlOk P) (dk : DyOk P D 100) (df : DF P D 100) (cr : CRl D C) (di : DIn P D) (h3 : ∀ j, j < 80 → mno M j < 100) (cG : PM mu_X7_goTo 3 0 0 [.ref 0, .int (nI 99)] (mdB M) (eqP none (mdB (sC M C)))) (x y u : Int32) : PM mu_X7_waits_ 5 0 0 [.ref 0, .int x, .int y, .int u] (mdB M) (eqP (some (.int (qWaits P D M (sC M C) x y u).1)) (mdB (qWaits P D M (sC M C) x y u).2)) := by
  unfold qWaits
  cases hj : inB 4 x with
  | false =>
    dsimp only [cond_false]
    refine PM.start (Or.inl (by decide +kernel)) rfl rfl rfl ?_
    intro X hX hR hx hin
    refine PW.aload_n hX dX7_waits__0 rfl rfl ?_
    refine PW.iload_n hX dX7_waits__1 rfl rfl ?_
    refine PW.vIi hX ml_X7_150 (pm_mnw M x) dX7_waits__2 17 rfl rfl rfl rfl rfl rfl rfl rfl rfl rfl rfl rfl rfl rfl rfl ?_
    rw [hj]
    refine PW.if_eq (tgt := 14) hX dX7_waits__5 (by decide) (fun c5 => ?_) (fun c5 => ?_)
    · first | rw [bI_d0] at c5 | rw [bI_eq0] at c5 | rw [nI_eq0 (by omega)] at c5 | skip
      exact absurd c5 (by decide) -- CLOSED
    · first | rw [bI_d0] at c5 | rw [bI_eq0] at c5 | rw [nI_eq0 (by omega)] at c5 | skip
      refine PW.aload_n hX dX7_waits__8 rfl rfl ?_
      refine PW.iconst (v := (-1)) hX dX7_waits__9 (by decide) ?_
      refine PW.vIi hX ml_X7_64 (pm_no M (-1) 1 (by decide) (by decide)) dX7_waits__10 17 rfl rfl rfl rfl rfl rfl rfl rfl rfl rfl rfl rfl rfl rfl rfl ?_
      refine PW.iret hX hR dX7_waits__13 rfl rfl ?_
      exact ⟨rfl, rfl⟩
  | true =>
    obtain ⟨o, ho, rfl⟩ := inB_of (by decide) hj
    dsimp only [cond_true]
    rw [nI_clamp (by omega)]
    by_cases h1 : y < 0 ∨ u < 0
    · rw [if_pos h1]
      refine PM.start (Or.inl (by decide +kernel)) rfl rfl rfl ?_
      intro X hX hR hx hin
      refine PW.aload_n hX dX7_waits__0 rfl rfl ?_
      refine PW.iload_n hX dX7_waits__1 rfl rfl ?_
      refine PW.vIi hX ml_X7_150 (pm_mnw M (nI o)) dX7_waits__2 17 rfl rfl rfl rfl rfl rfl rfl rfl rfl rfl rfl rfl rfl rfl rfl ?_
      rw [hj]
      refine PW.if_eq (tgt := 14) hX dX7_waits__5 (by decide) (fun c5 => ?_) (fun c5 => ?_)
      · refine PW.iload_n hX dX7_waits__14 rfl rfl ?_
        refine PW.if_lt (tgt := 22) hX dX7_waits__15 (by decide) (fun c15 => ?_) (fun c15 => ?_)
        · refine PW.aload_n hX dX7_waits__22 rfl rfl ?_
          refine PW.bipush (v := (-4)) hX dX7_waits__23 (by decide) ?_
          refine PW.vIi hX ml_X7_64 (pm_no M (-4) 4 (by decide) (by decide)) dX7_waits__25 17 rfl rfl rfl rfl rfl rfl rfl rfl rfl rfl rfl rfl rfl rfl rfl ?_
          refine PW.iret hX hR dX7_waits__28 rfl rfl ?_
          exact ⟨rfl, rfl⟩
        · refine PW.iload_n hX dX7_waits__18 rfl rfl ?_
          refine PW.if_ge (tgt := 29) hX dX7_waits__19 (by decide) (fun c19 => ?_) (fun c19 => ?_)
          · exact absurd h1 (fun q => q.elim c15 (i32_ge0 c19)) -- CLOSED
          · refine PW.aload_n hX dX7_waits__22 rfl rfl ?_
            refine PW.bipush (v := (-4)) hX dX7_waits__23 (by decide) ?_
            refine PW.vIi hX ml_X7_64 (pm_no M (-4) 4 (by decide) (by decide)) dX7_waits__25 17 rfl rfl rfl rfl rfl rfl rfl rfl rfl rfl rfl rfl rfl rfl rfl ?_
            refine PW.iret hX hR dX7_waits__28 rfl rfl ?_
            exact ⟨rfl, rfl⟩
      · exact absurd rfl c5 -- CLOSED
    · rw [if_neg h1]
      by_cases h2 : nI 100 ≤ y ∨ nI 30 < u
      · rw [if_pos h2]
        refine PM.start (Or.inl (by decide +kernel)) rfl rfl rfl ?_
        intro X hX hR hx hin
        refine PW.aload_n hX dX7_waits__0 rfl rfl ?_
        refine PW.iload_n hX dX7_waits__1 rfl rfl ?_
        refine PW.vIi hX ml_X7_150 (pm_mnw M (nI o)) dX7_waits__2 17 rfl rfl rfl rfl rfl rfl rfl rfl rfl rfl rfl rfl rfl rfl rfl ?_
        rw [hj]
        refine PW.if_eq (tgt := 14) hX dX7_waits__5 (by decide) (fun c5 => ?_) (fun c5 => ?_)
        · refine PW.iload_n hX dX7_waits__14 rfl rfl ?_
          refine PW.if_lt (tgt := 22) hX dX7_waits__15 (by decide) (fun c15 => ?_) (fun c15 => ?_)
          · exact absurd (Or.inl c15) h1 -- CLOSED
          · refine PW.iload_n hX dX7_waits__18 rfl rfl ?_
            refine PW.if_ge (tgt := 29) hX dX7_waits__19 (by decide) (fun c19 => ?_) (fun c19 => ?_)
            · refine PW.iload_n hX dX7_waits__29 rfl rfl ?_
              refine PW.bipush (v := nI 99) hX dX7_waits__30 (by decide) ?_
              refine PW.icmp_gt (tgt := 41) hX dX7_waits__32 (by decide) (fun c32 => ?_) (fun c32 => ?_)
              · refine PW.aload_n hX dX7_waits__41 rfl rfl ?_
                refine PW.bipush (v := (-6)) hX dX7_waits__42 (by decide) ?_
                refine PW.vIi hX ml_X7_64 (pm_no M (-6) 6 (by decide) (by decide)) dX7_waits__44 17 rfl rfl rfl rfl rfl rfl rfl rfl rfl rfl rfl rfl rfl rfl rfl ?_
                refine PW.iret hX hR dX7_waits__47 rfl rfl ?_
                exact ⟨rfl, rfl⟩
              · refine PW.iload_n hX dX7_waits__35 rfl rfl ?_
                refine PW.bipush (v := nI 30) hX dX7_waits__36 (by decide) ?_
                refine PW.icmp_le (tgt := 48) hX dX7_waits__38 (by decide) (fun c38 => ?_) (fun c38 => ?_)
                · exact absurd h2 (fun q => q.elim (fun q => c32 (Int32.lt_of_lt_of_le (by decide) q)) (i32_nlt.mpr c38)) -- CLOSED
                · refine PW.aload_n hX dX7_waits__41 rfl rfl ?_
                  refine PW.bipush (v := (-6)) hX dX7_waits__42 (by decide) ?_
                  refine PW.vIi hX ml_X7_64 (pm_no M (-6) 6 (by decide) (by decide)) dX7_waits__44 17 rfl rfl rfl rfl rfl rfl rfl rfl rfl rfl rfl rfl rfl rfl rfl ?_
                  refine PW.iret hX hR dX7_waits__47 rfl rfl ?_
                  exact ⟨rfl, rfl⟩
            · exact absurd (Or.inr (i32_lt0 c19)) h1 -- CLOSED
        · exact absurd rfl c5 -- CLOSED
      · rw [if_neg h2]
        have cW := pm_mwhen M C P D pr ok dk df cr di h3 cG o ho
        have hl := lfo_lt P D o dk.2.2.2.2.1
        have hy99 : ¬ nI 99 < y := fun q => h2 (Or.inl (by
          obtain ⟨k, hk, rfl⟩ := nI_of (fun q => h1 (Or.inl q))
          rw [nI_ltI (by decide) hk] at q
          exact (nI_leI (by decide) hk).mpr (by omega)))
        cases hr0 : lfo P D o with
        | none =>
          rw [hr0] at cW
          refine PM.start (Or.inl (by decide +kernel)) rfl rfl rfl ?_
          intro X hX hR hx hin
          refine PW.aload_n hX dX7_waits__0 rfl rfl ?_
          refine PW.iload_n hX dX7_waits__1 rfl rfl ?_
          refine PW.vIi hX ml_X7_150 (pm_mnw M (nI o)) dX7_waits__2 17 rfl rfl rfl rfl rfl rfl rfl rfl rfl rfl rfl rfl rfl rfl rfl ?_
          rw [hj]
          refine PW.if_eq (tgt := 14) hX dX7_waits__5 (by decide) (fun c5 => ?_) (fun c5 => ?_)
          · refine PW.iload_n hX dX7_waits__14 rfl rfl ?_
            refine PW.if_lt (tgt := 22) hX dX7_waits__15 (by decide) (fun c15 => ?_) (fun c15 => ?_)
            · exact absurd (Or.inl c15) h1 -- CLOSED
            · refine PW.iload_n hX dX7_waits__18 rfl rfl ?_
              refine PW.if_ge (tgt := 29) hX dX7_waits__19 (by decide) (fun c19 => ?_) (fun c19 => ?_)
              · refine PW.iload_n hX dX7_waits__29 rfl rfl ?_
                refine PW.bipush (v := nI 99) hX dX7_waits__30 (by decide) ?_
                refine PW.icmp_gt (tgt := 41) hX dX7_waits__32 (by decide) (fun c32 => ?_) (fun c32 => ?_)
                · exact absurd c32 hy99 -- CLOSED
                · refine PW.iload_n hX dX7_waits__35 rfl rfl ?_
                  refine PW.bipush (v := nI 30) hX dX7_waits__36 (by decide) ?_
                  refine PW.icmp_le (tgt := 48) hX dX7_waits__38 (by decide) (fun c38 => ?_) (fun c38 => ?_)
                  · refine PW.aload_n hX dX7_waits__48 rfl rfl ?_
                    refine PW.iload_n hX dX7_waits__49 rfl rfl ?_
                    refine PW.vIi hX ml_X7_157 (cW) dX7_waits__50 17 rfl rfl rfl rfl rfl rfl rfl rfl rfl rfl rfl rfl rfl rfl rfl ?_
                    refine PW.istore hX dX7_waits__53 rfl ?_
                    refine PW.iload hX dX7_waits__55 rfl ?_
                    refine PW.bipush (v := (-9)) hX dX7_waits__57 (by decide) ?_
                    refine PW.icmp_ne (tgt := 67) hX dX7_waits__59 (by decide) (fun c59 => ?_) (fun c59 => ?_)
                    · exact absurd rfl c59 -- CLOSED
                    · refine PW.bipush (v := (-9)) hX dX7_waits__62 (by decide) ?_
                      refine PW.goto (tgt := 77) hX dX7_waits__64 (by decide) ?_
                      refine PW.iret hX hR dX7_waits__77 rfl rfl ?_
                      exact ⟨rfl, rfl⟩
                  · exact absurd (Or.inr (i32_nle.mp c38)) h2 -- CLOSED
              · exact absurd (Or.inr (i32_lt0 c19)) h1 -- CLOSED
          · exact absurd rfl c5 -- CLOSED
        | some r =>
          rw [hr0] at cW
          have hr1 := hl r hr0
          refine PM.start (Or.inl (by decide +kernel)) rfl rfl rfl ?_
          intro X hX hR hx hin
          refine PW.aload_n hX dX7_waits__0 rfl rfl ?_
          refine PW.iload_n hX dX7_waits__1 rfl rfl ?_
          refine PW.vIi hX ml_X7_150 (pm_mnw M (nI o)) dX7_waits__2 17 rfl rfl rfl rfl rfl rfl rfl rfl rfl rfl rfl rfl rfl rfl rfl ?_
          rw [hj]
          refine PW.if_eq (tgt := 14) hX dX7_waits__5 (by decide) (fun c5 => ?_) (fun c5 => ?_)
          · refine PW.iload_n hX dX7_waits__14 rfl rfl ?_
            refine PW.if_lt (tgt := 22) hX dX7_waits__15 (by decide) (fun c15 => ?_) (fun c15 => ?_)
            · exact absurd (Or.inl c15) h1 -- CLOSED
            · refine PW.iload_n hX dX7_waits__18 rfl rfl ?_
              refine PW.if_ge (tgt := 29) hX dX7_waits__19 (by decide) (fun c19 => ?_) (fun c19 => ?_)
              · refine PW.iload_n hX dX7_waits__29 rfl rfl ?_
                refine PW.bipush (v := nI 99) hX dX7_waits__30 (by decide) ?_
                refine PW.icmp_gt (tgt := 41) hX dX7_waits__32 (by decide) (fun c32 => ?_) (fun c32 => ?_)
                · exact absurd c32 hy99 -- CLOSED
                · refine PW.iload_n hX dX7_waits__35 rfl rfl ?_
                  refine PW.bipush (v := nI 30) hX dX7_waits__36 (by decide) ?_
                  refine PW.icmp_le (tgt := 48) hX dX7_waits__38 (by decide) (fun c38 => ?_) (fun c38 => ?_)
                  · refine PW.aload_n hX dX7_waits__48 rfl rfl ?_
                    refine PW.iload_n hX dX7_waits__49 rfl rfl ?_
                    refine PW.vIi hX ml_X7_157 (cW) dX7_waits__50 17 rfl rfl rfl rfl rfl rfl rfl rfl rfl rfl rfl rfl rfl rfl rfl ?_
                    refine PW.top (show _ = nI r from rfl) ?_
                    refine PW.istore hX dX7_waits__53 rfl ?_
                    refine PW.iload hX dX7_waits__55 rfl ?_
                    refine PW.bipush (v := (-9)) hX dX7_waits__57 (by decide) ?_
                    refine PW.icmp_ne (tgt := 67) hX dX7_waits__59 (by decide) (fun c59 => ?_) (fun c59 => ?_)
                    · refine PW.iconst (v := nI 0) hX dX7_waits__67 (by decide) ?_
                      refine PW.iload hX dX7_waits__68 rfl ?_
                      refine PW.iload_n hX dX7_waits__70 rfl rfl ?_
                      refine PW.isub hX dX7_waits__71 ?_
                      refine PW.iload_n hX dX7_waits__72 rfl rfl ?_
                      refine PW.isub hX dX7_waits__73 ?_
                      refine PW.mmax hX ml_X7_172 dX7_waits__74 rfl rfl rfl rfl ?_
                      refine PW.iret hX hR dX7_waits__77 rfl rfl ?_
                      exact ⟨rfl, rfl⟩
                    · exact absurd c59 (nI_ne9 (by omega)) -- CLOSED
                  · exact absurd (Or.inr (i32_nle.mp c38)) h2 -- CLOSED
              · exact absurd (Or.inr (i32_lt0 c19)) h1 -- CLOSED
          · exact absurd rfl c5 -- CLOSED
def qVain (P : Pl) (D : Dy) (M M' : Md) (x y u : Int32) : Int32 × Md := bif inB 4 x then (if y < 0 ∨ u < nI 1 then (-4, mNo M 4) else if nI 100 ≤ y ∨ nI 30 < u then (-6, mNo M 6) else ((match lfo P D x.toNatClampNeg with | none => -9 | some r => nI (vnL r u.toNatClampNeg 101 y.toNatClampNeg 0)), M')) else (-1, mNo M 1)
theorem pm_mvain (M : Md) (C : MC) (P : Pl) (D : Dy) (pr : PR P (mno M)) (ok : PlOk P) (dk : DyOk P D 100) (df : DF P D 100) (cr : CRl D C) (di : DIn P D) (h3 : ∀ j, j < 80 → mno M j < 100) (cG : PM mu_X7_goTo 3 0 0 [.ref 0, .int (nI 99)] (mdB M) (eqP none (mdB (sC M C)))) (x y u : Int32) : PM mu_X7_vain 5 0 0 [.ref 0, .int x, .int y, .int u] (mdB M) (eqP (some (.int (qVain P D M (sC M C) x y u).1)) (mdB (qVain P D M (sC M C) x y u).2)) := by
  unfold qVain
  cases hj : inB 4 x with
  | false =>
    dsimp only [cond_false]
    refine PM.start (Or.inl (by decide +kernel)) rfl rfl rfl ?_
    intro X hX hR hx hin
    refine PW.aload_n hX dX7_vain_0 rfl rfl ?_
    refine PW.iload_n hX dX7_vain_1 rfl rfl ?_
    refine PW.vIi hX ml_X7_150 (pm_mnw M x) dX7_vain_2 17 rfl rfl rfl rfl rfl rfl rfl rfl rfl rfl rfl rfl rfl rfl rfl ?_
    rw [hj]
    refine PW.if_eq (tgt := 14) hX dX7_vain_5 (by decide) (fun c5 => ?_) (fun c5 => ?_)
    · first | rw [bI_d0] at c5 | rw [bI_eq0] at c5 | rw [nI_eq0 (by omega)] at c5 | skip
      exact absurd c5 (by decide) -- CLOSED
    · first | rw [bI_d0] at c5 | rw [bI_eq0] at c5 | rw [nI_eq0 (by omega)] at c5 | skip
      refine PW.aload_n hX dX7_vain_8 rfl rfl ?_
      refine PW.iconst (v := (-1)) hX dX7_vain_9 (by decide) ?_
      refine PW.vIi hX ml_X7_64 (pm_no M (-1) 1 (by decide) (by decide)) dX7_vain_10 17 rfl rfl rfl rfl rfl rfl rfl rfl rfl rfl rfl rfl rfl rfl rfl ?_
      refine PW.iret hX hR dX7_vain_13 rfl rfl ?_
      exact ⟨rfl, rfl⟩
  | true =>
    obtain ⟨o, ho, rfl⟩ := inB_of (by decide) hj
    dsimp only [cond_true]
    rw [nI_clamp (by omega)]
    by_cases h1 : y < 0 ∨ u < nI 1
    · rw [if_pos h1]
      refine PM.start (Or.inl (by decide +kernel)) rfl rfl rfl ?_
      intro X hX hR hx hin
      refine PW.aload_n hX dX7_vain_0 rfl rfl ?_
      refine PW.iload_n hX dX7_vain_1 rfl rfl ?_
      refine PW.vIi hX ml_X7_150 (pm_mnw M (nI o)) dX7_vain_2 17 rfl rfl rfl rfl rfl rfl rfl rfl rfl rfl rfl rfl rfl rfl rfl ?_
      rw [hj]
      refine PW.if_eq (tgt := 14) hX dX7_vain_5 (by decide) (fun c5 => ?_) (fun c5 => ?_)
      · refine PW.iload_n hX dX7_vain_14 rfl rfl ?_
        refine PW.if_lt (tgt := 23) hX dX7_vain_15 (by decide) (fun c15 => ?_) (fun c15 => ?_)
        · refine PW.aload_n hX dX7_vain_23 rfl rfl ?_
          refine PW.bipush (v := (-4)) hX dX7_vain_24 (by decide) ?_
          refine PW.vIi hX ml_X7_64 (pm_no M (-4) 4 (by decide) (by decide)) dX7_vain_26 17 rfl rfl rfl rfl rfl rfl rfl rfl rfl rfl rfl rfl rfl rfl rfl ?_
          refine PW.iret hX hR dX7_vain_29 rfl rfl ?_
          exact ⟨rfl, rfl⟩
        · refine PW.iload_n hX dX7_vain_18 rfl rfl ?_
          refine PW.iconst (v := nI 1) hX dX7_vain_19 (by decide) ?_
          refine PW.icmp_ge (tgt := 30) hX dX7_vain_20 (by decide) (fun c20 => ?_) (fun c20 => ?_)
          · exact absurd h1 (fun q => q.elim c15 (i32_nlt.mpr c20)) -- CLOSED
          · refine PW.aload_n hX dX7_vain_23 rfl rfl ?_
            refine PW.bipush (v := (-4)) hX dX7_vain_24 (by decide) ?_
            refine PW.vIi hX ml_X7_64 (pm_no M (-4) 4 (by decide) (by decide)) dX7_vain_26 17 rfl rfl rfl rfl rfl rfl rfl rfl rfl rfl rfl rfl rfl rfl rfl ?_
            refine PW.iret hX hR dX7_vain_29 rfl rfl ?_
            exact ⟨rfl, rfl⟩
      · exact absurd rfl c5 -- CLOSED
    · rw [if_neg h1]
      by_cases h2 : nI 100 ≤ y ∨ nI 30 < u
      · rw [if_pos h2]
        refine PM.start (Or.inl (by decide +kernel)) rfl rfl rfl ?_
        intro X hX hR hx hin
        refine PW.aload_n hX dX7_vain_0 rfl rfl ?_
        refine PW.iload_n hX dX7_vain_1 rfl rfl ?_
        refine PW.vIi hX ml_X7_150 (pm_mnw M (nI o)) dX7_vain_2 17 rfl rfl rfl rfl rfl rfl rfl rfl rfl rfl rfl rfl rfl rfl rfl ?_
        rw [hj]
        refine PW.if_eq (tgt := 14) hX dX7_vain_5 (by decide) (fun c5 => ?_) (fun c5 => ?_)
        · refine PW.iload_n hX dX7_vain_14 rfl rfl ?_
          refine PW.if_lt (tgt := 23) hX dX7_vain_15 (by decide) (fun c15 => ?_) (fun c15 => ?_)
          · exact absurd (Or.inl c15) h1 -- CLOSED
          · refine PW.iload_n hX dX7_vain_18 rfl rfl ?_
            refine PW.iconst (v := nI 1) hX dX7_vain_19 (by decide) ?_
            refine PW.icmp_ge (tgt := 30) hX dX7_vain_20 (by decide) (fun c20 => ?_) (fun c20 => ?_)
            · refine PW.iload_n hX dX7_vain_30 rfl rfl ?_
              refine PW.bipush (v := nI 99) hX dX7_vain_31 (by decide) ?_
              refine PW.icmp_gt (tgt := 42) hX dX7_vain_33 (by decide) (fun c33 => ?_) (fun c33 => ?_)
              · refine PW.aload_n hX dX7_vain_42 rfl rfl ?_
                refine PW.bipush (v := (-6)) hX dX7_vain_43 (by decide) ?_
                refine PW.vIi hX ml_X7_64 (pm_no M (-6) 6 (by decide) (by decide)) dX7_vain_45 17 rfl rfl rfl rfl rfl rfl rfl rfl rfl rfl rfl rfl rfl rfl rfl ?_
                refine PW.iret hX hR dX7_vain_48 rfl rfl ?_
                exact ⟨rfl, rfl⟩
              · refine PW.iload_n hX dX7_vain_36 rfl rfl ?_
                refine PW.bipush (v := nI 30) hX dX7_vain_37 (by decide) ?_
                refine PW.icmp_le (tgt := 49) hX dX7_vain_39 (by decide) (fun c39 => ?_) (fun c39 => ?_)
                · exact absurd h2 (fun q => q.elim (fun q => c33 (Int32.lt_of_lt_of_le (by decide) q)) (i32_nlt.mpr c39)) -- CLOSED
                · refine PW.aload_n hX dX7_vain_42 rfl rfl ?_
                  refine PW.bipush (v := (-6)) hX dX7_vain_43 (by decide) ?_
                  refine PW.vIi hX ml_X7_64 (pm_no M (-6) 6 (by decide) (by decide)) dX7_vain_45 17 rfl rfl rfl rfl rfl rfl rfl rfl rfl rfl rfl rfl rfl rfl rfl ?_
                  refine PW.iret hX hR dX7_vain_48 rfl rfl ?_
                  exact ⟨rfl, rfl⟩
            · exact absurd (Or.inr (i32_nle.mp c20)) h1 -- CLOSED
        · exact absurd rfl c5 -- CLOSED
      · rw [if_neg h2]
        obtain ⟨m, hm, rfl⟩ := nI_of (fun q => h1 (Or.inl q))
        obtain ⟨z, hz, rfl⟩ := nI_of (x := u) (fun q => h1 (Or.inr (Int32.lt_of_lt_of_le q (by decide))))
        rw [nI_clamp hm, nI_clamp hz]
        have m1 : m < 100 := by
          by_cases q : m < 100
          · exact q
          · exact absurd (Or.inl ((nI_leI (by omega) hm).mpr (by omega))) h2
        have z1 : 1 ≤ z := by
          by_cases q : 1 ≤ z
          · exact q
          · exact absurd (Or.inr ((nI_ltI hz (by omega)).mpr (by omega))) h1
        have z2 : z ≤ 30 := by
          by_cases q : z ≤ 30
          · exact q
          · exact absurd (Or.inr ((nI_ltI (by omega) hz).mpr (by omega))) h2
        have cW := pm_mwhen M C P D pr ok dk df cr di h3 cG o ho
        have hl := lfo_lt P D o dk.2.2.2.2.1
        cases hr0 : lfo P D o with
        | none =>
          rw [hr0] at cW
          refine PM.start (Or.inl (by decide +kernel)) rfl rfl rfl ?_
          intro X hX hR hx hin
          refine PW.aload_n hX dX7_vain_0 rfl rfl ?_
          refine PW.iload_n hX dX7_vain_1 rfl rfl ?_
          refine PW.vIi hX ml_X7_150 (pm_mnw M (nI o)) dX7_vain_2 17 rfl rfl rfl rfl rfl rfl rfl rfl rfl rfl rfl rfl rfl rfl rfl ?_
          rw [hj]
          refine PW.if_eq (tgt := 14) hX dX7_vain_5 (by decide) (fun c5 => ?_) (fun c5 => ?_)
          · first | rw [bI_d0] at c5 | rw [bI_eq0] at c5 | rw [nI_eq0 (by omega)] at c5 | skip
            refine PW.iload_n hX dX7_vain_14 rfl rfl ?_
            refine PW.if_lt (tgt := 23) hX dX7_vain_15 (by decide) (fun c15 => ?_) (fun c15 => ?_)
            · try rw [nI_lt0 (by omega)] at c15
              exact c15.elim -- CLOSED
            · try rw [nI_lt0 (by omega)] at c15
              refine PW.iload_n hX dX7_vain_18 rfl rfl ?_
              refine PW.iconst (v := nI 1) hX dX7_vain_19 (by decide) ?_
              refine PW.icmp_ge (tgt := 30) hX dX7_vain_20 (by decide) (fun c20 => ?_) (fun c20 => ?_)
              · try rw [nI_leI (by omega) (by omega)] at c20
                refine PW.iload_n hX dX7_vain_30 rfl rfl ?_
                refine PW.bipush (v := nI 99) hX dX7_vain_31 (by decide) ?_
                refine PW.icmp_gt (tgt := 42) hX dX7_vain_33 (by decide) (fun c33 => ?_) (fun c33 => ?_)
                · try rw [nI_ltI (by omega) (by omega)] at c33
                  exfalso; omega -- CLOSED
                · try rw [nI_ltI (by omega) (by omega)] at c33
                  refine PW.iload_n hX dX7_vain_36 rfl rfl ?_
                  refine PW.bipush (v := nI 30) hX dX7_vain_37 (by decide) ?_
                  refine PW.icmp_le (tgt := 49) hX dX7_vain_39 (by decide) (fun c39 => ?_) (fun c39 => ?_)
                  · try rw [nI_leI (by omega) (by omega)] at c39
                    refine PW.aload_n hX dX7_vain_49 rfl rfl ?_
                    refine PW.iload_n hX dX7_vain_50 rfl rfl ?_
                    refine PW.vIi hX ml_X7_157 (cW) dX7_vain_51 17 rfl rfl rfl rfl rfl rfl rfl rfl rfl rfl rfl rfl rfl rfl rfl ?_
                    refine PW.istore hX dX7_vain_54 rfl ?_
                    refine PW.iload hX dX7_vain_56 rfl ?_
                    refine PW.bipush (v := (-9)) hX dX7_vain_58 (by decide) ?_
                    refine PW.icmp_ne (tgt := 66) hX dX7_vain_60 (by decide) (fun c60 => ?_) (fun c60 => ?_)
                    · first | rw [nI_eq (by omega) (by omega)] at c60 | rw [oI_eq9] at c60 | skip
                      exact absurd trivial c60 -- CLOSED
                    · first | rw [nI_eq (by omega) (by omega)] at c60 | rw [oI_eq9] at c60 | skip
                      refine PW.bipush (v := (-9)) hX dX7_vain_63 (by decide) ?_
                      refine PW.iret hX hR dX7_vain_65 rfl rfl ?_
                      exact ⟨rfl, rfl⟩
                  · try rw [nI_leI (by omega) (by omega)] at c39
                    exfalso; omega -- CLOSED
              · try rw [nI_leI (by omega) (by omega)] at c20
                exfalso; omega -- CLOSED
          · first | rw [bI_d0] at c5 | rw [bI_eq0] at c5 | rw [nI_eq0 (by omega)] at c5 | skip
            exact absurd rfl c5 -- CLOSED
        | some r =>
          rw [hr0] at cW
          have hr1 := hl r hr0
          dsimp only
          refine PM.start (Or.inl (by decide +kernel)) rfl rfl rfl ?_
          intro X hX hR hx hin
          have loop : ∀ n c w : Nat, r < c + n → c < 200 → vnL r z 101 m 0 = vnL r z n c w → PW X 72 [some (.ref 0), some (.int (nI o)), some (.int (nI m)), some (.int (nI z)), some (.int (nI r)), some (.int (nI w)), some (.int (nI c))] [] (mdB (sC M C)) 0 0 := by
            intro n
            induction n with
            | zero =>
              intro c w h3 h4 h5
              rw [h5] at hR
              refine PW.iload hX dX7_vain_72 rfl ?_
              refine PW.iload hX dX7_vain_74 rfl ?_
              refine PW.icmp_ge (tgt := 91) hX dX7_vain_76 (by decide) (fun c76 => ?_) (fun c76 => ?_)
              · try rw [nI_leI (by omega) (by omega)] at c76
                refine PW.iload hX dX7_vain_91 rfl ?_
                refine PW.iret hX hR dX7_vain_93 rfl rfl ?_
                exact ⟨rfl, rfl⟩
              · try rw [nI_leI (by omega) (by omega)] at c76
                exfalso; omega -- CLOSED
            | succ n ih =>
              intro c w h3 h4 h5
              rw [show vnL r z (n + 1) c w = if c < r then vnL r z n (c + z) (w + 1) else w from rfl] at h5
              by_cases hc : c < r
              · rw [if_pos hc] at h5
                refine PW.iload hX dX7_vain_72 rfl ?_
                refine PW.iload hX dX7_vain_74 rfl ?_
                refine PW.icmp_ge (tgt := 91) hX dX7_vain_76 (by decide) (fun c76 => ?_) (fun c76 => ?_)
                · try rw [nI_leI (by omega) (by omega)] at c76
                  exfalso; omega -- CLOSED
                · try rw [nI_leI (by omega) (by omega)] at c76
                  first | refine PW.iinc hX dX7_vain_79 rfl (iincN _) ?_ | refine PW.iinc hX dX7_vain_79 rfl rfl ?_
                  refine PW.iload hX dX7_vain_82 rfl ?_
                  refine PW.iload_n hX dX7_vain_84 rfl rfl ?_
                  refine PW.iadd hX dX7_vain_85 ?_
                  refine PW.top (nI_add c z) ?_
                  refine PW.istore hX dX7_vain_86 rfl ?_
                  refine PW.goto (tgt := 72) hX dX7_vain_88 (by decide) ?_
                  exact ih (c + z) (w + 1) (by omega) (by omega) h5
              · rw [if_neg hc] at h5
                rw [h5] at hR
                refine PW.iload hX dX7_vain_72 rfl ?_
                refine PW.iload hX dX7_vain_74 rfl ?_
                refine PW.icmp_ge (tgt := 91) hX dX7_vain_76 (by decide) (fun c76 => ?_) (fun c76 => ?_)
                · try rw [nI_leI (by omega) (by omega)] at c76
                  refine PW.iload hX dX7_vain_91 rfl ?_
                  refine PW.iret hX hR dX7_vain_93 rfl rfl ?_
                  exact ⟨rfl, rfl⟩
                · try rw [nI_leI (by omega) (by omega)] at c76
                  exfalso; omega -- CLOSED
          have nx := loop 101 m 0 (by omega) (by omega) rfl
          refine PW.aload_n hX dX7_vain_0 rfl rfl ?_
          refine PW.iload_n hX dX7_vain_1 rfl rfl ?_
          refine PW.vIi hX ml_X7_150 (pm_mnw M (nI o)) dX7_vain_2 17 rfl rfl rfl rfl rfl rfl rfl rfl rfl rfl rfl rfl rfl rfl rfl ?_
          rw [hj]
          refine PW.if_eq (tgt := 14) hX dX7_vain_5 (by decide) (fun c5 => ?_) (fun c5 => ?_)
          · first | rw [bI_d0] at c5 | rw [bI_eq0] at c5 | rw [nI_eq0 (by omega)] at c5 | skip
            refine PW.iload_n hX dX7_vain_14 rfl rfl ?_
            refine PW.if_lt (tgt := 23) hX dX7_vain_15 (by decide) (fun c15 => ?_) (fun c15 => ?_)
            · try rw [nI_lt0 (by omega)] at c15
              exact c15.elim -- CLOSED
            · try rw [nI_lt0 (by omega)] at c15
              refine PW.iload_n hX dX7_vain_18 rfl rfl ?_
              refine PW.iconst (v := nI 1) hX dX7_vain_19 (by decide) ?_
              refine PW.icmp_ge (tgt := 30) hX dX7_vain_20 (by decide) (fun c20 => ?_) (fun c20 => ?_)
              · try rw [nI_leI (by omega) (by omega)] at c20
                refine PW.iload_n hX dX7_vain_30 rfl rfl ?_
                refine PW.bipush (v := nI 99) hX dX7_vain_31 (by decide) ?_
                refine PW.icmp_gt (tgt := 42) hX dX7_vain_33 (by decide) (fun c33 => ?_) (fun c33 => ?_)
                · try rw [nI_ltI (by omega) (by omega)] at c33
                  exfalso; omega -- CLOSED
                · try rw [nI_ltI (by omega) (by omega)] at c33
                  refine PW.iload_n hX dX7_vain_36 rfl rfl ?_
                  refine PW.bipush (v := nI 30) hX dX7_vain_37 (by decide) ?_
                  refine PW.icmp_le (tgt := 49) hX dX7_vain_39 (by decide) (fun c39 => ?_) (fun c39 => ?_)
                  · try rw [nI_leI (by omega) (by omega)] at c39
                    refine PW.aload_n hX dX7_vain_49 rfl rfl ?_
                    refine PW.iload_n hX dX7_vain_50 rfl rfl ?_
                    refine PW.vIi hX ml_X7_157 (cW) dX7_vain_51 17 rfl rfl rfl rfl rfl rfl rfl rfl rfl rfl rfl rfl rfl rfl rfl ?_
                    refine PW.top (show _ = nI r from rfl) ?_
                    refine PW.istore hX dX7_vain_54 rfl ?_
                    refine PW.iload hX dX7_vain_56 rfl ?_
                    refine PW.bipush (v := (-9)) hX dX7_vain_58 (by decide) ?_
                    refine PW.icmp_ne (tgt := 66) hX dX7_vain_60 (by decide) (fun c60 => ?_) (fun c60 => ?_)
                    · first | rw [nI_eq (by omega) (by omega)] at c60 | rw [oI_eq9] at c60 | skip
                      refine PW.iconst (v := nI 0) hX dX7_vain_66 (by decide) ?_
                      refine PW.istore hX dX7_vain_67 rfl ?_
                      refine PW.iload_n hX dX7_vain_69 rfl rfl ?_
                      refine PW.istore hX dX7_vain_70 rfl ?_
                      exact nx
                    · first | rw [nI_eq (by omega) (by omega)] at c60 | rw [oI_eq9] at c60 | skip
                      exact absurd c60 (nI_ne9 (by omega)) -- CLOSED
                  · try rw [nI_leI (by omega) (by omega)] at c39
                    exfalso; omega -- CLOSED
              · try rw [nI_leI (by omega) (by omega)] at c20
                exfalso; omega -- CLOSED
          · first | rw [bI_d0] at c5 | rw [bI_eq0] at c5 | rw [nI_eq0 (by omega)] at c5 | skip
            exact absurd rfl c5 -- CLOSED
