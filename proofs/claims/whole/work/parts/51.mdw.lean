/-! ===== the reference's day, walked ===== -/
theorem iincM (k : Nat) : nI (k + 1) + Int32.ofInt (-1) = nI k := by
  rw [← iincN, Int32.add_assoc, show Int32.ofInt 1 + Int32.ofInt (-1) = 0 by decide, Int32.add_zero]
theorem md_le (M : Md) (C : MC) (k v : Nat) : (mdB (sC M C)).set 9 (.inl (0, 6, upd (fun j => nI (cle C j)) k (nI v))) = mdB (sC M (va_up (cle C) k v, C.2)) := by rw [upd_nI]; rfl
theorem md_ou (M : Md) (C : MC) (k v : Nat) : (mdB (sC M C)).set 10 (.inl (0, 100, upd (fun j => nI (cou C j)) k (nI v))) = mdB (sC M (cle C, va_up (cou C) k v, C.2.2)) := by rw [upd_nI]; rfl
theorem md_oa (M : Md) (C : MC) (k v : Nat) : (mdB (sC M C)).set 11 (.inl (0, 100, upd (fun j => nI (coa C j)) k (nI v))) = mdB (sC M (cle C, cou C, va_up (coa C) k v, C.2.2.2)) := by rw [upd_nI]; rfl
theorem md_tr (M : Md) (C : MC) (k v : Nat) : (mdB (sC M C)).set 12 (.inl (0, 100, upd (fun j => nI (ctr C j)) k (nI v))) = mdB (sC M (cle C, cou C, coa C, cos C, va_up (ctr C) k v, C.2.2.2.2.2)) := by rw [upd_nI]; rfl
theorem mSh_step (tr : Nat → Nat) (ly k : Nat) (hk : k + 1 ≤ ly) : va_up (mSh tr ly (k + 1)) (k + 1) (mSh tr ly (k + 1) k) = mSh tr ly k := by
  funext j
  by_cases e : j = k + 1
  · subst e
    rw [va_up_self]
    unfold mSh
    rw [if_neg (by omega), if_pos (by omega)]
    rfl
  · rw [va_up_ne _ _ e]
    unfold mSh
    by_cases h : k + 1 < j ∧ j ≤ ly
    · rw [if_pos h, if_pos (by omega)]
    · rw [if_neg h, if_neg (by omega)]
theorem mSh_top (tr : Nat → Nat) (ly : Nat) : mSh tr ly ly = tr := by
  funext j
  unfold mSh
  rw [if_neg (by omega)]
theorem pm_mwt (M : Md) (j m : Nat) (hj : j < 6) (hm : m < 1000) (h1 : mle M j < 1000) (h2 : mno M (30 + j) < 1000) : PM mu_X7_waits 0 0 0 [.ref 0, .int (nI j), .int (nI m)] (mdB M) (eqP (some (.int (bI (mWt (mno M) (mle M) m j)))) (mdB M)) := by
  refine PM.start (Or.inl (by decide +kernel)) rfl rfl rfl ?_
  intro X hX hR hx hin
  have h26 : mWt (mno M) (mle M) m j = false → PW X 26 [some (.ref 0), some (.int (nI j)), some (.int (nI m))] [] (mdB M) 0 0 := by
    intro e
    rw [e] at hR
    refine PW.iconst (v := nI 0) hX dX7_waits_26 (by decide) ?_
    refine PW.zret hX hR dX7_waits_27 (by first | exact Or.inl rfl | exact Or.inr rfl | assumption) rfl rfl ?_
    exact ⟨rfl, rfl⟩
  refine PW.aload_n hX dX7_waits_0 rfl rfl ?_
  refine PW.getfield hX fl_X7_35 dX7_waits_1 rfl rfl ?_
  refine PW.iload_n hX dX7_waits_4 rfl rfl ?_
  refine PW.iaload hX dX7_waits_5 rfl rfl rfl (by omega) ?_
  refine PW.top (show _ = nI (mle M j) from rfl) ?_
  refine PW.if_le (tgt := 26) hX dX7_waits_6 (by decide) (fun c6 => ?_) (fun c6 => ?_)
  · try rw [nI_le0 (by omega)] at c6
    exact h26 (decide_eq_false (fun q => by omega))
  · try rw [nI_le0 (by omega)] at c6
    refine PW.aload_n hX dX7_waits_9 rfl rfl ?_
    refine PW.getfield hX fl_X7_13 dX7_waits_10 rfl rfl ?_
    refine PW.bipush (v := nI 30) hX dX7_waits_13 (by decide) ?_
    refine PW.iload_n hX dX7_waits_15 rfl rfl ?_
    refine PW.iadd hX dX7_waits_16 ?_
    refine PW.top (nI_add 30 j) ?_
    refine PW.iaload hX dX7_waits_17 rfl rfl rfl (by omega) ?_
    refine PW.top (show _ = nI (mno M (30 + j)) from rfl) ?_
    refine PW.iload_n hX dX7_waits_18 rfl rfl ?_
    refine PW.icmp_gt (tgt := 26) hX dX7_waits_19 (by decide) (fun c19 => ?_) (fun c19 => ?_)
    · try rw [nI_ltI (by omega) (by omega)] at c19
      exact h26 (decide_eq_false (fun q => by omega))
    · try rw [nI_ltI (by omega) (by omega)] at c19
      refine PW.iconst (v := nI 1) hX dX7_waits_22 (by decide) ?_
      refine PW.goto (tgt := 27) hX dX7_waits_23 (by decide) ?_
      refine PW.zret hX hR dX7_waits_27 (by first | exact Or.inl rfl | exact Or.inr rfl | assumption) rfl rfl ?_
      rw [show mWt (mno M) (mle M) m j = true from decide_eq_true ⟨by omega, by omega⟩]
      exact ⟨rfl, rfl⟩
theorem pm_mah (M : Md) (a b : Nat) (ha : a < 6) (hb : b < 6) (hk : mno M 2 < 1000) (h1 : mle M a < 1000) (h2 : mle M b < 1000) (h3 : ∀ j, j < 80 → mno M j < 1000) : PM mu_X7_ahead 0 0 0 [.ref 0, .int (nI (mno M 2)), .int (nI a), .int (nI b)] (mdB M) (eqP (some (.int (bI (mAh (mno M) (mle M) a b)))) (mdB M)) := by
  have b1 := h3 (10 + a) (by omega)
  have b2 := h3 (10 + b) (by omega)
  have b3 := h3 (30 + a) (by omega)
  have b4 := h3 (30 + b) (by omega)
  refine PM.start (Or.inl (by decide +kernel)) rfl rfl rfl ?_
  intro X hX hR hx hin
  have h99 : mAh (mno M) (mle M) a b = decide (mno M (30 + a) < mno M (30 + b)) → PW X 99 [some (.ref 0), some (.int (nI (mno M 2))), some (.int (nI a)), some (.int (nI b))] [] (mdB M) 0 0 := by
    intro e
    rw [e] at hR
    refine PW.aload_n hX dX7_ahead_99 rfl rfl ?_
    refine PW.getfield hX fl_X7_13 dX7_ahead_100 rfl rfl ?_
    refine PW.bipush (v := nI 30) hX dX7_ahead_103 (by decide) ?_
    refine PW.iload_n hX dX7_ahead_105 rfl rfl ?_
    refine PW.iadd hX dX7_ahead_106 ?_
    refine PW.top (nI_add 30 a) ?_
    refine PW.iaload hX dX7_ahead_107 rfl rfl rfl (by omega) ?_
    refine PW.top (show _ = nI (mno M (30 + a)) from rfl) ?_
    refine PW.aload_n hX dX7_ahead_108 rfl rfl ?_
    refine PW.getfield hX fl_X7_13 dX7_ahead_109 rfl rfl ?_
    refine PW.bipush (v := nI 30) hX dX7_ahead_112 (by decide) ?_
    refine PW.iload_n hX dX7_ahead_114 rfl rfl ?_
    refine PW.iadd hX dX7_ahead_115 ?_
    refine PW.top (nI_add 30 b) ?_
    refine PW.iaload hX dX7_ahead_116 rfl rfl rfl (by omega) ?_
    refine PW.top (show _ = nI (mno M (30 + b)) from rfl) ?_
    refine PW.icmp_ge (tgt := 124) hX dX7_ahead_117 (by decide) (fun c117 => ?_) (fun c117 => ?_)
    · try rw [nI_leI (by omega) (by omega)] at c117
      refine PW.iconst (v := nI 0) hX dX7_ahead_124 (by decide) ?_
      refine PW.zret hX hR dX7_ahead_125 (by first | exact Or.inl rfl | exact Or.inr rfl | assumption) rfl rfl ?_
      rw [decide_eq_false (by omega)]
      exact ⟨rfl, rfl⟩
    · try rw [nI_leI (by omega) (by omega)] at c117
      refine PW.iconst (v := nI 1) hX dX7_ahead_120 (by decide) ?_
      refine PW.goto (tgt := 125) hX dX7_ahead_121 (by decide) ?_
      refine PW.zret hX hR dX7_ahead_125 (by first | exact Or.inl rfl | exact Or.inr rfl | assumption) rfl rfl ?_
      rw [decide_eq_true (by omega)]
      exact ⟨rfl, rfl⟩
  have h63 : (mno M 2 = 1 ∨ mno M 2 = 5) → ¬ (mno M 2 = 5 ∧ ¬ mno M (10 + a) = mno M (10 + b)) → PW X 63 [some (.ref 0), some (.int (nI (mno M 2))), some (.int (nI a)), some (.int (nI b))] [] (mdB M) 0 0 := by
    intro hh hn
    have e : mAh (mno M) (mle M) a b = if (mno M 2 = 1 ∨ mno M 2 = 5) ∧ ¬ mle M a = mle M b then decide (mle M a < mle M b) else decide (mno M (30 + a) < mno M (30 + b)) := by unfold mAh; rw [if_neg hn]
    refine PW.aload_n hX dX7_ahead_63 rfl rfl ?_
    refine PW.getfield hX fl_X7_35 dX7_ahead_64 rfl rfl ?_
    refine PW.iload_n hX dX7_ahead_67 rfl rfl ?_
    refine PW.iaload hX dX7_ahead_68 rfl rfl rfl (by omega) ?_
    refine PW.top (show _ = nI (mle M a) from rfl) ?_
    refine PW.aload_n hX dX7_ahead_69 rfl rfl ?_
    refine PW.getfield hX fl_X7_35 dX7_ahead_70 rfl rfl ?_
    refine PW.iload_n hX dX7_ahead_73 rfl rfl ?_
    refine PW.iaload hX dX7_ahead_74 rfl rfl rfl (by omega) ?_
    refine PW.top (show _ = nI (mle M b) from rfl) ?_
    refine PW.icmp_eq (tgt := 99) hX dX7_ahead_75 (by decide) (fun c75 => ?_) (fun c75 => ?_)
    · first | rw [nI_eq (by omega) (by omega)] at c75 | rw [oI_eq9] at c75 | skip
      exact h99 (by rw [e, if_neg (fun q => q.2 c75)])
    · first | rw [nI_eq (by omega) (by omega)] at c75 | rw [oI_eq9] at c75 | skip
      refine PW.aload_n hX dX7_ahead_78 rfl rfl ?_
      refine PW.getfield hX fl_X7_35 dX7_ahead_79 rfl rfl ?_
      refine PW.iload_n hX dX7_ahead_82 rfl rfl ?_
      refine PW.iaload hX dX7_ahead_83 rfl rfl rfl (by omega) ?_
      refine PW.top (show _ = nI (mle M a) from rfl) ?_
      refine PW.aload_n hX dX7_ahead_84 rfl rfl ?_
      refine PW.getfield hX fl_X7_35 dX7_ahead_85 rfl rfl ?_
      refine PW.iload_n hX dX7_ahead_88 rfl rfl ?_
      refine PW.iaload hX dX7_ahead_89 rfl rfl rfl (by omega) ?_
      refine PW.top (show _ = nI (mle M b) from rfl) ?_
      refine PW.icmp_ge (tgt := 97) hX dX7_ahead_90 (by decide) (fun c90 => ?_) (fun c90 => ?_)
      · try rw [nI_leI (by omega) (by omega)] at c90
        refine PW.iconst (v := nI 0) hX dX7_ahead_97 (by decide) ?_
        refine PW.zret hX hR dX7_ahead_98 (by first | exact Or.inl rfl | exact Or.inr rfl | assumption) rfl rfl ?_
        rw [e, if_pos ⟨hh, c75⟩, decide_eq_false (by omega)]
        exact ⟨rfl, rfl⟩
      · try rw [nI_leI (by omega) (by omega)] at c90
        refine PW.iconst (v := nI 1) hX dX7_ahead_93 (by decide) ?_
        refine PW.goto (tgt := 98) hX dX7_ahead_94 (by decide) ?_
        refine PW.zret hX hR dX7_ahead_98 (by first | exact Or.inl rfl | exact Or.inr rfl | assumption) rfl rfl ?_
        rw [e, if_pos ⟨hh, c75⟩, decide_eq_true (by omega)]
        exact ⟨rfl, rfl⟩
  have h53 : ¬ (mno M 2 = 5 ∧ ¬ mno M (10 + a) = mno M (10 + b)) → PW X 53 [some (.ref 0), some (.int (nI (mno M 2))), some (.int (nI a)), some (.int (nI b))] [] (mdB M) 0 0 := by
    intro hn
    refine PW.iload_n hX dX7_ahead_53 rfl rfl ?_
    refine PW.iconst (v := nI 1) hX dX7_ahead_54 (by decide) ?_
    refine PW.icmp_eq (tgt := 63) hX dX7_ahead_55 (by decide) (fun c55 => ?_) (fun c55 => ?_)
    · first | rw [nI_eq (by omega) (by omega)] at c55 | rw [oI_eq9] at c55 | skip
      exact h63 (Or.inl c55) hn
    · first | rw [nI_eq (by omega) (by omega)] at c55 | rw [oI_eq9] at c55 | skip
      refine PW.iload_n hX dX7_ahead_58 rfl rfl ?_
      refine PW.iconst (v := nI 5) hX dX7_ahead_59 (by decide) ?_
      refine PW.icmp_ne (tgt := 99) hX dX7_ahead_60 (by decide) (fun c60 => ?_) (fun c60 => ?_)
      · first | rw [nI_eq (by omega) (by omega)] at c60 | rw [oI_eq9] at c60 | skip
        exact h99 (by unfold mAh; rw [if_neg hn, if_neg (fun q => by omega)])
      · first | rw [nI_eq (by omega) (by omega)] at c60 | rw [oI_eq9] at c60 | skip
        exact h63 (Or.inr c60) hn
  refine PW.iload_n hX dX7_ahead_0 rfl rfl ?_
  refine PW.iconst (v := nI 5) hX dX7_ahead_1 (by decide) ?_
  refine PW.icmp_ne (tgt := 53) hX dX7_ahead_2 (by decide) (fun c2 => ?_) (fun c2 => ?_)
  · first | rw [nI_eq (by omega) (by omega)] at c2 | rw [oI_eq9] at c2 | skip
    exact h53 (fun q => c2 q.1)
  · first | rw [nI_eq (by omega) (by omega)] at c2 | rw [oI_eq9] at c2 | skip
    refine PW.aload_n hX dX7_ahead_5 rfl rfl ?_
    refine PW.getfield hX fl_X7_13 dX7_ahead_6 rfl rfl ?_
    refine PW.bipush (v := nI 10) hX dX7_ahead_9 (by decide) ?_
    refine PW.iload_n hX dX7_ahead_11 rfl rfl ?_
    refine PW.iadd hX dX7_ahead_12 ?_
    refine PW.top (nI_add 10 a) ?_
    refine PW.iaload hX dX7_ahead_13 rfl rfl rfl (by omega) ?_
    refine PW.top (show _ = nI (mno M (10 + a)) from rfl) ?_
    refine PW.aload_n hX dX7_ahead_14 rfl rfl ?_
    refine PW.getfield hX fl_X7_13 dX7_ahead_15 rfl rfl ?_
    refine PW.bipush (v := nI 10) hX dX7_ahead_18 (by decide) ?_
    refine PW.iload_n hX dX7_ahead_20 rfl rfl ?_
    refine PW.iadd hX dX7_ahead_21 ?_
    refine PW.top (nI_add 10 b) ?_
    refine PW.iaload hX dX7_ahead_22 rfl rfl rfl (by omega) ?_
    refine PW.top (show _ = nI (mno M (10 + b)) from rfl) ?_
    refine PW.icmp_eq (tgt := 53) hX dX7_ahead_23 (by decide) (fun c23 => ?_) (fun c23 => ?_)
    · first | rw [nI_eq (by omega) (by omega)] at c23 | rw [oI_eq9] at c23 | skip
      exact h53 (fun q => q.2 c23)
    · first | rw [nI_eq (by omega) (by omega)] at c23 | rw [oI_eq9] at c23 | skip
      refine PW.aload_n hX dX7_ahead_26 rfl rfl ?_
      refine PW.getfield hX fl_X7_13 dX7_ahead_27 rfl rfl ?_
      refine PW.bipush (v := nI 10) hX dX7_ahead_30 (by decide) ?_
      refine PW.iload_n hX dX7_ahead_32 rfl rfl ?_
      refine PW.iadd hX dX7_ahead_33 ?_
      refine PW.top (nI_add 10 a) ?_
      refine PW.iaload hX dX7_ahead_34 rfl rfl rfl (by omega) ?_
      refine PW.top (show _ = nI (mno M (10 + a)) from rfl) ?_
      refine PW.aload_n hX dX7_ahead_35 rfl rfl ?_
      refine PW.getfield hX fl_X7_13 dX7_ahead_36 rfl rfl ?_
      refine PW.bipush (v := nI 10) hX dX7_ahead_39 (by decide) ?_
      refine PW.iload_n hX dX7_ahead_41 rfl rfl ?_
      refine PW.iadd hX dX7_ahead_42 ?_
      refine PW.top (nI_add 10 b) ?_
      refine PW.iaload hX dX7_ahead_43 rfl rfl rfl (by omega) ?_
      refine PW.top (show _ = nI (mno M (10 + b)) from rfl) ?_
      refine PW.icmp_ge (tgt := 51) hX dX7_ahead_44 (by decide) (fun c44 => ?_) (fun c44 => ?_)
      · try rw [nI_leI (by omega) (by omega)] at c44
        refine PW.iconst (v := nI 0) hX dX7_ahead_51 (by decide) ?_
        refine PW.zret hX hR dX7_ahead_52 (by first | exact Or.inl rfl | exact Or.inr rfl | assumption) rfl rfl ?_
        rw [show mAh (mno M) (mle M) a b = false by unfold mAh; rw [if_pos ⟨c2, c23⟩, decide_eq_false (by omega)]]
        exact ⟨rfl, rfl⟩
      · try rw [nI_leI (by omega) (by omega)] at c44
        refine PW.iconst (v := nI 1) hX dX7_ahead_47 (by decide) ?_
        refine PW.goto (tgt := 52) hX dX7_ahead_48 (by decide) ?_
        refine PW.zret hX hR dX7_ahead_52 (by first | exact Or.inl rfl | exact Or.inr rfl | assumption) rfl rfl ?_
        rw [show mAh (mno M) (mle M) a b = true by unfold mAh; rw [if_pos ⟨c2, c23⟩, decide_eq_true (by omega)]]
        exact ⟨rfl, rfl⟩
theorem pm_mch (M : Md) (m l : Nat) (hm : m < 1000) (n0 : 0 < mno M 0) (n6 : mno M 0 ≤ 6) (hl : l < 1000) (h1 : ∀ j, j < mno M 0 → mle M j < 1000) (h3 : ∀ j, j < 80 → mno M j < 1000) : PM mu_X7_chosen 1 0 0 [.ref 0, .int (nI (mno M 2)), .int (nI m), .int (nI l)] (mdB M) (eqP (some (.int (oI (mCh (mno M) (mle M) m l (mno M 0))))) (mdB M)) := by
  have hk := h3 2 (by decide)
  refine PM.start (Or.inl (by decide +kernel)) rfl rfl rfl ?_
  intro X hX hR hx hin
  have loop : ∀ n i : Nat, i ≤ mno M 0 → mno M 0 < i + n → PW X 7 [some (.ref 0), some (.int (nI (mno M 2))), some (.int (nI m)), some (.int (nI l)), some (.int (oI (mCh (mno M) (mle M) m l i))), some (.int (nI (i + 1))), none] [] (mdB M) 0 0 := by
    intro n
    induction n with
    | zero => intro i h1 h2; exact absurd h2 (by omega)
    | succ n ih =>
      intro i hi1 hi2
      by_cases hi : i = mno M 0
      · subst hi
        refine PW.iload hX dX7_chosen_7 rfl ?_
        refine PW.aload_n hX dX7_chosen_9 rfl rfl ?_
        refine PW.getfield hX fl_X7_13 dX7_chosen_10 rfl rfl ?_
        refine PW.iconst (v := nI 0) hX dX7_chosen_13 (by decide) ?_
        refine PW.iaload (k := 0) hX dX7_chosen_14 rfl rfl rfl (by decide) ?_
        refine PW.top (show _ = nI (mno M 0) from rfl) ?_
        refine PW.icmp_gt (tgt := 87) hX dX7_chosen_15 (by decide) (fun c15 => ?_) (fun c15 => ?_)
        · try rw [nI_ltI (by omega) (by omega)] at c15
          refine PW.iload hX dX7_chosen_87 rfl ?_
          refine PW.iret hX hR dX7_chosen_89 rfl rfl ?_
          exact ⟨rfl, rfl⟩
        · try rw [nI_ltI (by omega) (by omega)] at c15
          exfalso; omega -- CLOSED
      · have ha : mPk (mno M) l i < mno M 0 := by
          unfold mPk
          split
          · exact Nat.mod_lt _ n0
          · omega
        have hla := h1 _ ha
        have nx := ih (i + 1) (by omega) (by omega)
        have h81 : ∀ z, mCh (mno M) (mle M) m l (i + 1) = z → PW X 81 [some (.ref 0), some (.int (nI (mno M 2))), some (.int (nI m)), some (.int (nI l)), some (.int (oI z)), some (.int (nI (i + 1))), some (.int (nI (mPk (mno M) l i)))] [] (mdB M) 0 0 := by
          rintro z rfl
          first | refine PW.iinc hX dX7_chosen_81 rfl (iincN _) ?_ | refine PW.iinc hX dX7_chosen_81 rfl rfl ?_
          refine PW.goto (tgt := 7) hX dX7_chosen_84 (by decide) ?_
          refine PW.clr 6 ?_
          exact nx
        have h77 : mCh (mno M) (mle M) m l (i + 1) = some (mPk (mno M) l i) → ∀ z, PW X 77 [some (.ref 0), some (.int (nI (mno M 2))), some (.int (nI m)), some (.int (nI l)), some (.int (oI z)), some (.int (nI (i + 1))), some (.int (nI (mPk (mno M) l i)))] [] (mdB M) 0 0 := by
          intro e z
          have h := h81 _ e
          refine PW.iload hX dX7_chosen_77 rfl ?_
          refine PW.istore hX dX7_chosen_79 rfl ?_
          exact h
        have h41 : ∀ v : Int32, v = nI (mPk (mno M) l i) → PW X 41 [some (.ref 0), some (.int (nI (mno M 2))), some (.int (nI m)), some (.int (nI l)), some (.int (oI (mCh (mno M) (mle M) m l i))), some (.int (nI (i + 1))), none] [.int v] (mdB M) 0 0 := by
          rintro v rfl
          have h30 := h3 (30 + mPk (mno M) l i) (by omega)
          cases hw : mWt (mno M) (mle M) m (mPk (mno M) l i) with
          | false =>
            have e : mCh (mno M) (mle M) m l (i + 1) = mCh (mno M) (mle M) m l i := by
              rw [mCh, hw]; cases mCh (mno M) (mle M) m l i <;> rfl
            refine PW.istore hX dX7_chosen_41 rfl ?_
            refine PW.aload_n hX dX7_chosen_43 rfl rfl ?_
            refine PW.iload hX dX7_chosen_44 rfl ?_
            refine PW.iload_n hX dX7_chosen_46 rfl rfl ?_
            refine PW.vR hX ml_X7_106 (pm_mwt M (mPk (mno M) l i) m (by omega) hm hla h30) dX7_chosen_47 [0, 1, 2, 3, 4, 5, 6, 7, 8, 9, 10, 11, 12, 13, 14, 15, 16] rfl rfl rfl rfl rfl rfl rfl rfl rfl rfl rfl rfl rfl ?_
            refine PW.top (congrArg bI hw) ?_
            refine PW.if_eq (tgt := 81) hX dX7_chosen_50 (by decide) (fun c50 => ?_) (fun c50 => ?_)
            · first | rw [bI_d0] at c50 | rw [bI_eq0] at c50 | rw [nI_eq0 (by omega)] at c50 | skip
              exact h81 _ e
            · first | rw [bI_d0] at c50 | rw [bI_eq0] at c50 | rw [nI_eq0 (by omega)] at c50 | skip
              exact absurd rfl c50 -- CLOSED
          | true =>
            cases hc : mCh (mno M) (mle M) m l i with
            | none =>
              have e : mCh (mno M) (mle M) m l (i + 1) = some (mPk (mno M) l i) := by rw [mCh, hw, hc]; rfl
              refine PW.istore hX dX7_chosen_41 rfl ?_
              refine PW.aload_n hX dX7_chosen_43 rfl rfl ?_
              refine PW.iload hX dX7_chosen_44 rfl ?_
              refine PW.iload_n hX dX7_chosen_46 rfl rfl ?_
              refine PW.vR hX ml_X7_106 (pm_mwt M (mPk (mno M) l i) m (by omega) hm hla h30) dX7_chosen_47 [0, 1, 2, 3, 4, 5, 6, 7, 8, 9, 10, 11, 12, 13, 14, 15, 16] rfl rfl rfl rfl rfl rfl rfl rfl rfl rfl rfl rfl rfl ?_
              refine PW.top (congrArg bI hw) ?_
              refine PW.if_eq (tgt := 81) hX dX7_chosen_50 (by decide) (fun c50 => ?_) (fun c50 => ?_)
              · first | rw [bI_d0] at c50 | rw [bI_eq0] at c50 | rw [nI_eq0 (by omega)] at c50 | skip
                exact absurd c50 (by decide) -- CLOSED
              · first | rw [bI_d0] at c50 | rw [bI_eq0] at c50 | rw [nI_eq0 (by omega)] at c50 | skip
                refine PW.iload hX dX7_chosen_53 rfl ?_
                refine PW.bipush (v := (-9)) hX dX7_chosen_55 (by decide) ?_
                refine PW.icmp_eq (tgt := 77) hX dX7_chosen_57 (by decide) (fun c57 => ?_) (fun c57 => ?_)
                · first | rw [nI_eq (by omega) (by omega)] at c57 | rw [oI_eq9] at c57 | skip
                  exact h77 e none
                · first | rw [nI_eq (by omega) (by omega)] at c57 | rw [oI_eq9] at c57 | skip
                  exact absurd trivial c57 -- CLOSED
            | some c =>
              have hcl := mCh_lt n0 i (by omega) c hc
              have hlc := h1 c hcl
              have e : mCh (mno M) (mle M) m l (i + 1) = bif (decide (¬ mno M 2 = 2) && mAh (mno M) (mle M) (mPk (mno M) l i) c) then some (mPk (mno M) l i) else some c := by rw [mCh, hw, hc]; rfl
              refine PW.istore hX dX7_chosen_41 rfl ?_
              refine PW.aload_n hX dX7_chosen_43 rfl rfl ?_
              refine PW.iload hX dX7_chosen_44 rfl ?_
              refine PW.iload_n hX dX7_chosen_46 rfl rfl ?_
              refine PW.vR hX ml_X7_106 (pm_mwt M (mPk (mno M) l i) m (by omega) hm hla h30) dX7_chosen_47 [0, 1, 2, 3, 4, 5, 6, 7, 8, 9, 10, 11, 12, 13, 14, 15, 16] rfl rfl rfl rfl rfl rfl rfl rfl rfl rfl rfl rfl rfl ?_
              refine PW.top (congrArg bI hw) ?_
              refine PW.if_eq (tgt := 81) hX dX7_chosen_50 (by decide) (fun c50 => ?_) (fun c50 => ?_)
              · first | rw [bI_d0] at c50 | rw [bI_eq0] at c50 | rw [nI_eq0 (by omega)] at c50 | skip
                exact absurd c50 (by decide) -- CLOSED
              · first | rw [bI_d0] at c50 | rw [bI_eq0] at c50 | rw [nI_eq0 (by omega)] at c50 | skip
                refine PW.iload hX dX7_chosen_53 rfl ?_
                refine PW.bipush (v := (-9)) hX dX7_chosen_55 (by decide) ?_
                refine PW.icmp_eq (tgt := 77) hX dX7_chosen_57 (by decide) (fun c57 => ?_) (fun c57 => ?_)
                · first | rw [nI_eq (by omega) (by omega)] at c57 | rw [oI_eq9] at c57 | skip
                  exact absurd c57 (nI_ne9 (by omega)) -- CLOSED
                · first | rw [nI_eq (by omega) (by omega)] at c57 | rw [oI_eq9] at c57 | skip
                  refine PW.iload_n hX dX7_chosen_60 rfl rfl ?_
                  refine PW.iconst (v := nI 2) hX dX7_chosen_61 (by decide) ?_
                  refine PW.icmp_eq (tgt := 81) hX dX7_chosen_62 (by decide) (fun c62 => ?_) (fun c62 => ?_)
                  · first | rw [nI_eq (by omega) (by omega)] at c62 | rw [oI_eq9] at c62 | skip
                    exact h81 (some c) (by rw [e, decide_eq_false (fun q => q c62)]; rfl)
                  · first | rw [nI_eq (by omega) (by omega)] at c62 | rw [oI_eq9] at c62 | skip
                    refine PW.aload_n hX dX7_chosen_65 rfl rfl ?_
                    refine PW.iload_n hX dX7_chosen_66 rfl rfl ?_
                    refine PW.iload hX dX7_chosen_67 rfl ?_
                    refine PW.iload hX dX7_chosen_69 rfl ?_
                    refine PW.vR hX ml_X7_109 (pm_mah M (mPk (mno M) l i) c (by omega) (by omega) hk hla hlc h3) dX7_chosen_71 [0, 1, 2, 3, 4, 5, 6, 7, 8, 9, 10, 11, 12, 13, 14, 15, 16] rfl rfl rfl rfl rfl rfl rfl rfl rfl rfl rfl rfl rfl ?_
                    refine PW.if_eq (tgt := 81) hX dX7_chosen_74 (by decide) (fun c74 => ?_) (fun c74 => ?_)
                    · first | rw [bI_d0] at c74 | rw [bI_eq0] at c74 | rw [nI_eq0 (by omega)] at c74 | skip
                      exact h81 (some c) (by rw [e, c74, Bool.and_false]; rfl)
                    · first | rw [bI_d0] at c74 | rw [bI_eq0] at c74 | rw [nI_eq0 (by omega)] at c74 | skip
                      exact h77 (by rw [e, decide_eq_true c62, (Bool.not_eq_false _).mp c74]; rfl) (some c)
        refine PW.iload hX dX7_chosen_7 rfl ?_
        refine PW.aload_n hX dX7_chosen_9 rfl rfl ?_
        refine PW.getfield hX fl_X7_13 dX7_chosen_10 rfl rfl ?_
        refine PW.iconst (v := nI 0) hX dX7_chosen_13 (by decide) ?_
        refine PW.iaload (k := 0) hX dX7_chosen_14 rfl rfl rfl (by decide) ?_
        refine PW.top (show _ = nI (mno M 0) from rfl) ?_
        refine PW.icmp_gt (tgt := 87) hX dX7_chosen_15 (by decide) (fun c15 => ?_) (fun c15 => ?_)
        · try rw [nI_ltI (by omega) (by omega)] at c15
          exfalso; omega -- CLOSED
        · try rw [nI_ltI (by omega) (by omega)] at c15
          refine PW.iload_n hX dX7_chosen_18 rfl rfl ?_
          refine PW.iconst (v := nI 2) hX dX7_chosen_19 (by decide) ?_
          refine PW.icmp_ne (tgt := 37) hX dX7_chosen_20 (by decide) (fun c20 => ?_) (fun c20 => ?_)
          · first | rw [nI_eq (by omega) (by omega)] at c20 | rw [oI_eq9] at c20 | skip
            refine PW.iload hX dX7_chosen_37 rfl ?_
            refine PW.iconst (v := nI 1) hX dX7_chosen_39 (by decide) ?_
            refine PW.isub hX dX7_chosen_40 ?_
            exact h41 _ (by rw [pk_sub (by omega)]; unfold mPk; rw [if_neg c20]; rfl)
          · first | rw [nI_eq (by omega) (by omega)] at c20 | rw [oI_eq9] at c20 | skip
            refine PW.iload_n hX dX7_chosen_23 rfl rfl ?_
            refine PW.iload hX dX7_chosen_24 rfl ?_
            refine PW.iadd hX dX7_chosen_26 ?_
            refine PW.top (nI_add l (i + 1)) ?_
            refine PW.aload_n hX dX7_chosen_27 rfl rfl ?_
            refine PW.getfield hX fl_X7_13 dX7_chosen_28 rfl rfl ?_
            refine PW.iconst (v := nI 0) hX dX7_chosen_31 (by decide) ?_
            refine PW.iaload (k := 0) hX dX7_chosen_32 rfl rfl rfl (by decide) ?_
            refine PW.irem hX dX7_chosen_33 (fun q => by rw [show ((fun j => nI (mno M j)) 0 = 0) = (nI (mno M 0) = 0) from rfl, nI_eq0 (by omega)] at q; omega) ?_
            refine PW.top (pk_rem (a := l + (i + 1)) (d := mno M 0) (by omega) n0 (by omega)) ?_
            refine PW.goto (tgt := 41) hX dX7_chosen_34 (by decide) ?_
            exact h41 _ (by unfold mPk; rw [if_pos c20])
  have nx := loop (mno M 0 + 1) 0 (by omega) (by omega)
  refine PW.bipush (v := (-9)) hX dX7_chosen_0 (by decide) ?_
  refine PW.istore hX dX7_chosen_2 rfl ?_
  refine PW.iconst (v := nI 1) hX dX7_chosen_4 (by decide) ?_
  refine PW.istore hX dX7_chosen_5 rfl ?_
  exact nx
theorem pm_mput (M : Md) (C : MC) (s m : Nat) (hs : s < 60) (ho : cos C < 100) (hl : cly C < 100) (hk : mno M 2 < 1000) : PM mu_X7_put 0 0 0 [.ref 0, .int (nI s), .int (nI m)] (mdB (sC M C)) (eqP none (mdB (sC M (mPut (mno M) C s m)))) := by
  obtain ⟨le, ou, oa, os, tr, ly, hd, wh⟩ := C
  have ho : os < 100 := ho
  have hl : ly < 100 := hl
  refine PM.start (Or.inl (by decide +kernel)) rfl rfl rfl ?_
  intro X hX hR hx hin
  have h89 : ∀ t, (if mno M 2 = 3 then va_up (mSh tr ly 0) 0 s else va_up tr ly s) = t → ∀ z, PW X 89 [some (.ref 0), some (.int (nI s)), some (.int (nI m)), z] [] (mdB (sC M (le, va_up ou os s, va_up oa os m, os + 1, t, ly, hd, wh))) 0 0 := by
    intro t et z
    refine PW.clr 3 ?_
    have em : mPut (mno M) (le, ou, oa, os, tr, ly, hd, wh) s m = (le, va_up ou os s, va_up oa os m, os + 1, t, ly + 1, (if hd s = -8 then upd hd s (-9) else hd), wh) := by
      rw [← et]; rfl
    rw [em] at hR
    refine PW.aload_n hX dX7_put_89 rfl rfl ?_
    refine PW.dup hX dX7_put_90 rfl ?_
    refine PW.getfield hX fl_X7_116 dX7_put_91 rfl rfl ?_
    refine PW.iconst (v := nI 1) hX dX7_put_94 (by decide) ?_
    refine PW.iadd hX dX7_put_95 ?_
    refine PW.top (nI_add ly 1) ?_
    refine PW.putI hX fp_X7_116 dX7_put_96 rfl rfl ?_
    refine PW.heap (h' := mdB (sC M (le, va_up ou os s, va_up oa os m, os + 1, t, ly + 1, hd, wh))) rfl ?_
    refine PW.aload_n hX dX7_put_99 rfl rfl ?_
    refine PW.getfield hX fl_X7_47 dX7_put_100 rfl rfl ?_
    refine PW.iload_n hX dX7_put_103 rfl rfl ?_
    refine PW.iaload hX dX7_put_104 rfl rfl rfl (by omega) ?_
    refine PW.bipush (v := (-8)) hX dX7_put_105 (by decide) ?_
    refine PW.icmp_ne (tgt := 118) hX dX7_put_107 (by decide) (fun c107 => ?_) (fun c107 => ?_)
    · have c107 : ¬ hd s = -8 := c107
      rw [if_neg c107] at hR
      refine PW.vret hX hR dX7_put_118 rfl rfl ?_
      exact ⟨rfl, rfl⟩
    · have c107 : hd s = -8 := c107
      rw [if_pos c107] at hR
      refine PW.aload_n hX dX7_put_110 rfl rfl ?_
      refine PW.getfield hX fl_X7_47 dX7_put_111 rfl rfl ?_
      refine PW.iload_n hX dX7_put_114 rfl rfl ?_
      refine PW.bipush (v := (-9)) hX dX7_put_115 (by decide) ?_
      refine PW.iastore hX dX7_put_117 rfl rfl rfl (by omega) ?_
      refine PW.vret hX hR dX7_put_118 rfl rfl ?_
      exact ⟨rfl, rfl⟩
  have loop : mno M 2 = 3 → ∀ k, k ≤ ly → PW X 45 [some (.ref 0), some (.int (nI s)), some (.int (nI m)), some (.int (nI k))] [] (mdB (sC M (le, va_up ou os s, va_up oa os m, os + 1, mSh tr ly k, ly, hd, wh))) 0 0 := by
    intro h3 k
    induction k with
    | zero =>
      intro _
      have nx := h89 (va_up (mSh tr ly 0) 0 s) (by rw [if_pos h3])
      refine PW.iload_n hX dX7_put_45 rfl rfl ?_
      refine PW.if_le (tgt := 69) hX dX7_put_46 (by decide) (fun c46 => ?_) (fun c46 => ?_)
      · try rw [nI_le0 (by omega)] at c46
        refine PW.aload_n hX dX7_put_69 rfl rfl ?_
        refine PW.getfield hX fl_X7_44 dX7_put_70 rfl rfl ?_
        refine PW.iconst (v := nI 0) hX dX7_put_73 (by decide) ?_
        refine PW.iload_n hX dX7_put_74 rfl rfl ?_
        refine PW.iastore hX dX7_put_75 rfl rfl rfl (by omega) ?_
        refine PW.goto (tgt := 89) hX dX7_put_76 (by decide) ?_
        refine PW.heap (md_tr M (le, va_up ou os s, va_up oa os m, os + 1, mSh tr ly 0, ly, hd, wh) 0 s) ?_
        exact nx _
      · try rw [nI_le0 (by omega)] at c46
        exfalso; omega -- CLOSED
    | succ k ih =>
      intro hle
      have nx := ih (by omega)
      have eh := md_tr M (le, va_up ou os s, va_up oa os m, os + 1, mSh tr ly (k + 1), ly, hd, wh) (k + 1) (mSh tr ly (k + 1) k)
      dsimp only at eh
      rw [mSh_step tr ly k hle] at eh
      refine PW.iload_n hX dX7_put_45 rfl rfl ?_
      refine PW.if_le (tgt := 69) hX dX7_put_46 (by decide) (fun c46 => ?_) (fun c46 => ?_)
      · try rw [nI_le0 (by omega)] at c46
        exfalso; omega -- CLOSED
      · try rw [nI_le0 (by omega)] at c46
        refine PW.aload_n hX dX7_put_49 rfl rfl ?_
        refine PW.getfield hX fl_X7_44 dX7_put_50 rfl rfl ?_
        refine PW.iload_n hX dX7_put_53 rfl rfl ?_
        refine PW.aload_n hX dX7_put_54 rfl rfl ?_
        refine PW.getfield hX fl_X7_44 dX7_put_55 rfl rfl ?_
        refine PW.iload_n hX dX7_put_58 rfl rfl ?_
        refine PW.iconst (v := nI 1) hX dX7_put_59 (by decide) ?_
        refine PW.isub hX dX7_put_60 ?_
        refine PW.top (pk_sub (a := k + 1) (b := 1) (by omega)) ?_
        refine PW.iaload (k := k) hX dX7_put_61 rfl rfl rfl (by omega) ?_
        refine PW.iastore (k := k + 1) hX dX7_put_62 rfl rfl rfl (by omega) ?_
        refine PW.heap eh ?_
        refine PW.iinc (v := nI k) hX dX7_put_63 rfl (iincM k) ?_
        refine PW.goto (tgt := 45) hX dX7_put_66 (by decide) ?_
        exact nx
  refine PW.aload_n hX dX7_put_0 rfl rfl ?_
  refine PW.getfield hX fl_X7_38 dX7_put_1 rfl rfl ?_
  refine PW.aload_n hX dX7_put_4 rfl rfl ?_
  refine PW.getfield hX fl_X7_113 dX7_put_5 rfl rfl ?_
  refine PW.iload_n hX dX7_put_8 rfl rfl ?_
  refine PW.iastore (k := os) hX dX7_put_9 rfl rfl rfl (by omega) ?_
  refine PW.heap (md_ou M (le, ou, oa, os, tr, ly, hd, wh) os s) ?_
  refine PW.aload_n hX dX7_put_10 rfl rfl ?_
  refine PW.getfield hX fl_X7_41 dX7_put_11 rfl rfl ?_
  refine PW.aload_n hX dX7_put_14 rfl rfl ?_
  refine PW.getfield hX fl_X7_113 dX7_put_15 rfl rfl ?_
  refine PW.iload_n hX dX7_put_18 rfl rfl ?_
  refine PW.iastore (k := os) hX dX7_put_19 rfl rfl rfl (by omega) ?_
  refine PW.heap (md_oa M (le, va_up ou os s, oa, os, tr, ly, hd, wh) os m) ?_
  refine PW.aload_n hX dX7_put_20 rfl rfl ?_
  refine PW.dup hX dX7_put_21 rfl ?_
  refine PW.getfield hX fl_X7_113 dX7_put_22 rfl rfl ?_
  refine PW.iconst (v := nI 1) hX dX7_put_25 (by decide) ?_
  refine PW.iadd hX dX7_put_26 ?_
  refine PW.top (nI_add os 1) ?_
  refine PW.putI hX fp_X7_113 dX7_put_27 rfl rfl ?_
  refine PW.heap (h' := mdB (sC M (le, va_up ou os s, va_up oa os m, os + 1, tr, ly, hd, wh))) rfl ?_
  refine PW.aload_n hX dX7_put_30 rfl rfl ?_
  refine PW.getfield hX fl_X7_13 dX7_put_31 rfl rfl ?_
  refine PW.iconst (v := nI 2) hX dX7_put_34 (by decide) ?_
  refine PW.iaload (k := 2) hX dX7_put_35 rfl rfl rfl (by decide) ?_
  refine PW.top (show _ = nI (mno M 2) from rfl) ?_
  refine PW.iconst (v := nI 3) hX dX7_put_36 (by decide) ?_
  refine PW.icmp_ne (tgt := 79) hX dX7_put_37 (by decide) (fun c37 => ?_) (fun c37 => ?_)
  · first | rw [nI_eq (by omega) (by omega)] at c37 | rw [oI_eq9] at c37 | skip
    refine PW.aload_n hX dX7_put_79 rfl rfl ?_
    refine PW.getfield hX fl_X7_44 dX7_put_80 rfl rfl ?_
    refine PW.aload_n hX dX7_put_83 rfl rfl ?_
    refine PW.getfield hX fl_X7_116 dX7_put_84 rfl rfl ?_
    refine PW.iload_n hX dX7_put_87 rfl rfl ?_
    refine PW.iastore (k := ly) hX dX7_put_88 rfl rfl rfl (by omega) ?_
    refine PW.heap (md_tr M (le, va_up ou os s, va_up oa os m, os + 1, tr, ly, hd, wh) ly s) ?_
    exact h89 (va_up tr ly s) (by rw [if_neg c37]) _
  · first | rw [nI_eq (by omega) (by omega)] at c37 | rw [oI_eq9] at c37 | skip
    refine PW.aload_n hX dX7_put_40 rfl rfl ?_
    refine PW.getfield hX fl_X7_116 dX7_put_41 rfl rfl ?_
    refine PW.istore_n hX dX7_put_44 rfl rfl ?_
    have nx := loop c37 ly (Nat.le_refl _)
    rw [mSh_top] at nx
    exact nx
