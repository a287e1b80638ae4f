def mAt (M : Md) (p : Nat) (w : Bool) : Md := sB M (mta M, mtn M, p, w, mso M, mfi M)
def MtR (M : Md) : Prop := mtn M ≤ 80 ∧ mat' M ≤ mtn M ∧ ∀ i, i < mtn M → mta M i < 256
def mExp (M : Md) (c : Nat) : Md := if mwe M = true ∧ mat' M < mtn M ∧ mta M (mat' M) = c then mAt M (mat' M + 1) true else mAt M (mat' M) false
theorem pm_mexpect (M : Md) (tr : MtR M) (c : Nat) (hc : c < 256) : PM mu_X7_expect 0 0 0 [.ref 0, .int (nI c)] (mdB M) (eqP none (mdB (mExp M c))) := by
  obtain ⟨t1, t2, t3⟩ := tr
  unfold mExp
  refine PM.start (Or.inl (by decide +kernel)) rfl rfl rfl ?_
  intro X hX hR hx hin
  have h44 : ¬ (mwe M = true ∧ mat' M < mtn M ∧ mta M (mat' M) = c) → PW X 44 [some (.ref 0), some (.int (nI c))] [] (mdB M) 0 0 := by
    intro hn
    rw [if_neg hn] at hR
    refine PW.aload_n hX dX7_expect_44 rfl rfl ?_
    refine PW.iconst (v := nI 0) hX dX7_expect_45 (by decide) ?_
    refine PW.putZ hX fp_X7_72 dX7_expect_46 (by first | exact Or.inl rfl | exact Or.inr rfl | assumption) rfl rfl ?_
    refine PW.vret hX hR dX7_expect_49 rfl rfl ?_
    exact ⟨rfl, rfl⟩
  refine PW.aload_n hX dX7_expect_0 rfl rfl ?_
  refine PW.getfield hX fl_X7_72 dX7_expect_1 rfl rfl ?_
  refine PW.if_eq (tgt := 44) hX dX7_expect_4 (by decide) (fun c4 => ?_) (fun c4 => ?_)
  · first | rw [bI_d0] at c4 | rw [bI_eq0] at c4 | rw [nI_eq0 (by omega)] at c4 | skip
    exact h44 (fun q => by rw [c4] at q; exact absurd q.1 (by decide))
  · first | rw [bI_d0] at c4 | rw [bI_eq0] at c4 | rw [nI_eq0 (by omega)] at c4 | skip
    rw [Bool.not_eq_false] at c4
    refine PW.aload_n hX dX7_expect_7 rfl rfl ?_
    refine PW.getfield hX fl_X7_75 dX7_expect_8 rfl rfl ?_
    refine PW.aload_n hX dX7_expect_11 rfl rfl ?_
    refine PW.getfield hX fl_X7_68 dX7_expect_12 rfl rfl ?_
    refine PW.icmp_ge (tgt := 44) hX dX7_expect_15 (by decide) (fun c15 => ?_) (fun c15 => ?_)
    · try rw [nI_leI (by omega) (by omega)] at c15
      exact h44 (fun q => by omega)
    · try rw [nI_leI (by omega) (by omega)] at c15
      have b := t3 (mat' M) (by omega)
      refine PW.aload_n hX dX7_expect_18 rfl rfl ?_
      refine PW.getfield hX fl_X7_19 dX7_expect_19 rfl rfl ?_
      refine PW.aload_n hX dX7_expect_22 rfl rfl ?_
      refine PW.getfield hX fl_X7_75 dX7_expect_23 rfl rfl ?_
      refine PW.iaload hX dX7_expect_26 rfl rfl rfl (by omega) ?_
      refine PW.iload_n hX dX7_expect_27 rfl rfl ?_
      refine PW.icmp_ne (tgt := 44) hX dX7_expect_28 (by decide) (fun c28 => ?_) (fun c28 => ?_)
      · first | rw [nI_eq (by omega) (by omega)] at c28 | rw [oI_eq9] at c28 | skip
        exact h44 (fun q => c28 q.2.2)
      · first | rw [nI_eq (by omega) (by omega)] at c28 | rw [oI_eq9] at c28 | skip
        refine PW.aload_n hX dX7_expect_31 rfl rfl ?_
        refine PW.dup hX dX7_expect_32 rfl ?_
        refine PW.getfield hX fl_X7_75 dX7_expect_33 rfl rfl ?_
        refine PW.iconst (v := nI 1) hX dX7_expect_36 (by decide) ?_
        refine PW.iadd hX dX7_expect_37 ?_
        refine PW.top (nI_add _ 1) ?_
        refine PW.putI hX fp_X7_75 dX7_expect_38 rfl rfl ?_
        refine PW.goto (tgt := 49) hX dX7_expect_41 (by decide) ?_
        refine PW.vret hX hR dX7_expect_49 rfl rfl ?_
        have hy : mwe M = true ∧ mat' M < mtn M ∧ mta M (mat' M) = c := ⟨c4, by omega, c28⟩
        rw [if_pos hy]
        refine ⟨rfl, ?_⟩
        show mdB (mAt M (mat' M + 1) (mwe M)) = _
        rw [c4]
def ooF (f : Nat → Int32) (t : Nat) : Nat → Nat → Option Nat
  | 0, _ => none
  | n + 1, k => if nI t = f k then some k else ooF f t n (k + 1)
def mOne (M : Md) (n : Nat) (f : Nat → Int32) : Nat × Md := if mwe M = true ∧ mat' M < mtn M then (match ooF f (mta M (mat' M)) n 0 with | some k => (k, mAt M (mat' M + 1) true) | none => (0, mAt M (mat' M) false)) else (0, mAt M (mat' M) false)
theorem ooF_lt (f : Nat → Int32) (t : Nat) : ∀ n k x, ooF f t n k = some x → x < k + n
  | 0, k, x, h => by cases h
  | n + 1, k, x, h => by
    rw [ooF] at h
    split at h
    · cases h; omega
    · have := ooF_lt f t n (k + 1) x h; omega
theorem pm_moneOf (M : Md) (tr : MtR M) (a N : Nat) (f : Nat → Int32) (ha : (mdB M)[a]? = some (.inl (1, N, f))) (hN : N < 100) : PM mu_X7_oneOf 0 0 0 [.ref 0, .ref a] (mdB M) (eqP (some (.int (nI (mOne M N f).1))) (mdB (mOne M N f).2)) := by
  obtain ⟨t1, t2, t3⟩ := tr
  refine PM.start (Or.inl (by decide +kernel)) rfl rfl rfl ?_
  intro X hX hR hx hin
  have h59 : mOne M N f = (0, mAt M (mat' M) false) → PW X 59 [some (.ref 0), some (.ref a), none] [] (mdB M) 0 0 := by
    intro e
    rw [e] at hR
    refine PW.aload_n hX dX7_oneOf_59 rfl rfl ?_
    refine PW.iconst (v := nI 0) hX dX7_oneOf_60 (by decide) ?_
    refine PW.putZ hX fp_X7_72 dX7_oneOf_61 (by first | exact Or.inl rfl | exact Or.inr rfl | assumption) rfl rfl ?_
    refine PW.iconst (v := nI 0) hX dX7_oneOf_64 (by decide) ?_
    refine PW.iret hX hR dX7_oneOf_65 rfl rfl ?_
    exact ⟨rfl, rfl⟩
  have loop : ∀ n k : Nat, k + n = N → (¬ (mwe M = true ∧ mat' M < mtn M) ∨ ooF f (mta M (mat' M)) N 0 = ooF f (mta M (mat' M)) n k) → PW X 2 [some (.ref 0), some (.ref a), some (.int (nI k))] [] (mdB M) 0 0 := by
    intro n
    induction n with
    | zero =>
      intro k h1 h2
      have e : mOne M N f = (0, mAt M (mat' M) false) := by
        unfold mOne
        by_cases hc : mwe M = true ∧ mat' M < mtn M
        · rw [if_pos hc, h2.resolve_left (fun q => q hc)]; rfl
        · rw [if_neg hc]
      have h9 := h59 e
      refine PW.iload_n hX dX7_oneOf_2 rfl rfl ?_
      refine PW.aload_n hX dX7_oneOf_3 rfl rfl ?_
      refine PW.alen hX dX7_oneOf_4 ha rfl ?_
      refine PW.icmp_ge (tgt := 59) hX dX7_oneOf_5 (by decide) (fun c5 => ?_) (fun c5 => ?_)
      · try rw [nI_leI (by omega) (by omega)] at c5
        refine PW.clr 2 ?_
        exact h9
      · try rw [nI_leI (by omega) (by omega)] at c5
        exfalso; omega -- CLOSED
    | succ n ih =>
      intro k h1 h2
      have e0 : ooF f (mta M (mat' M)) (n + 1) k = if nI (mta M (mat' M)) = f k then some k else ooF f (mta M (mat' M)) n (k + 1) := rfl
      have hN2 : Nat.blt N 2147483648 = true := Nat.blt_eq.mpr (by omega)
      refine PW.iload_n hX dX7_oneOf_2 rfl rfl ?_
      refine PW.aload_n hX dX7_oneOf_3 rfl rfl ?_
      refine PW.alen hX dX7_oneOf_4 ha rfl ?_
      refine PW.icmp_ge (tgt := 59) hX dX7_oneOf_5 (by decide) (fun c5 => ?_) (fun c5 => ?_)
      · try rw [nI_leI (by omega) (by omega)] at c5
        exfalso; omega -- CLOSED
      · try rw [nI_leI (by omega) (by omega)] at c5
        refine PW.aload_n hX dX7_oneOf_8 rfl rfl ?_
        refine PW.getfield hX fl_X7_72 dX7_oneOf_9 rfl rfl ?_
        refine PW.if_eq (tgt := 53) hX dX7_oneOf_12 (by decide) (fun c12 => ?_) (fun c12 => ?_)
        · first | rw [bI_d0] at c12 | rw [bI_eq0] at c12 | rw [nI_eq0 (by omega)] at c12 | skip
          first | refine PW.iinc hX dX7_oneOf_53 rfl (iincN _) ?_ | refine PW.iinc hX dX7_oneOf_53 rfl rfl ?_
          refine PW.goto (tgt := 2) hX dX7_oneOf_56 (by decide) ?_
          exact ih (k + 1) (by omega) (Or.inl (fun q => by rw [c12] at q; exact absurd q.1 (by decide)))
        · first | rw [bI_d0] at c12 | rw [bI_eq0] at c12 | rw [nI_eq0 (by omega)] at c12 | skip
          rw [Bool.not_eq_false] at c12
          refine PW.aload_n hX dX7_oneOf_15 rfl rfl ?_
          refine PW.getfield hX fl_X7_75 dX7_oneOf_16 rfl rfl ?_
          refine PW.aload_n hX dX7_oneOf_19 rfl rfl ?_
          refine PW.getfield hX fl_X7_68 dX7_oneOf_20 rfl rfl ?_
          refine PW.icmp_ge (tgt := 53) hX dX7_oneOf_23 (by decide) (fun c23 => ?_) (fun c23 => ?_)
          · try rw [nI_leI (by omega) (by omega)] at c23
            first | refine PW.iinc hX dX7_oneOf_53 rfl (iincN _) ?_ | refine PW.iinc hX dX7_oneOf_53 rfl rfl ?_
            refine PW.goto (tgt := 2) hX dX7_oneOf_56 (by decide) ?_
            exact ih (k + 1) (by omega) (Or.inl (fun q => by omega))
          · try rw [nI_leI (by omega) (by omega)] at c23
            have hc : mwe M = true ∧ mat' M < mtn M := ⟨c12, by omega⟩
            have h3 := h2.resolve_left (fun q => q hc)
            rw [e0] at h3
            refine PW.aload_n hX dX7_oneOf_26 rfl rfl ?_
            refine PW.getfield hX fl_X7_19 dX7_oneOf_27 rfl rfl ?_
            refine PW.aload_n hX dX7_oneOf_30 rfl rfl ?_
            refine PW.getfield hX fl_X7_75 dX7_oneOf_31 rfl rfl ?_
            refine PW.iaload hX dX7_oneOf_34 rfl rfl rfl (by omega) ?_
            refine PW.aload_n hX dX7_oneOf_35 rfl rfl ?_
            refine PW.iload_n hX dX7_oneOf_36 rfl rfl ?_
            refine PW.caload hX dX7_oneOf_37 ha hN2 rfl (by omega) ?_
            refine PW.icmp_ne (tgt := 53) hX dX7_oneOf_38 (by decide) (fun c38 => ?_) (fun c38 => ?_)
            · first | rw [nI_eq (by omega) (by omega)] at c38 | rw [oI_eq9] at c38 | skip
              rw [if_neg c38] at h3
              first | refine PW.iinc hX dX7_oneOf_53 rfl (iincN _) ?_ | refine PW.iinc hX dX7_oneOf_53 rfl rfl ?_
              refine PW.goto (tgt := 2) hX dX7_oneOf_56 (by decide) ?_
              exact ih (k + 1) (by omega) (Or.inr h3)
            · first | rw [nI_eq (by omega) (by omega)] at c38 | rw [oI_eq9] at c38 | skip
              rw [if_pos c38] at h3
              refine PW.aload_n hX dX7_oneOf_41 rfl rfl ?_
              refine PW.dup hX dX7_oneOf_42 rfl ?_
              refine PW.getfield hX fl_X7_75 dX7_oneOf_43 rfl rfl ?_
              refine PW.iconst (v := nI 1) hX dX7_oneOf_46 (by decide) ?_
              refine PW.iadd hX dX7_oneOf_47 ?_
              refine PW.top (nI_add _ 1) ?_
              refine PW.putI hX fp_X7_75 dX7_oneOf_48 rfl rfl ?_
              refine PW.iload_n hX dX7_oneOf_51 rfl rfl ?_
              refine PW.iret hX hR dX7_oneOf_52 rfl rfl ?_
              have e : mOne M N f = (k, mAt M (mat' M + 1) true) := by unfold mOne; rw [if_pos hc, h3]
              rw [e]
              refine ⟨rfl, ?_⟩
              show mdB (mAt M (mat' M + 1) (mwe M)) = _
              rw [c12]
  have h2 := loop N 0 (by omega) (Or.inr rfl)
  refine PW.iconst (v := nI 0) hX dX7_oneOf_0 (by decide) ?_
  refine PW.istore_n hX dX7_oneOf_1 rfl rfl ?_
  exact h2
def fgL (ta : Nat → Nat) (tn : Nat) : Nat → Nat → Nat → Nat → Nat × Nat × Nat
  | 0, v, n, p => (v, n, p)
  | r + 1, v, n, p => if p < tn ∧ 48 ≤ ta p ∧ ta p ≤ 57 then fgL ta tn r (10 * v + ta p - 48) (n + 1) (p + 1) else (v, n, p)
def fgM (M : Md) (r : Nat) : Nat × Nat × Nat := fgL (mta M) (mtn M) r 0 0 (mat' M)
def mFig (M : Md) (r : Nat) : Nat × Md := bif mwe M then ((fgM M r).1, mAt M (fgM M r).2.2 (decide (0 < (fgM M r).2.1))) else (0, M)
theorem pm_mfigures (M : Md) (tr : MtR M) (r : Nat) (hr : r < 3) : PM mu_X7_figures 0 0 0 [.ref 0, .int (nI r)] (mdB M) (eqP (some (.int (nI (mFig M r).1))) (mdB (mFig M r).2)) := by
  obtain ⟨t1, t2, t3⟩ := tr
  cases hw : mwe M with
  | false =>
    have e : mFig M r = (0, M) := by unfold mFig; rw [hw]; rfl
    rw [e]
    refine PM.start (Or.inl (by decide +kernel)) rfl rfl rfl ?_
    intro X hX hR hx hin
    refine PW.iconst (v := nI 0) hX dX7_figures_0 (by decide) ?_
    refine PW.istore_n hX dX7_figures_1 rfl rfl ?_
    refine PW.iconst (v := nI 0) hX dX7_figures_2 (by decide) ?_
    refine PW.istore_n hX dX7_figures_3 rfl rfl ?_
    refine PW.aload_n hX dX7_figures_4 rfl rfl ?_
    refine PW.getfield hX fl_X7_72 dX7_figures_5 rfl rfl ?_
    refine PW.if_eq (tgt := 89) hX dX7_figures_8 (by decide) (fun c8 => ?_) (fun c8 => ?_)
    · first | rw [bI_d0] at c8 | rw [bI_eq0] at c8 | rw [nI_eq0 (by omega)] at c8 | skip
      refine PW.aload_n hX dX7_figures_89 rfl rfl ?_
      refine PW.aload_n hX dX7_figures_90 rfl rfl ?_
      refine PW.getfield hX fl_X7_72 dX7_figures_91 rfl rfl ?_
      refine PW.if_eq (tgt := 105) hX dX7_figures_94 (by decide) (fun c94 => ?_) (fun c94 => ?_)
      · first | rw [bI_d0] at c94 | rw [bI_eq0] at c94 | rw [nI_eq0 (by omega)] at c94 | skip
        refine PW.iconst (v := nI 0) hX dX7_figures_105 (by decide) ?_
        refine PW.putZ hX fp_X7_72 dX7_figures_106 (by first | exact Or.inl rfl | exact Or.inr rfl | assumption) rfl rfl ?_
        refine PW.iload_n hX dX7_figures_109 rfl rfl ?_
        refine PW.iret hX hR dX7_figures_110 rfl rfl ?_
        refine ⟨rfl, ?_⟩
        show mdB (mAt M (mat' M) false) = mdB M
        rw [← hw]
        rfl
      · first | rw [bI_d0] at c94 | rw [bI_eq0] at c94 | rw [nI_eq0 (by omega)] at c94 | skip
        exact absurd hw c94 -- CLOSED
    · first | rw [bI_d0] at c8 | rw [bI_eq0] at c8 | rw [nI_eq0 (by omega)] at c8 | skip
      exact absurd hw c8 -- CLOSED
  | true =>
    have e : mFig M r = ((fgM M r).1, mAt M (fgM M r).2.2 (decide (0 < (fgM M r).2.1))) := by unfold mFig; rw [hw]; rfl
    rw [e]
    refine PM.start (Or.inl (by decide +kernel)) rfl rfl rfl ?_
    intro X hX hR hx hin
    have h89 : ∀ v n p : Nat, n < 100 → fgM M r = (v, n, p) → PW X 89 [some (.ref 0), some (.int (nI r)), some (.int (nI v)), some (.int (nI n))] [] (mdB (mAt M p true)) 0 0 := by
      intro v n p hn h
      rw [h] at hR
      dsimp only at hR
      refine PW.aload_n hX dX7_figures_89 rfl rfl ?_
      refine PW.aload_n hX dX7_figures_90 rfl rfl ?_
      refine PW.getfield hX fl_X7_72 dX7_figures_91 rfl rfl ?_
      refine PW.if_eq (tgt := 105) hX dX7_figures_94 (by decide) (fun c94 => ?_) (fun c94 => ?_)
      · first | rw [bI_d0] at c94 | rw [bI_eq0] at c94 | rw [nI_eq0 (by omega)] at c94 | skip
        exact absurd (show true = false from c94) (by decide) -- CLOSED
      · first | rw [bI_d0] at c94 | rw [bI_eq0] at c94 | rw [nI_eq0 (by omega)] at c94 | skip
        refine PW.iload_n hX dX7_figures_97 rfl rfl ?_
        refine PW.if_le (tgt := 105) hX dX7_figures_98 (by decide) (fun c98 => ?_) (fun c98 => ?_)
        · try rw [nI_le0 (by omega)] at c98
          rw [decide_eq_false (by omega)] at hR
          refine PW.iconst (v := nI 0) hX dX7_figures_105 (by decide) ?_
          refine PW.putZ hX fp_X7_72 dX7_figures_106 (by first | exact Or.inl rfl | exact Or.inr rfl | assumption) rfl rfl ?_
          refine PW.iload_n hX dX7_figures_109 rfl rfl ?_
          refine PW.iret hX hR dX7_figures_110 rfl rfl ?_
          exact ⟨rfl, rfl⟩
        · try rw [nI_le0 (by omega)] at c98
          rw [decide_eq_true (by omega)] at hR
          refine PW.iconst (v := nI 1) hX dX7_figures_101 (by decide) ?_
          refine PW.goto (tgt := 106) hX dX7_figures_102 (by decide) ?_
          refine PW.putZ hX fp_X7_72 dX7_figures_106 (by first | exact Or.inl rfl | exact Or.inr rfl | assumption) rfl rfl ?_
          refine PW.iload_n hX dX7_figures_109 rfl rfl ?_
          refine PW.iret hX hR dX7_figures_110 rfl rfl ?_
          exact ⟨rfl, rfl⟩
    have loop : ∀ q v n p : Nat, n + q = r → p ≤ mtn M → fgM M r = fgL (mta M) (mtn M) q v n p → PW X 4 [some (.ref 0), some (.int (nI r)), some (.int (nI v)), some (.int (nI n))] [] (mdB (mAt M p true)) 0 0 := by
      intro q
      induction q with
      | zero =>
        intro v n p h1 h2 h3
        have h9 := h89 v n p (by omega) h3
        refine PW.aload_n hX dX7_figures_4 rfl rfl ?_
        refine PW.getfield hX fl_X7_72 dX7_figures_5 rfl rfl ?_
        refine PW.if_eq (tgt := 89) hX dX7_figures_8 (by decide) (fun c8 => ?_) (fun c8 => ?_)
        · first | rw [bI_d0] at c8 | rw [bI_eq0] at c8 | rw [nI_eq0 (by omega)] at c8 | skip
          exact absurd (show true = false from c8) (by decide) -- CLOSED
        · first | rw [bI_d0] at c8 | rw [bI_eq0] at c8 | rw [nI_eq0 (by omega)] at c8 | skip
          refine PW.iload_n hX dX7_figures_11 rfl rfl ?_
          refine PW.iload_n hX dX7_figures_12 rfl rfl ?_
          refine PW.icmp_ge (tgt := 89) hX dX7_figures_13 (by decide) (fun c13 => ?_) (fun c13 => ?_)
          · try rw [nI_leI (by omega) (by omega)] at c13
            exact h9
          · try rw [nI_leI (by omega) (by omega)] at c13
            exfalso; omega -- CLOSED
      | succ q ih =>
        intro v n p h1 h2 h3
        rw [show fgL (mta M) (mtn M) (q + 1) v n p = if p < mtn M ∧ 48 ≤ mta M p ∧ mta M p ≤ 57 then fgL (mta M) (mtn M) q (10 * v + mta M p - 48) (n + 1) (p + 1) else (v, n, p) from rfl] at h3
        by_cases hc : p < mtn M ∧ 48 ≤ mta M p ∧ mta M p ≤ 57
        · rw [if_pos hc] at h3
          have nx := ih (10 * v + mta M p - 48) (n + 1) (p + 1) (by omega) (by omega) h3
          have b := t3 p hc.1
          refine PW.aload_n hX dX7_figures_4 rfl rfl ?_
          refine PW.getfield hX fl_X7_72 dX7_figures_5 rfl rfl ?_
          refine PW.if_eq (tgt := 89) hX dX7_figures_8 (by decide) (fun c8 => ?_) (fun c8 => ?_)
          · first | rw [bI_d0] at c8 | rw [bI_eq0] at c8 | rw [nI_eq0 (by omega)] at c8 | skip
            exact absurd (show true = false from c8) (by decide) -- CLOSED
          · first | rw [bI_d0] at c8 | rw [bI_eq0] at c8 | rw [nI_eq0 (by omega)] at c8 | skip
            refine PW.iload_n hX dX7_figures_11 rfl rfl ?_
            refine PW.iload_n hX dX7_figures_12 rfl rfl ?_
            refine PW.icmp_ge (tgt := 89) hX dX7_figures_13 (by decide) (fun c13 => ?_) (fun c13 => ?_)
            · try rw [nI_leI (by omega) (by omega)] at c13
              exfalso; omega -- CLOSED
            · try rw [nI_leI (by omega) (by omega)] at c13
              refine PW.aload_n hX dX7_figures_16 rfl rfl ?_
              refine PW.getfield hX fl_X7_75 dX7_figures_17 rfl rfl ?_
              refine PW.top (show _ = nI p from rfl) ?_
              refine PW.aload_n hX dX7_figures_20 rfl rfl ?_
              refine PW.getfield hX fl_X7_68 dX7_figures_21 rfl rfl ?_
              refine PW.top (show _ = nI (mtn M) from rfl) ?_
              refine PW.icmp_ge (tgt := 89) hX dX7_figures_24 (by decide) (fun c24 => ?_) (fun c24 => ?_)
              · try rw [nI_leI (by omega) (by omega)] at c24
                exfalso; omega -- CLOSED
              · try rw [nI_leI (by omega) (by omega)] at c24
                refine PW.aload_n hX dX7_figures_27 rfl rfl ?_
                refine PW.getfield hX fl_X7_19 dX7_figures_28 rfl rfl ?_
                refine PW.aload_n hX dX7_figures_31 rfl rfl ?_
                refine PW.getfield hX fl_X7_75 dX7_figures_32 rfl rfl ?_
                refine PW.iaload (k := p) hX dX7_figures_35 rfl rfl rfl (by omega) ?_
                refine PW.top (show _ = nI (mta M p) from rfl) ?_
                refine PW.bipush (v := nI 48) hX dX7_figures_36 (by decide) ?_
                refine PW.icmp_lt (tgt := 89) hX dX7_figures_38 (by decide) (fun c38 => ?_) (fun c38 => ?_)
                · try rw [nI_ltI (by omega) (by omega)] at c38
                  exfalso; omega -- CLOSED
                · try rw [nI_ltI (by omega) (by omega)] at c38
                  refine PW.aload_n hX dX7_figures_41 rfl rfl ?_
                  refine PW.getfield hX fl_X7_19 dX7_figures_42 rfl rfl ?_
                  refine PW.aload_n hX dX7_figures_45 rfl rfl ?_
                  refine PW.getfield hX fl_X7_75 dX7_figures_46 rfl rfl ?_
                  refine PW.iaload (k := p) hX dX7_figures_49 rfl rfl rfl (by omega) ?_
                  refine PW.top (show _ = nI (mta M p) from rfl) ?_
                  refine PW.bipush (v := nI 57) hX dX7_figures_50 (by decide) ?_
                  refine PW.icmp_gt (tgt := 89) hX dX7_figures_52 (by decide) (fun c52 => ?_) (fun c52 => ?_)
                  · try rw [nI_ltI (by omega) (by omega)] at c52
                    exfalso; omega -- CLOSED
                  · try rw [nI_ltI (by omega) (by omega)] at c52
                    refine PW.bipush (v := nI 10) hX dX7_figures_55 (by decide) ?_
                    refine PW.iload_n hX dX7_figures_57 rfl rfl ?_
                    refine PW.imul hX dX7_figures_58 ?_
                    refine PW.aload_n hX dX7_figures_59 rfl rfl ?_
                    refine PW.getfield hX fl_X7_19 dX7_figures_60 rfl rfl ?_
                    refine PW.aload_n hX dX7_figures_63 rfl rfl ?_
                    refine PW.getfield hX fl_X7_75 dX7_figures_64 rfl rfl ?_
                    refine PW.iaload (k := p) hX dX7_figures_67 rfl rfl rfl (by omega) ?_
                    refine PW.iadd hX dX7_figures_68 ?_
                    refine PW.top (show nI 10 * nI v + nI (mta M p) = nI (10 * v + mta M p) by rw [pk_mul, nI_add]) ?_
                    refine PW.bipush (v := nI 48) hX dX7_figures_69 (by decide) ?_
                    refine PW.isub hX dX7_figures_71 ?_
                    refine PW.top (pk_sub (by omega)) ?_
                    refine PW.istore_n hX dX7_figures_72 rfl rfl ?_
                    refine PW.aload_n hX dX7_figures_73 rfl rfl ?_
                    refine PW.dup hX dX7_figures_74 rfl ?_
                    refine PW.getfield hX fl_X7_75 dX7_figures_75 rfl rfl ?_
                    refine PW.iconst (v := nI 1) hX dX7_figures_78 (by decide) ?_
                    refine PW.iadd hX dX7_figures_79 ?_
                    refine PW.top (nI_add p 1) ?_
                    refine PW.putI hX fp_X7_75 dX7_figures_80 rfl rfl ?_
                    first | refine PW.iinc hX dX7_figures_83 rfl (iincN _) ?_ | refine PW.iinc hX dX7_figures_83 rfl rfl ?_
                    refine PW.goto (tgt := 4) hX dX7_figures_86 (by decide) ?_
                    exact nx
        · rw [if_neg hc] at h3
          have h9 := h89 v n p (by omega) h3
          by_cases hp : p < mtn M
          · have b := t3 p hp
            refine PW.aload_n hX dX7_figures_4 rfl rfl ?_
            refine PW.getfield hX fl_X7_72 dX7_figures_5 rfl rfl ?_
            refine PW.if_eq (tgt := 89) hX dX7_figures_8 (by decide) (fun c8 => ?_) (fun c8 => ?_)
            · first | rw [bI_d0] at c8 | rw [bI_eq0] at c8 | rw [nI_eq0 (by omega)] at c8 | skip
              exact absurd (show true = false from c8) (by decide) -- CLOSED
            · first | rw [bI_d0] at c8 | rw [bI_eq0] at c8 | rw [nI_eq0 (by omega)] at c8 | skip
              refine PW.iload_n hX dX7_figures_11 rfl rfl ?_
              refine PW.iload_n hX dX7_figures_12 rfl rfl ?_
              refine PW.icmp_ge (tgt := 89) hX dX7_figures_13 (by decide) (fun c13 => ?_) (fun c13 => ?_)
              · try rw [nI_leI (by omega) (by omega)] at c13
                exfalso; omega -- CLOSED
              · try rw [nI_leI (by omega) (by omega)] at c13
                refine PW.aload_n hX dX7_figures_16 rfl rfl ?_
                refine PW.getfield hX fl_X7_75 dX7_figures_17 rfl rfl ?_
                refine PW.top (show _ = nI p from rfl) ?_
                refine PW.aload_n hX dX7_figures_20 rfl rfl ?_
                refine PW.getfield hX fl_X7_68 dX7_figures_21 rfl rfl ?_
                refine PW.top (show _ = nI (mtn M) from rfl) ?_
                refine PW.icmp_ge (tgt := 89) hX dX7_figures_24 (by decide) (fun c24 => ?_) (fun c24 => ?_)
                · try rw [nI_leI (by omega) (by omega)] at c24
                  exfalso; omega -- CLOSED
                · try rw [nI_leI (by omega) (by omega)] at c24
                  refine PW.aload_n hX dX7_figures_27 rfl rfl ?_
                  refine PW.getfield hX fl_X7_19 dX7_figures_28 rfl rfl ?_
                  refine PW.aload_n hX dX7_figures_31 rfl rfl ?_
                  refine PW.getfield hX fl_X7_75 dX7_figures_32 rfl rfl ?_
                  refine PW.iaload (k := p) hX dX7_figures_35 rfl rfl rfl (by omega) ?_
                  refine PW.top (show _ = nI (mta M p) from rfl) ?_
                  refine PW.bipush (v := nI 48) hX dX7_figures_36 (by decide) ?_
                  refine PW.icmp_lt (tgt := 89) hX dX7_figures_38 (by decide) (fun c38 => ?_) (fun c38 => ?_)
                  · try rw [nI_ltI (by omega) (by omega)] at c38
                    exact h9
                  · try rw [nI_ltI (by omega) (by omega)] at c38
                    refine PW.aload_n hX dX7_figures_41 rfl rfl ?_
                    refine PW.getfield hX fl_X7_19 dX7_figures_42 rfl rfl ?_
                    refine PW.aload_n hX dX7_figures_45 rfl rfl ?_
                    refine PW.getfield hX fl_X7_75 dX7_figures_46 rfl rfl ?_
                    refine PW.iaload (k := p) hX dX7_figures_49 rfl rfl rfl (by omega) ?_
                    refine PW.top (show _ = nI (mta M p) from rfl) ?_
                    refine PW.bipush (v := nI 57) hX dX7_figures_50 (by decide) ?_
                    refine PW.icmp_gt (tgt := 89) hX dX7_figures_52 (by decide) (fun c52 => ?_) (fun c52 => ?_)
                    · try rw [nI_ltI (by omega) (by omega)] at c52
                      exact h9
                    · try rw [nI_ltI (by omega) (by omega)] at c52
                      exfalso; omega -- CLOSED
          · refine PW.aload_n hX dX7_figures_4 rfl rfl ?_
            refine PW.getfield hX fl_X7_72 dX7_figures_5 rfl rfl ?_
            refine PW.if_eq (tgt := 89) hX dX7_figures_8 (by decide) (fun c8 => ?_) (fun c8 => ?_)
            · first | rw [bI_d0] at c8 | rw [bI_eq0] at c8 | rw [nI_eq0 (by omega)] at c8 | skip
              exact absurd (show true = false from c8) (by decide) -- CLOSED
            · first | rw [bI_d0] at c8 | rw [bI_eq0] at c8 | rw [nI_eq0 (by omega)] at c8 | skip
              refine PW.iload_n hX dX7_figures_11 rfl rfl ?_
              refine PW.iload_n hX dX7_figures_12 rfl rfl ?_
              refine PW.icmp_ge (tgt := 89) hX dX7_figures_13 (by decide) (fun c13 => ?_) (fun c13 => ?_)
              · try rw [nI_leI (by omega) (by omega)] at c13
                exfalso; omega -- CLOSED
              · try rw [nI_leI (by omega) (by omega)] at c13
                refine PW.aload_n hX dX7_figures_16 rfl rfl ?_
                refine PW.getfield hX fl_X7_75 dX7_figures_17 rfl rfl ?_
                refine PW.top (show _ = nI p from rfl) ?_
                refine PW.aload_n hX dX7_figures_20 rfl rfl ?_
                refine PW.getfield hX fl_X7_68 dX7_figures_21 rfl rfl ?_
                refine PW.top (show _ = nI (mtn M) from rfl) ?_
                refine PW.icmp_ge (tgt := 89) hX dX7_figures_24 (by decide) (fun c24 => ?_) (fun c24 => ?_)
                · try rw [nI_leI (by omega) (by omega)] at c24
                  exact h9
                · try rw [nI_leI (by omega) (by omega)] at c24
                  exfalso; omega -- CLOSED
    have h4 := loop r 0 0 (mat' M) (by omega) t2 rfl
    refine PW.iconst (v := nI 0) hX dX7_figures_0 (by decide) ?_
    refine PW.istore_n hX dX7_figures_1 rfl rfl ?_
    refine PW.iconst (v := nI 0) hX dX7_figures_2 (by decide) ?_
    refine PW.istore_n hX dX7_figures_3 rfl rfl ?_
    refine PW.heap (h' := mdB (mAt M (mat' M) true)) (by rw [← hw]; rfl) ?_
    exact h4
