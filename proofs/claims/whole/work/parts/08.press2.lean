def wtg (P : Pl) (le : Nat → Nat) (m j : Nat) : Bool := decide (0 < le j ∧ plse P j ≤ m)
def chs (P : Pl) (le : Nat → Nat) (la : Option Nat) (m : Nat) : Nat → Option Nat
  | 0 => none
  | n + 1 => match chs P le la m n with
    | none => bif wtg P le m n then some n else none
    | some c => bif wtg P le m n && ahd P le la n c then some n else some c
theorem chs_lt (P : Pl) (le : Nat → Nat) (la : Option Nat) (m : Nat) : ∀ n c, chs P le la m n = some c → c < n ∧ wtg P le m c = true := by
  intro n
  induction n with
  | zero => intro c h; cases h
  | succ n ih =>
    intro c h
    rw [chs] at h
    cases hc : chs P le la m n with
    | none =>
      rw [hc] at h
      cases hw : wtg P le m n with
      | false => rw [hw] at h; cases h
      | true => rw [hw] at h; cases h; exact ⟨by omega, hw⟩
    | some c0 =>
      rw [hc] at h
      cases hw : wtg P le m n with
      | false => rw [hw] at h; cases h; exact ⟨by have := (ih c hc).1; omega, (ih c hc).2⟩
      | true =>
        cases ha : ahd P le la n c0 with
        | false => simp only [hw, ha, Bool.and_false, cond_false, Option.some.injEq] at h; exact ⟨by have := (ih c0 hc).1; omega, h ▸ (ih c0 hc).2⟩
        | true => simp only [hw, ha, Bool.and_true, cond_true, Option.some.injEq] at h; exact ⟨by omega, h ▸ hw⟩
theorem pm_chosenJob (P : Pl) (ok : PlOk P) (S : Pr) (q : Nat) (so : PrOk P S q) (m : Nat) (hm : m < 100) : PM mu_X2_chosenJob 3 0 0 [.ref 0, .ref 2, .int (nI m)] (prB 0 S ++ plB 2 P) (eqP (some (.int (oI (chs P (prle S) (prla S) m (plnj P))))) (prB 0 S ++ plB 2 P)) := by
  have ok' := ok
  have so' := so
  obtain ⟨o1, o2, o3, o4, o5, o6⟩ := ok
  obtain ⟨s1, s2, s3, s4, s5⟩ := so
  refine PM.start (Or.inl (by decide +kernel)) rfl rfl rfl ?_
  intro X hX hR hx hin
  have loop : ∀ n i : Nat, i ≤ plnj P → plnj P < i + n → PW X 6 [some (.ref 0), some (.ref 2), some (.int (nI m)), some (.int (oI (chs P (prle S) (prla S) m i))), some (.int (nI i)), none] [] (prB 0 S ++ plB 2 P) 0 0 := by
    intro n
    induction n with
    | zero => intro i h1 h2; exact absurd h2 (by omega)
    | succ n ih =>
      intro i h1 h2
      by_cases hi : i = plnj P
      · subst hi
        refine PW.iload hX dX2_chosenJob_6 rfl ?_
        refine PW.aload_n hX dX2_chosenJob_8 rfl rfl ?_
        refine PW.getfield hX fl_X2_28 dX2_chosenJob_9 rfl rfl ?_
        refine PW.icmp_ge (tgt := 74) hX dX2_chosenJob_12 (by decide) (fun c12 => ?_) (fun c12 => ?_)
        · try rw [nI_leI (by omega) (by omega)] at c12
          refine PW.iload_n hX dX2_chosenJob_74 rfl rfl ?_
          refine PW.iret hX hR dX2_chosenJob_75 rfl rfl ?_
          exact ⟨rfl, rfl⟩
        · try rw [nI_leI (by omega) (by omega)] at c12
          exfalso; omega -- CLOSED
      · have h5 := o5 i (by omega)
        have s1i := s1 i (by omega)
        have hnx := ih (i + 1) (by omega) (by omega)
        have hj : ∀ v : Int32, v = bI (wtg P (prle S) m i) → PW X 41 [some (.ref 0), some (.ref 2), some (.int (nI m)), some (.int (oI (chs P (prle S) (prla S) m i))), some (.int (nI i)), none] [.int v] (prB 0 S ++ plB 2 P) 0 0 := by
          rintro v rfl
          cases hw : wtg P (prle S) m i with
          | false =>
            have e : chs P (prle S) (prla S) m (i + 1) = chs P (prle S) (prla S) m i := by
              rw [chs, hw]; cases chs P (prle S) (prla S) m i <;> rfl
            rw [e] at hnx
            refine PW.istore hX dX2_chosenJob_41 rfl ?_
            refine PW.iload hX dX2_chosenJob_43 rfl ?_
            refine PW.if_eq (tgt := 68) hX dX2_chosenJob_45 (by decide) (fun c45 => ?_) (fun c45 => ?_)
            · first | rw [bI_d0] at c45 | rw [bI_eq0] at c45 | rw [nI_eq0 (by omega)] at c45 | skip
              first | refine PW.iinc hX dX2_chosenJob_68 rfl (iincN _) ?_ | refine PW.iinc hX dX2_chosenJob_68 rfl rfl ?_
              refine PW.goto (tgt := 6) hX dX2_chosenJob_71 (by decide) ?_
              refine PW.clr 5 ?_
              exact hnx
            · first | rw [bI_d0] at c45 | rw [bI_eq0] at c45 | rw [nI_eq0 (by omega)] at c45 | skip
              exact absurd rfl c45 -- CLOSED
          | true =>
            cases hc : chs P (prle S) (prla S) m i with
            | none =>
              have e : chs P (prle S) (prla S) m (i + 1) = some i := by rw [chs, hw, hc]; rfl
              rw [e] at hnx
              refine PW.istore hX dX2_chosenJob_41 rfl ?_
              refine PW.iload hX dX2_chosenJob_43 rfl ?_
              refine PW.if_eq (tgt := 68) hX dX2_chosenJob_45 (by decide) (fun c45 => ?_) (fun c45 => ?_)
              · first | rw [bI_d0] at c45 | rw [bI_eq0] at c45 | rw [nI_eq0 (by omega)] at c45 | skip
                exact absurd c45 (by decide) -- CLOSED
              · first | rw [bI_d0] at c45 | rw [bI_eq0] at c45 | rw [nI_eq0 (by omega)] at c45 | skip
                refine PW.iload_n hX dX2_chosenJob_48 rfl rfl ?_
                refine PW.bipush (v := (-9)) hX dX2_chosenJob_49 (by decide) ?_
                refine PW.icmp_eq (tgt := 65) hX dX2_chosenJob_51 (by decide) (fun c51 => ?_) (fun c51 => ?_)
                · first | rw [nI_eq (by omega) (by omega)] at c51 | rw [oI_eq9] at c51 | skip
                  refine PW.iload hX dX2_chosenJob_65 rfl ?_
                  refine PW.istore_n hX dX2_chosenJob_67 rfl rfl ?_
                  first | refine PW.iinc hX dX2_chosenJob_68 rfl (iincN _) ?_ | refine PW.iinc hX dX2_chosenJob_68 rfl rfl ?_
                  refine PW.goto (tgt := 6) hX dX2_chosenJob_71 (by decide) ?_
                  refine PW.clr 5 ?_
                  exact hnx
                · first | rw [nI_eq (by omega) (by omega)] at c51 | rw [oI_eq9] at c51 | skip
                  exact absurd trivial c51 -- CLOSED
            | some c =>
              have hcl := (chs_lt _ _ _ _ _ _ hc).1
              cases ha : ahd P (prle S) (prla S) i c with
              | false =>
                have e : chs P (prle S) (prla S) m (i + 1) = some c := by rw [chs, hw, hc]; simp only [ha]; rfl
                rw [e] at hnx
                refine PW.istore hX dX2_chosenJob_41 rfl ?_
                refine PW.iload hX dX2_chosenJob_43 rfl ?_
                refine PW.if_eq (tgt := 68) hX dX2_chosenJob_45 (by decide) (fun c45 => ?_) (fun c45 => ?_)
                · first | rw [bI_d0] at c45 | rw [bI_eq0] at c45 | rw [nI_eq0 (by omega)] at c45 | skip
                  exact absurd c45 (by decide) -- CLOSED
                · first | rw [bI_d0] at c45 | rw [bI_eq0] at c45 | rw [nI_eq0 (by omega)] at c45 | skip
                  refine PW.iload_n hX dX2_chosenJob_48 rfl rfl ?_
                  refine PW.bipush (v := (-9)) hX dX2_chosenJob_49 (by decide) ?_
                  refine PW.icmp_eq (tgt := 65) hX dX2_chosenJob_51 (by decide) (fun c51 => ?_) (fun c51 => ?_)
                  · first | rw [nI_eq (by omega) (by omega)] at c51 | rw [oI_eq9] at c51 | skip
                    exact absurd c51 (nI_ne9 (by omega)) -- CLOSED
                  · first | rw [nI_eq (by omega) (by omega)] at c51 | rw [oI_eq9] at c51 | skip
                    refine PW.aload_n hX dX2_chosenJob_54 rfl rfl ?_
                    refine PW.aload_n hX dX2_chosenJob_55 rfl rfl ?_
                    refine PW.iload hX dX2_chosenJob_56 rfl ?_
                    refine PW.iload_n hX dX2_chosenJob_58 rfl rfl ?_
                    refine PW.vR hX ml_X2_60 (pm_isAhead P ok' S q so' i c (by omega) (by omega)) dX2_chosenJob_59 [0, 1, 2, 3, 4, 5, 6, 7, 8, 9] rfl rfl rfl rfl rfl rfl rfl rfl rfl rfl rfl rfl rfl ?_
                    refine PW.top (congrArg bI ha) ?_
                    refine PW.if_eq (tgt := 68) hX dX2_chosenJob_62 (by decide) (fun c62 => ?_) (fun c62 => ?_)
                    · first | rw [bI_d0] at c62 | rw [bI_eq0] at c62 | rw [nI_eq0 (by omega)] at c62 | skip
                      first | refine PW.iinc hX dX2_chosenJob_68 rfl (iincN _) ?_ | refine PW.iinc hX dX2_chosenJob_68 rfl rfl ?_
                      refine PW.goto (tgt := 6) hX dX2_chosenJob_71 (by decide) ?_
                      refine PW.clr 5 ?_
                      exact hnx
                    · first | rw [bI_d0] at c62 | rw [bI_eq0] at c62 | rw [nI_eq0 (by omega)] at c62 | skip
                      exact absurd rfl c62 -- CLOSED
              | true =>
                have e : chs P (prle S) (prla S) m (i + 1) = some i := by rw [chs, hw, hc]; simp only [ha]; rfl
                rw [e] at hnx
                refine PW.istore hX dX2_chosenJob_41 rfl ?_
                refine PW.iload hX dX2_chosenJob_43 rfl ?_
                refine PW.if_eq (tgt := 68) hX dX2_chosenJob_45 (by decide) (fun c45 => ?_) (fun c45 => ?_)
                · first | rw [bI_d0] at c45 | rw [bI_eq0] at c45 | rw [nI_eq0 (by omega)] at c45 | skip
                  exact absurd c45 (by decide) -- CLOSED
                · first | rw [bI_d0] at c45 | rw [bI_eq0] at c45 | rw [nI_eq0 (by omega)] at c45 | skip
                  refine PW.iload_n hX dX2_chosenJob_48 rfl rfl ?_
                  refine PW.bipush (v := (-9)) hX dX2_chosenJob_49 (by decide) ?_
                  refine PW.icmp_eq (tgt := 65) hX dX2_chosenJob_51 (by decide) (fun c51 => ?_) (fun c51 => ?_)
                  · first | rw [nI_eq (by omega) (by omega)] at c51 | rw [oI_eq9] at c51 | skip
                    exact absurd c51 (nI_ne9 (by omega)) -- CLOSED
                  · first | rw [nI_eq (by omega) (by omega)] at c51 | rw [oI_eq9] at c51 | skip
                    refine PW.aload_n hX dX2_chosenJob_54 rfl rfl ?_
                    refine PW.aload_n hX dX2_chosenJob_55 rfl rfl ?_
                    refine PW.iload hX dX2_chosenJob_56 rfl ?_
                    refine PW.iload_n hX dX2_chosenJob_58 rfl rfl ?_
                    refine PW.vR hX ml_X2_60 (pm_isAhead P ok' S q so' i c (by omega) (by omega)) dX2_chosenJob_59 [0, 1, 2, 3, 4, 5, 6, 7, 8, 9] rfl rfl rfl rfl rfl rfl rfl rfl rfl rfl rfl rfl rfl ?_
                    refine PW.top (congrArg bI ha) ?_
                    refine PW.if_eq (tgt := 68) hX dX2_chosenJob_62 (by decide) (fun c62 => ?_) (fun c62 => ?_)
                    · first | rw [bI_d0] at c62 | rw [bI_eq0] at c62 | rw [nI_eq0 (by omega)] at c62 | skip
                      exact absurd c62 (by decide) -- CLOSED
                    · first | rw [bI_d0] at c62 | rw [bI_eq0] at c62 | rw [nI_eq0 (by omega)] at c62 | skip
                      refine PW.iload hX dX2_chosenJob_65 rfl ?_
                      refine PW.istore_n hX dX2_chosenJob_67 rfl rfl ?_
                      first | refine PW.iinc hX dX2_chosenJob_68 rfl (iincN _) ?_ | refine PW.iinc hX dX2_chosenJob_68 rfl rfl ?_
                      refine PW.goto (tgt := 6) hX dX2_chosenJob_71 (by decide) ?_
                      refine PW.clr 5 ?_
                      exact hnx
        refine PW.iload hX dX2_chosenJob_6 rfl ?_
        refine PW.aload_n hX dX2_chosenJob_8 rfl rfl ?_
        refine PW.getfield hX fl_X2_28 dX2_chosenJob_9 rfl rfl ?_
        refine PW.icmp_ge (tgt := 74) hX dX2_chosenJob_12 (by decide) (fun c12 => ?_) (fun c12 => ?_)
        · try rw [nI_leI (by omega) (by omega)] at c12
          exfalso; omega -- CLOSED
        · try rw [nI_leI (by omega) (by omega)] at c12
          refine PW.aload_n hX dX2_chosenJob_15 rfl rfl ?_
          refine PW.getfield hX fl_X2_9 dX2_chosenJob_16 rfl rfl ?_
          refine PW.iload hX dX2_chosenJob_19 rfl ?_
          refine PW.iaload hX dX2_chosenJob_21 rfl rfl rfl (by omega) ?_
          refine PW.if_le (tgt := 40) hX dX2_chosenJob_22 (by decide) (fun c22 => ?_) (fun c22 => ?_)
          · try rw [nI_le0 (by omega)] at c22
            refine PW.iconst (v := nI 0) hX dX2_chosenJob_40 (by decide) ?_
            exact hj _ (by unfold wtg; rw [decide_eq_false (by omega)]; rfl)
          · try rw [nI_le0 (by omega)] at c22
            refine PW.aload_n hX dX2_chosenJob_25 rfl rfl ?_
            refine PW.getfield hX fl_X2_57 dX2_chosenJob_26 rfl rfl ?_
            refine PW.iload hX dX2_chosenJob_29 rfl ?_
            refine PW.iaload hX dX2_chosenJob_31 rfl rfl rfl (by omega) ?_
            refine PW.iload_n hX dX2_chosenJob_32 rfl rfl ?_
            refine PW.icmp_gt (tgt := 40) hX dX2_chosenJob_33 (by decide) (fun c33 => ?_) (fun c33 => ?_)
            · try rw [nI_ltI (by omega) (by omega)] at c33
              refine PW.iconst (v := nI 0) hX dX2_chosenJob_40 (by decide) ?_
              exact hj _ (by unfold wtg; rw [decide_eq_false (by omega)]; rfl)
            · try rw [nI_ltI (by omega) (by omega)] at c33
              refine PW.iconst (v := nI 1) hX dX2_chosenJob_36 (by decide) ?_
              refine PW.goto (tgt := 41) hX dX2_chosenJob_37 (by decide) ?_
              exact hj _ (by unfold wtg; rw [decide_eq_true (by omega)]; rfl)
  refine PW.bipush (v := (-9)) hX dX2_chosenJob_0 (by decide) ?_
  refine PW.istore_n hX dX2_chosenJob_2 rfl rfl ?_
  refine PW.iconst (v := nI 0) hX dX2_chosenJob_3 (by decide) ?_
  refine PW.istore hX dX2_chosenJob_4 rfl ?_
  exact loop (plnj P + 1) 0 (by omega) (by omega)
/-- what comes out in a minute, and the press behind it -/
def nxt (P : Pl) (S : Pr) (j : Nat) : Nat := 10 * j + plsh P j - prle S j + 1
def pAgain (P : Pl) (S : Pr) : Bool := decide (plkd P = 4 ∧ 0 < plsp P ∧ plsp P ≤ prsi S)
def pTake (P : Pl) (S : Pr) (j : Nat) : Pr := (va_up (prle S) j (prle S j - 1), prli S - 1, some (nxt P S j), prsi S + 1, prmx S + (match prla S with | some k => (if k / 10 = j then 0 else 1) | none => 0))
def pOut (P : Pl) (S : Pr) (m : Nat) : Option Nat × Pr :=
  bif pAgain P S then (prla S, (prle S, prli S, prla S, 0, prmx S)) else
    match chs P (prle S) (prla S) m (plnj P) with
    | none => (none, S)
    | some j => (some (nxt P S j), pTake P S j)
theorem sumN_pos {f : Nat → Nat} {n j : Nat} (hj : j < n) : f j ≤ sumN f n := by
  induction n with
  | zero => omega
  | succ n ih =>
    rw [sumN]
    by_cases h : j = n
    · subst h; omega
    · have := ih (by omega); omega
theorem pm_putOut (P : Pl) (ok : PlOk P) (S : Pr) (q : Nat) (hq : q < 1000) (so : PrOk P S q) (m : Nat) (hm : m < 100) : PM mu_X2_putOut 4 0 0 [.ref 0, .ref 2, .int (nI m)] (prB 0 S ++ plB 2 P) (eqP (some (.int (oI (pOut P S m).1))) (prB 0 (pOut P S m).2 ++ plB 2 P)) := by
  have ok' := ok
  have so' := so
  obtain ⟨o1, o2, o3, o4, o5, o6⟩ := ok
  obtain ⟨s1, s2, s3, s4, s5⟩ := so
  refine PM.start (Or.inl (by decide +kernel)) rfl rfl rfl ?_
  intro X hX hR hx hin
  have hj : pAgain P S = false → PW X 36 [some (.ref 0), some (.ref 2), some (.int (nI m)), none] [] (prB 0 S ++ plB 2 P) 0 0 := by
    intro hag
    have eo : pOut P S m = match chs P (prle S) (prla S) m (plnj P) with | none => (none, S) | some j => (some (nxt P S j), pTake P S j) := by unfold pOut; rw [hag]; rfl
    cases hc : chs P (prle S) (prla S) m (plnj P) with
    | none =>
      rw [hc] at eo
      rw [eo] at hR
      refine PW.aload_n hX dX2_putOut_36 rfl rfl ?_
      refine PW.aload_n hX dX2_putOut_37 rfl rfl ?_
      refine PW.iload_n hX dX2_putOut_38 rfl rfl ?_
      refine PW.vR hX ml_X2_46 (pm_chosenJob P ok' S q so' m hm) dX2_putOut_39 [0, 1, 2, 3, 4, 5, 6, 7, 8, 9] rfl rfl rfl rfl rfl rfl rfl rfl rfl rfl rfl rfl rfl ?_
      refine PW.top (congrArg oI hc) ?_
      refine PW.istore_n hX dX2_putOut_42 rfl rfl ?_
      refine PW.iload_n hX dX2_putOut_43 rfl rfl ?_
      refine PW.bipush (v := (-9)) hX dX2_putOut_44 (by decide) ?_
      refine PW.icmp_ne (tgt := 52) hX dX2_putOut_46 (by decide) (fun c46 => ?_) (fun c46 => ?_)
      · first | rw [nI_eq (by omega) (by omega)] at c46 | rw [oI_eq9] at c46 | skip
        exact absurd trivial c46 -- CLOSED
      · first | rw [nI_eq (by omega) (by omega)] at c46 | rw [oI_eq9] at c46 | skip
        refine PW.bipush (v := (-9)) hX dX2_putOut_49 (by decide) ?_
        refine PW.iret hX hR dX2_putOut_51 rfl rfl ?_
        exact ⟨rfl, rfl⟩
    | some j =>
      rw [hc] at eo
      rw [eo] at hR
      obtain ⟨hjl, hjw⟩ := chs_lt _ _ _ _ _ _ hc
      simp only [wtg, decide_eq_true_eq] at hjw
      have h5 := o5 j hjl
      have s1j := s1 j hjl
      have hli : 1 ≤ prli S := by rw [s3]; have := sumN_pos (f := prle S) hjl; omega
      have hk : ∀ mx : Nat, mx = prmx S + (match prla S with | some k => (if k / 10 = j then 0 else 1) | none => 0) → PW X 82 [some (.ref 0), some (.ref 2), some (.int (nI m)), some (.int (nI j))] [] (prB 0 (prle S, prli S, prla S, prsi S, mx) ++ plB 2 P) 0 0 := by
        rintro mx rfl
        refine PW.aload_n hX dX2_putOut_82 rfl rfl ?_
        refine PW.bipush (v := nI 10) hX dX2_putOut_83 (by decide) ?_
        refine PW.iload_n hX dX2_putOut_85 rfl rfl ?_
        refine PW.imul hX dX2_putOut_86 ?_
        refine PW.aload_n hX dX2_putOut_87 rfl rfl ?_
        refine PW.getfield hX fl_X2_33 dX2_putOut_88 rfl rfl ?_
        refine PW.iload_n hX dX2_putOut_91 rfl rfl ?_
        refine PW.iaload hX dX2_putOut_92 rfl rfl rfl (by omega) ?_
        refine PW.iadd hX dX2_putOut_93 ?_
        refine PW.top (show nI 10 * nI j + nI (plsh P j) = nI (10 * j + plsh P j) by rw [pk_mul, nI_add]) ?_
        refine PW.aload_n hX dX2_putOut_94 rfl rfl ?_
        refine PW.getfield hX fl_X2_9 dX2_putOut_95 rfl rfl ?_
        refine PW.iload_n hX dX2_putOut_98 rfl rfl ?_
        refine PW.iaload hX dX2_putOut_99 rfl rfl rfl (by omega) ?_
        refine PW.isub hX dX2_putOut_100 ?_
        refine PW.top (pk_sub (show prle S j ≤ 10 * j + plsh P j by omega)) ?_
        refine PW.iconst (v := nI 1) hX dX2_putOut_101 (by decide) ?_
        refine PW.iadd hX dX2_putOut_102 ?_
        refine PW.top (nI_add _ 1) ?_
        refine PW.putI hX fp_X2_19 dX2_putOut_103 rfl rfl ?_
        refine PW.aload_n hX dX2_putOut_106 rfl rfl ?_
        refine PW.getfield hX fl_X2_9 dX2_putOut_107 rfl rfl ?_
        refine PW.iload_n hX dX2_putOut_110 rfl rfl ?_
        refine PW.dup2 hX dX2_putOut_111 rfl rfl ?_
        refine PW.iaload hX dX2_putOut_112 rfl rfl rfl (by omega) ?_
        refine PW.iconst (v := nI 1) hX dX2_putOut_113 (by decide) ?_
        refine PW.isub hX dX2_putOut_114 ?_
        refine PW.top (pk_sub (show 1 ≤ prle S j by omega)) ?_
        refine PW.iastore hX dX2_putOut_115 rfl rfl rfl (by omega) ?_
        refine PW.aload_n hX dX2_putOut_116 rfl rfl ?_
        refine PW.dup hX dX2_putOut_117 rfl ?_
        refine PW.getfield hX fl_X2_15 dX2_putOut_118 rfl rfl ?_
        refine PW.iconst (v := nI 1) hX dX2_putOut_121 (by decide) ?_
        refine PW.isub hX dX2_putOut_122 ?_
        refine PW.top (pk_sub (show 1 ≤ prli S from hli)) ?_
        refine PW.putI hX fp_X2_15 dX2_putOut_123 rfl rfl ?_
        refine PW.aload_n hX dX2_putOut_126 rfl rfl ?_
        refine PW.dup hX dX2_putOut_127 rfl ?_
        refine PW.getfield hX fl_X2_22 dX2_putOut_128 rfl rfl ?_
        refine PW.iconst (v := nI 1) hX dX2_putOut_131 (by decide) ?_
        refine PW.iadd hX dX2_putOut_132 ?_
        refine PW.top (nI_add _ 1) ?_
        refine PW.putI hX fp_X2_22 dX2_putOut_133 rfl rfl ?_
        refine PW.aload_n hX dX2_putOut_136 rfl rfl ?_
        refine PW.getfield hX fl_X2_19 dX2_putOut_137 rfl rfl ?_
        refine PW.iret hX hR dX2_putOut_140 rfl rfl ?_
        exact ⟨rfl, by simp only [upd_nI]; rfl⟩
      cases hla : prla S with
      | none =>
        have hk' := hk (prmx S) (by rw [hla]; rfl)
        rw [hla] at hk'
        obtain ⟨le, li, la, si, mx⟩ := S
        subst hla
        refine PW.aload_n hX dX2_putOut_36 rfl rfl ?_
        refine PW.aload_n hX dX2_putOut_37 rfl rfl ?_
        refine PW.iload_n hX dX2_putOut_38 rfl rfl ?_
        refine PW.vR hX ml_X2_46 (pm_chosenJob P ok' (le, li, none, si, mx) q so' m hm) dX2_putOut_39 [0, 1, 2, 3, 4, 5, 6, 7, 8, 9] rfl rfl rfl rfl rfl rfl rfl rfl rfl rfl rfl rfl rfl ?_
        refine PW.top (show _ = nI j from congrArg oI hc) ?_
        refine PW.istore_n hX dX2_putOut_42 rfl rfl ?_
        refine PW.iload_n hX dX2_putOut_43 rfl rfl ?_
        refine PW.bipush (v := (-9)) hX dX2_putOut_44 (by decide) ?_
        refine PW.icmp_ne (tgt := 52) hX dX2_putOut_46 (by decide) (fun c46 => ?_) (fun c46 => ?_)
        · first | rw [nI_eq (by omega) (by omega)] at c46 | rw [oI_eq9] at c46 | skip
          refine PW.aload_n hX dX2_putOut_52 rfl rfl ?_
          refine PW.getfield hX fl_X2_19 dX2_putOut_53 rfl rfl ?_
          refine PW.bipush (v := (-9)) hX dX2_putOut_56 (by decide) ?_
          refine PW.icmp_eq (tgt := 82) hX dX2_putOut_58 (by decide) (fun c58 => ?_) (fun c58 => ?_)
          · first | rw [nI_eq (by omega) (by omega)] at c58 | rw [oI_eq9] at c58 | skip
            exact hk'
          · first | rw [nI_eq (by omega) (by omega)] at c58 | rw [oI_eq9] at c58 | skip
            exact absurd trivial c58 -- CLOSED
        · first | rw [nI_eq (by omega) (by omega)] at c46 | rw [oI_eq9] at c46 | skip
          exact absurd c46 (nI_ne9 (by omega)) -- CLOSED
      | some k =>
        have hsk := s2 k hla
        simp only [isSh, Bool.and_eq_true, decide_eq_true_eq] at hsk
        have hk' := hk (prmx S + (if k / 10 = j then 0 else 1)) (by rw [hla])
        rw [hla] at hk'
        obtain ⟨le, li, la, si, mx⟩ := S
        subst hla
        refine PW.aload_n hX dX2_putOut_36 rfl rfl ?_
        refine PW.aload_n hX dX2_putOut_37 rfl rfl ?_
        refine PW.iload_n hX dX2_putOut_38 rfl rfl ?_
        refine PW.vR hX ml_X2_46 (pm_chosenJob P ok' (le, li, some k, si, mx) q so' m hm) dX2_putOut_39 [0, 1, 2, 3, 4, 5, 6, 7, 8, 9] rfl rfl rfl rfl rfl rfl rfl rfl rfl rfl rfl rfl rfl ?_
        refine PW.top (show _ = nI j from congrArg oI hc) ?_
        refine PW.istore_n hX dX2_putOut_42 rfl rfl ?_
        refine PW.iload_n hX dX2_putOut_43 rfl rfl ?_
        refine PW.bipush (v := (-9)) hX dX2_putOut_44 (by decide) ?_
        refine PW.icmp_ne (tgt := 52) hX dX2_putOut_46 (by decide) (fun c46 => ?_) (fun c46 => ?_)
        · first | rw [nI_eq (by omega) (by omega)] at c46 | rw [oI_eq9] at c46 | skip
          refine PW.aload_n hX dX2_putOut_52 rfl rfl ?_
          refine PW.getfield hX fl_X2_19 dX2_putOut_53 rfl rfl ?_
          refine PW.bipush (v := (-9)) hX dX2_putOut_56 (by decide) ?_
          refine PW.icmp_eq (tgt := 82) hX dX2_putOut_58 (by decide) (fun c58 => ?_) (fun c58 => ?_)
          · first | rw [nI_eq (by omega) (by omega)] at c58 | rw [oI_eq9] at c58 | skip
            exact absurd c58 (nI_ne9 (by omega)) -- CLOSED
          · first | rw [nI_eq (by omega) (by omega)] at c58 | rw [oI_eq9] at c58 | skip
            refine PW.aload_n hX dX2_putOut_61 rfl rfl ?_
            refine PW.getfield hX fl_X2_19 dX2_putOut_62 rfl rfl ?_
            refine PW.bipush (v := nI 10) hX dX2_putOut_65 (by decide) ?_
            refine PW.idiv hX dX2_putOut_67 (by decide) ?_
            refine PW.top (div10 (by omega)) ?_
            refine PW.iload_n hX dX2_putOut_68 rfl rfl ?_
            refine PW.icmp_eq (tgt := 82) hX dX2_putOut_69 (by decide) (fun c69 => ?_) (fun c69 => ?_)
            · first | rw [nI_eq (by omega) (by omega)] at c69 | rw [oI_eq9] at c69 | skip
              rw [if_pos c69] at hk'
              exact hk'
            · first | rw [nI_eq (by omega) (by omega)] at c69 | rw [oI_eq9] at c69 | skip
              refine PW.aload_n hX dX2_putOut_72 rfl rfl ?_
              refine PW.dup hX dX2_putOut_73 rfl ?_
              refine PW.getfield hX fl_X2_25 dX2_putOut_74 rfl rfl ?_
              refine PW.iconst (v := nI 1) hX dX2_putOut_77 (by decide) ?_
              refine PW.iadd hX dX2_putOut_78 ?_
              refine PW.top (nI_add _ 1) ?_
              refine PW.putI hX fp_X2_25 dX2_putOut_79 rfl rfl ?_
              rw [if_neg c69] at hk'
              exact hk'
        · first | rw [nI_eq (by omega) (by omega)] at c46 | rw [oI_eq9] at c46 | skip
          exact absurd c46 (nI_ne9 (by omega)) -- CLOSED
  refine PW.aload_n hX dX2_putOut_0 rfl rfl ?_
  refine PW.getfield hX fl_X2_40 dX2_putOut_1 rfl rfl ?_
  refine PW.iconst (v := nI 4) hX dX2_putOut_4 (by decide) ?_
  refine PW.icmp_ne (tgt := 36) hX dX2_putOut_5 (by decide) (fun c5 => ?_) (fun c5 => ?_)
  · first | rw [nI_eq (by omega) (by omega)] at c5 | rw [oI_eq9] at c5 | skip
    exact hj (by unfold pAgain; exact decide_eq_false (by omega))
  · first | rw [nI_eq (by omega) (by omega)] at c5 | rw [oI_eq9] at c5 | skip
    refine PW.aload_n hX dX2_putOut_8 rfl rfl ?_
    refine PW.getfield hX fl_X2_43 dX2_putOut_9 rfl rfl ?_
    refine PW.if_le (tgt := 36) hX dX2_putOut_12 (by decide) (fun c12 => ?_) (fun c12 => ?_)
    · try rw [nI_le0 (by omega)] at c12
      exact hj (by unfold pAgain; exact decide_eq_false (by omega))
    · try rw [nI_le0 (by omega)] at c12
      refine PW.aload_n hX dX2_putOut_15 rfl rfl ?_
      refine PW.getfield hX fl_X2_22 dX2_putOut_16 rfl rfl ?_
      refine PW.aload_n hX dX2_putOut_19 rfl rfl ?_
      refine PW.getfield hX fl_X2_43 dX2_putOut_20 rfl rfl ?_
      refine PW.icmp_lt (tgt := 36) hX dX2_putOut_23 (by decide) (fun c23 => ?_) (fun c23 => ?_)
      · try rw [nI_ltI (by omega) (by omega)] at c23
        exact hj (by unfold pAgain; exact decide_eq_false (by omega))
      · try rw [nI_ltI (by omega) (by omega)] at c23
        refine PW.aload_n hX dX2_putOut_26 rfl rfl ?_
        refine PW.iconst (v := nI 0) hX dX2_putOut_27 (by decide) ?_
        refine PW.putI hX fp_X2_22 dX2_putOut_28 rfl rfl ?_
        refine PW.aload_n hX dX2_putOut_31 rfl rfl ?_
        refine PW.getfield hX fl_X2_19 dX2_putOut_32 rfl rfl ?_
        refine PW.iret hX hR dX2_putOut_35 rfl rfl ?_
        have hag : pAgain P S = true := by unfold pAgain; exact decide_eq_true (by omega)
        have eo : pOut P S m = (prla S, (prle S, prli S, prla S, 0, prmx S)) := by unfold pOut; rw [hag]; rfl
        rw [eo]
        exact ⟨rfl, rfl⟩
/-- the press at a day's begin -/
def pBeg (P : Pl) (S : Pr) : Pr := (fun j => if j < plnj P then plsh P j else prle S j, sumN (plsh P) (plnj P), none, 0, 0)
theorem pm_begin (P : Pl) (ok : PlOk P) (S : Pr) : PM mu_X2_begin 1 0 0 [.ref 0, .ref 2] (prB 0 S ++ plB 2 P) (eqP none (prB 0 (pBeg P S) ++ plB 2 P)) := by
  have ok' := ok
  obtain ⟨o1, o2, o3, o4, o5, o6⟩ := ok
  refine PM.start (Or.inl (by decide +kernel)) rfl rfl rfl ?_
  intro X hX hR hx hin
  have loop : ∀ n i : Nat, i ≤ plnj P → plnj P < i + n → PW X 2 [some (.ref 0), some (.ref 2), some (.int (nI i))] [] (prB 0 (fun j => if j < i then plsh P j else prle S j, prli S, prla S, prsi S, prmx S) ++ plB 2 P) 0 0 := by
    intro n
    induction n with
    | zero => intro i h1 h2; exact absurd h2 (by omega)
    | succ n ih =>
      intro i h1 h2
      by_cases hi : i = plnj P
      · subst hi
        refine PW.iload_n hX dX2_begin_2 rfl rfl ?_
        refine PW.aload_n hX dX2_begin_3 rfl rfl ?_
        refine PW.getfield hX fl_X2_28 dX2_begin_4 rfl rfl ?_
        refine PW.icmp_ge (tgt := 28) hX dX2_begin_7 (by decide) (fun c7 => ?_) (fun c7 => ?_)
        · try rw [nI_leI (by omega) (by omega)] at c7
          refine PW.aload_n hX dX2_begin_28 rfl rfl ?_
          refine PW.aload_n hX dX2_begin_29 rfl rfl ?_
          refine PW.vR hX ml_X2_36 (pm_allSheets P ok') dX2_begin_30 [2, 3, 4, 5, 6, 7, 8, 9] rfl rfl rfl rfl rfl rfl rfl rfl rfl rfl rfl rfl rfl ?_
          refine PW.putI hX fp_X2_15 dX2_begin_33 rfl rfl ?_
          refine PW.aload_n hX dX2_begin_36 rfl rfl ?_
          refine PW.bipush (v := (-9)) hX dX2_begin_37 (by decide) ?_
          refine PW.putI hX fp_X2_19 dX2_begin_39 rfl rfl ?_
          refine PW.aload_n hX dX2_begin_42 rfl rfl ?_
          refine PW.iconst (v := nI 0) hX dX2_begin_43 (by decide) ?_
          refine PW.putI hX fp_X2_22 dX2_begin_44 rfl rfl ?_
          refine PW.aload_n hX dX2_begin_47 rfl rfl ?_
          refine PW.iconst (v := nI 0) hX dX2_begin_48 (by decide) ?_
          refine PW.putI hX fp_X2_25 dX2_begin_49 rfl rfl ?_
          refine PW.vret hX hR dX2_begin_52 rfl rfl ?_
          exact ⟨rfl, rfl⟩
        · try rw [nI_leI (by omega) (by omega)] at c7
          exfalso; omega -- CLOSED
      · have e : upd (fun j => nI (if j < i then plsh P j else prle S j)) i (nI (plsh P i)) = fun j => nI (if j < i + 1 then plsh P j else prle S j) := by
          rw [upd_nI]
          funext j
          congr 1
          simp only [va_up]
          by_cases h : j = i
          · subst h; simp
          · rw [if_neg h]
            by_cases h3 : j < i
            · rw [if_pos h3, if_pos (by omega)]
            · rw [if_neg h3, if_neg (by omega)]
        refine PW.iload_n hX dX2_begin_2 rfl rfl ?_
        refine PW.aload_n hX dX2_begin_3 rfl rfl ?_
        refine PW.getfield hX fl_X2_28 dX2_begin_4 rfl rfl ?_
        refine PW.icmp_ge (tgt := 28) hX dX2_begin_7 (by decide) (fun c7 => ?_) (fun c7 => ?_)
        · try rw [nI_leI (by omega) (by omega)] at c7
          exfalso; omega -- CLOSED
        · try rw [nI_leI (by omega) (by omega)] at c7
          refine PW.aload_n hX dX2_begin_10 rfl rfl ?_
          refine PW.getfield hX fl_X2_9 dX2_begin_11 rfl rfl ?_
          refine PW.iload_n hX dX2_begin_14 rfl rfl ?_
          refine PW.aload_n hX dX2_begin_15 rfl rfl ?_
          refine PW.getfield hX fl_X2_33 dX2_begin_16 rfl rfl ?_
          refine PW.iload_n hX dX2_begin_19 rfl rfl ?_
          refine PW.iaload hX dX2_begin_20 rfl rfl rfl (by omega) ?_
          refine PW.iastore hX dX2_begin_21 rfl rfl rfl (by omega) ?_
          refine PW.heap (h' := prB 0 (fun j => if j < i + 1 then plsh P j else prle S j, prli S, prla S, prsi S, prmx S) ++ plB 2 P) ((congrArg (fun f => (prB 0 (fun j => if j < i then plsh P j else prle S j, prli S, prla S, prsi S, prmx S) ++ plB 2 P).set 1 (Sum.inl (0, 6, f))) e).trans rfl) ?_
          first | refine PW.iinc hX dX2_begin_22 rfl (iincN _) ?_ | refine PW.iinc hX dX2_begin_22 rfl rfl ?_
          refine PW.goto (tgt := 2) hX dX2_begin_25 (by decide) ?_
          exact ih (i + 1) (by omega) (by omega)
  refine PW.iconst (v := nI 0) hX dX2_begin_0 (by decide) ?_
  refine PW.istore_n hX dX2_begin_1 rfl rfl ?_
  refine PW.heap (h' := prB 0 (fun j => if j < 0 then plsh P j else prle S j, prli S, prla S, prsi S, prmx S) ++ plB 2 P) ?_ (loop (plnj P + 1) 0 (by omega) (by omega))
  simp only [Nat.not_lt_zero, if_false]
/-- the press over minutes m .. m + n - 1, while something is left -/
def pRun (P : Pl) : Nat → Nat → Pr → Pr
  | 0, _, S => S
  | n + 1, m, S => bif decide (0 < prli S) then pRun P n (m + 1) (pOut P S m).2 else S
theorem sumN_congr {f g : Nat → Nat} {n : Nat} (h : ∀ j, j < n → f j = g j) : sumN f n = sumN g n := by
  induction n with
  | zero => rfl
  | succ n ih => rw [sumN, sumN, ih (fun j hj => h j (by omega)), h n (by omega)]
theorem sumN_up {f : Nat → Nat} {n j v : Nat} (hj : j < n) : sumN (va_up f j v) n + f j = sumN f n + v := by
  induction n with
  | zero => omega
  | succ n ih =>
    rw [sumN, sumN]
    by_cases h : j = n
    · subst h
      rw [sumN_congr (g := f) (fun i hi => va_up_ne f v (by omega)), va_up_self]
      omega
    · have := ih (by omega)
      rw [va_up_ne f v (fun e => h e.symm)]
      omega
theorem pBeg_ok (P : Pl) (S : Pr) : PrOk P (pBeg P S) 0 := by
  refine ⟨fun j hj => ?_, fun k hk => ?_, ?_, Nat.le_refl _, Nat.le_refl _⟩
  · show (if j < plnj P then plsh P j else prle S j) ≤ _
    rw [if_pos hj]
    exact Nat.le_refl _
  · cases hk
  · show sumN (plsh P) (plnj P) = sumN (fun j => if j < plnj P then plsh P j else prle S j) (plnj P)
    exact sumN_congr fun j hj => by rw [if_pos hj]
theorem nxt_sh {P : Pl} (ok : PlOk P) {S : Pr} {m : Nat} (so : PrOk P S m) {j : Nat} (hj : j < plnj P) (hl : 0 < prle S j) : nxt P S j / 10 = j ∧ nxt P S j % 10 = plsh P j - prle S j + 1 ∧ isSh P (nxt P S j) = true := by
  have h5 := ok.2.2.2.2.1 j hj
  have h1 := so.1 j hj
  have e : nxt P S j = 10 * j + (plsh P j - prle S j + 1) := by unfold nxt; omega
  have e1 : nxt P S j / 10 = j := by omega
  have e2 : nxt P S j % 10 = plsh P j - prle S j + 1 := by omega
  refine ⟨e1, e2, ?_⟩
  simp only [isSh, Bool.and_eq_true, decide_eq_true_eq, e1, e2]
  omega
theorem pOut_ok {P : Pl} (ok : PlOk P) {S : Pr} {m : Nat} (so : PrOk P S m) : PrOk P (pOut P S m).2 (m + 1) ∧ ∀ k, (pOut P S m).1 = some k → isSh P k = true := by
  unfold pOut
  cases hag : pAgain P S with
  | true =>
    exact ⟨⟨so.1, so.2.1, so.2.2.1, Nat.zero_le _, Nat.le_succ_of_le so.2.2.2.2⟩, fun k hk => so.2.1 k hk⟩
  | false =>
    simp only [cond_false]
    cases hc : chs P (prle S) (prla S) m (plnj P) with
    | none => exact ⟨⟨so.1, so.2.1, so.2.2.1, Nat.le_succ_of_le so.2.2.2.1, Nat.le_succ_of_le so.2.2.2.2⟩, fun k hk => by cases hk⟩
    | some j =>
      obtain ⟨hjl, hjw⟩ := chs_lt _ _ _ _ _ _ hc
      simp only [wtg, decide_eq_true_eq] at hjw
      have h1 := so.1 j hjl
      obtain ⟨n1, n2, n3⟩ := nxt_sh ok so hjl hjw.1
      refine ⟨⟨fun i hi => ?_, fun k hk => ?_, ?_, ?_, ?_⟩, fun k hk => ?_⟩
      · show va_up (prle S) j (prle S j - 1) i ≤ _
        by_cases h : i = j
        · subst h; rw [va_up_self]; omega
        · rw [va_up_ne _ _ h]; exact so.1 i hi
      · have hk : some (nxt P S j) = some k := hk
        cases hk
        exact n3
      · show prli S - 1 = sumN (va_up (prle S) j (prle S j - 1)) (plnj P)
        have := sumN_up (f := prle S) (v := prle S j - 1) hjl
        have := so.2.2.1
        omega
      · show prsi S + 1 ≤ m + 1
        have := so.2.2.2.1
        omega
      · show prmx S + _ ≤ m + 1
        have h9 := so.2.2.2.2
        have : ∀ z : Option Nat, (match z with | some k => (if k / 10 = j then 0 else 1) | none => 0) ≤ 1 := by
          intro z
          cases z with
          | none => exact Nat.zero_le _
          | some k => dsimp only; split <;> omega
        have := this (prla S)
        omega
      · cases hk
        exact n3
theorem pm_mixedIn (P : Pl) (ok : PlOk P) (S : Pr) : PM mu_X2_mixedIn 5 0 0 [.ref 0, .ref 2] (prB 0 S ++ plB 2 P) (eqP (some (.int (nI (prmx (pRun P 100 0 (pBeg P S)))))) (prB 0 (pRun P 100 0 (pBeg P S)) ++ plB 2 P)) := by
  refine PM.start (Or.inl (by decide +kernel)) rfl rfl rfl ?_
  intro X hX hR hx hin
  have loop : ∀ (n m : Nat) (Z : Pr), m + n = 100 → PrOk P Z m → pRun P 100 0 (pBeg P S) = pRun P n m Z → PW X 7 [some (.ref 0), some (.ref 2), some (.int (nI m))] [] (prB 0 Z ++ plB 2 P) 0 0 := by
    intro n
    induction n with
    | zero =>
      intro m Z h1 h2 h3
      rw [h3] at hR
      refine PW.iload_n hX dX2_mixedIn_7 rfl rfl ?_
      refine PW.bipush (v := nI 100) hX dX2_mixedIn_8 (by decide) ?_
      refine PW.icmp_ge (tgt := 33) hX dX2_mixedIn_10 (by decide) (fun c10 => ?_) (fun c10 => ?_)
      · try rw [nI_leI (by omega) (by omega)] at c10
        refine PW.aload_n hX dX2_mixedIn_33 rfl rfl ?_
        refine PW.getfield hX fl_X2_25 dX2_mixedIn_34 rfl rfl ?_
        refine PW.iret hX hR dX2_mixedIn_37 rfl rfl ?_
        exact ⟨rfl, rfl⟩
      · try rw [nI_leI (by omega) (by omega)] at c10
        exfalso; omega -- CLOSED
    | succ n ih =>
      intro m Z h1 h2 h3
      have hli : prli Z < 1000000 := by
        rw [h2.2.2.1]
        have h9 : ∀ q, q ≤ 6 → q ≤ plnj P → sumN (prle Z) q ≤ 9 * q := by
          intro q
          induction q with
          | zero => intro _ _; exact Nat.le_refl _
          | succ q ihq =>
            intro a b
            have := ihq (by omega) (by omega)
            have h8 := h2.1 q (by omega)
            have h7 := ok.2.2.2.2.1 q (by omega)
            rw [sumN]
            omega
        have := h9 (plnj P) ok.1 (Nat.le_refl _)
        have := ok.1
        omega
      by_cases hz : 0 < prli Z
      · have e : pRun P (n + 1) m Z = pRun P n (m + 1) (pOut P Z m).2 := by rw [pRun, decide_eq_true hz]; rfl
        refine PW.iload_n hX dX2_mixedIn_7 rfl rfl ?_
        refine PW.bipush (v := nI 100) hX dX2_mixedIn_8 (by decide) ?_
        refine PW.icmp_ge (tgt := 33) hX dX2_mixedIn_10 (by decide) (fun c10 => ?_) (fun c10 => ?_)
        · try rw [nI_leI (by omega) (by omega)] at c10
          exfalso; omega -- CLOSED
        · try rw [nI_leI (by omega) (by omega)] at c10
          refine PW.aload_n hX dX2_mixedIn_13 rfl rfl ?_
          refine PW.getfield hX fl_X2_15 dX2_mixedIn_14 rfl rfl ?_
          refine PW.if_le (tgt := 33) hX dX2_mixedIn_17 (by decide) (fun c17 => ?_) (fun c17 => ?_)
          · try rw [nI_le0 (by omega)] at c17
            exfalso; omega -- CLOSED
          · try rw [nI_le0 (by omega)] at c17
            refine PW.aload_n hX dX2_mixedIn_20 rfl rfl ?_
            refine PW.aload_n hX dX2_mixedIn_21 rfl rfl ?_
            refine PW.iload_n hX dX2_mixedIn_22 rfl rfl ?_
            refine PW.vI (h1 := prB 0 (pOut P Z m).2 ++ plB 2 P) hX ml_X2_54 (pm_putOut P ok Z m (by omega) h2 m (by omega)) dX2_mixedIn_23 [0, 1, 2, 3, 4, 5, 6, 7, 8, 9] rfl rfl rfl rfl rfl rfl rfl rfl rfl rfl rfl rfl rfl rfl rfl ?_
            refine PW.pop hX dX2_mixedIn_26 rfl ?_
            first | refine PW.iinc hX dX2_mixedIn_27 rfl (iincN _) ?_ | refine PW.iinc hX dX2_mixedIn_27 rfl rfl ?_
            refine PW.goto (tgt := 7) hX dX2_mixedIn_30 (by decide) ?_
            exact ih (m + 1) _ (by omega) (pOut_ok ok h2).1 (h3.trans e)
      · have e : pRun P (n + 1) m Z = Z := by rw [pRun, decide_eq_false hz]; rfl
        rw [h3.trans e] at hR
        refine PW.iload_n hX dX2_mixedIn_7 rfl rfl ?_
        refine PW.bipush (v := nI 100) hX dX2_mixedIn_8 (by decide) ?_
        refine PW.icmp_ge (tgt := 33) hX dX2_mixedIn_10 (by decide) (fun c10 => ?_) (fun c10 => ?_)
        · try rw [nI_leI (by omega) (by omega)] at c10
          exfalso; omega -- CLOSED
        · try rw [nI_leI (by omega) (by omega)] at c10
          refine PW.aload_n hX dX2_mixedIn_13 rfl rfl ?_
          refine PW.getfield hX fl_X2_15 dX2_mixedIn_14 rfl rfl ?_
          refine PW.if_le (tgt := 33) hX dX2_mixedIn_17 (by decide) (fun c17 => ?_) (fun c17 => ?_)
          · try rw [nI_le0 (by omega)] at c17
            refine PW.aload_n hX dX2_mixedIn_33 rfl rfl ?_
            refine PW.getfield hX fl_X2_25 dX2_mixedIn_34 rfl rfl ?_
            refine PW.iret hX hR dX2_mixedIn_37 rfl rfl ?_
            exact ⟨rfl, rfl⟩
          · try rw [nI_le0 (by omega)] at c17
            exfalso; omega -- CLOSED
  refine PW.aload_n hX dX2_mixedIn_0 rfl rfl ?_
  refine PW.aload_n hX dX2_mixedIn_1 rfl rfl ?_
  refine PW.vV (h1 := prB 0 (pBeg P S) ++ plB 2 P) hX ml_X2_50 (pm_begin P ok S) dX2_mixedIn_2 [0, 1, 2, 3, 4, 5, 6, 7, 8, 9] rfl rfl rfl rfl rfl rfl rfl rfl rfl rfl rfl rfl rfl rfl rfl ?_
  refine PW.iconst (v := nI 0) hX dX2_mixedIn_5 (by decide) ?_
  refine PW.istore_n hX dX2_mixedIn_6 rfl rfl ?_
  exact loop 100 0 _ rfl (pBeg_ok P S) rfl
