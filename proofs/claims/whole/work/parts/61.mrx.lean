/-! ===== the reference: two three lacks laps ===== -/
def tJ (P : Pl) (x y : Int32) : Bool := inB (plnj P) x && (inB (plnj P) y && decide (¬ x = y))
def qTwo (M : Md) (P : Pl) (x y : Int32) : Int32 × Md := bif tJ P x y then (wRes (mli M) (mln M) (plsh P x.toNatClampNeg) (plsh P y.toNatClampNeg) 0 (mwy M), sE M (mli M, mln M, wAll (mli M) (mln M) (plsh P x.toNatClampNeg) (plsh P y.toNatClampNeg) 0 (mwy M))) else (-1, mNo M 1)
theorem pm_mtwo (M : Md) (P : Pl) (pr : PR P (mno M)) (ok : PlOk P) (hn : mln M ≤ 20) (hv : ∀ i, i < mln M → mli M i < 100) (x y : Int32) : PM mu_X7_two 1 0 0 [.ref 0, .int x, .int y] (mdB M) (eqP (some (.int (qTwo M P x y).1)) (mdB (qTwo M P x y).2)) := by
  have o1 := ok.1
  have o5 := ok.2.2.2.2.1
  have p4 := pr.2.2.2.2.1
  have cJ := fun z => pm_mnj M z
  rw [pr.1] at cJ
  unfold qTwo
  have bad : tJ P x y = false → PM mu_X7_two 1 0 0 [.ref 0, .int x, .int y] (mdB M) (eqP (some (.int (-1))) (mdB (mNo M 1))) := by
    intro hb
    refine PM.start (Or.inl (by decide +kernel)) rfl rfl rfl ?_
    intro X hX hR hx hin
    have h21 : PW X 21 [some (.ref 0), some (.int x), some (.int y)] [] (mdB M) 0 0 := by
      refine PW.aload_n hX dX7_two_21 rfl rfl ?_
      refine PW.iconst (v := (-1)) hX dX7_two_22 (by decide) ?_
      refine PW.vIi hX ml_X7_64 (pm_no M (-1) 1 (by decide) (by decide)) dX7_two_23 17 rfl rfl rfl rfl rfl rfl rfl rfl rfl rfl rfl rfl rfl rfl rfl ?_
      refine PW.iret hX hR dX7_two_26 rfl rfl ?_
      exact ⟨rfl, rfl⟩
    refine PW.aload_n hX dX7_two_0 rfl rfl ?_
    refine PW.iload_n hX dX7_two_1 rfl rfl ?_
    refine PW.vIi hX ml_X7_138 (cJ x) dX7_two_2 17 rfl rfl rfl rfl rfl rfl rfl rfl rfl rfl rfl rfl rfl rfl rfl ?_
    refine PW.if_ne (tgt := 21) hX dX7_two_5 (by decide) (fun c5 => ?_) (fun c5 => ?_)
    · exact h21
    · refine PW.aload_n hX dX7_two_8 rfl rfl ?_
      refine PW.iload_n hX dX7_two_9 rfl rfl ?_
      refine PW.vIi hX ml_X7_138 (cJ y) dX7_two_10 17 rfl rfl rfl rfl rfl rfl rfl rfl rfl rfl rfl rfl rfl rfl rfl ?_
      refine PW.if_ne (tgt := 21) hX dX7_two_13 (by decide) (fun c13 => ?_) (fun c13 => ?_)
      · exact h21
      · refine PW.iload_n hX dX7_two_16 rfl rfl ?_
        refine PW.iload_n hX dX7_two_17 rfl rfl ?_
        refine PW.icmp_ne (tgt := 27) hX dX7_two_18 (by decide) (fun c18 => ?_) (fun c18 => ?_)
        · rw [bI_eq0, Bool.not_eq_false'] at c5 c13
          unfold tJ at hb
          rw [c5, c13, decide_eq_true c18] at hb
          cases hb -- CLOSED
        · exact h21
  cases hb : tJ P x y with
  | false => exact bad hb
  | true =>
    dsimp only [cond_true]
    have hb' := hb
    unfold tJ at hb'
    rw [Bool.and_eq_true, Bool.and_eq_true, decide_eq_true_eq] at hb'
    obtain ⟨b1, b2, b3⟩ := hb'
    obtain ⟨a, ha, rfl⟩ := inB_of (by omega) b1
    obtain ⟨b, hb2, rfl⟩ := inB_of (by omega) b2
    rw [nI_clamp (by omega), nI_clamp (by omega)]
    have cT := pm_mtog M hn hv (plsh P a) (plsh P b) 0 (by have := o5 a ha; omega) (by have := o5 b hb2; omega) (by omega)
    generalize wRes (mli M) (mln M) (plsh P a) (plsh P b) 0 (mwy M) = r at cT ⊢
    generalize wAll (mli M) (mln M) (plsh P a) (plsh P b) 0 (mwy M) = w at cT ⊢
    refine PM.start (Or.inl (by decide +kernel)) rfl rfl rfl ?_
    intro X hX hR hx hin
    refine PW.aload_n hX dX7_two_0 rfl rfl ?_
    refine PW.iload_n hX dX7_two_1 rfl rfl ?_
    refine PW.vIi hX ml_X7_138 (cJ (nI a)) dX7_two_2 17 rfl rfl rfl rfl rfl rfl rfl rfl rfl rfl rfl rfl rfl rfl rfl ?_
    refine PW.if_ne (tgt := 21) hX dX7_two_5 (by decide) (fun c5 => ?_) (fun c5 => ?_)
    · exact absurd (show bI (!inB (plnj P) (nI a)) = 0 by rw [b1]; rfl) c5 -- CLOSED
    · refine PW.aload_n hX dX7_two_8 rfl rfl ?_
      refine PW.iload_n hX dX7_two_9 rfl rfl ?_
      refine PW.vIi hX ml_X7_138 (cJ (nI b)) dX7_two_10 17 rfl rfl rfl rfl rfl rfl rfl rfl rfl rfl rfl rfl rfl rfl rfl ?_
      refine PW.if_ne (tgt := 21) hX dX7_two_13 (by decide) (fun c13 => ?_) (fun c13 => ?_)
      · exact absurd (show bI (!inB (plnj P) (nI b)) = 0 by rw [b2]; rfl) c13 -- CLOSED
      · refine PW.iload_n hX dX7_two_16 rfl rfl ?_
        refine PW.iload_n hX dX7_two_17 rfl rfl ?_
        refine PW.icmp_ne (tgt := 27) hX dX7_two_18 (by decide) (fun c18 => ?_) (fun c18 => ?_)
        · refine PW.aload_n hX dX7_two_27 rfl rfl ?_
          refine PW.aload_n hX dX7_two_28 rfl rfl ?_
          refine PW.getfield hX fl_X7_13 dX7_two_29 rfl rfl ?_
          refine PW.bipush (v := nI 20) hX dX7_two_32 (by decide) ?_
          refine PW.iload_n hX dX7_two_34 rfl rfl ?_
          refine PW.iadd hX dX7_two_35 ?_
          refine PW.top (nI_add 20 a) ?_
          refine PW.iaload (k := 20 + a) hX dX7_two_36 rfl rfl rfl (by omega) ?_
          refine PW.top (show _ = nI (plsh P a) from congrArg nI (p4 a ha).2.1) ?_
          refine PW.aload_n hX dX7_two_37 rfl rfl ?_
          refine PW.getfield hX fl_X7_13 dX7_two_38 rfl rfl ?_
          refine PW.bipush (v := nI 20) hX dX7_two_41 (by decide) ?_
          refine PW.iload_n hX dX7_two_43 rfl rfl ?_
          refine PW.iadd hX dX7_two_44 ?_
          refine PW.top (nI_add 20 b) ?_
          refine PW.iaload (k := 20 + b) hX dX7_two_45 rfl rfl rfl (by omega) ?_
          refine PW.top (show _ = nI (plsh P b) from congrArg nI (p4 b hb2).2.1) ?_
          refine PW.iconst (v := nI 0) hX dX7_two_46 (by decide) ?_
          refine PW.vIi hX ml_X7_169 (cT) dX7_two_47 17 rfl rfl rfl rfl rfl rfl rfl rfl rfl rfl rfl rfl rfl rfl rfl ?_
          refine PW.iret hX hR dX7_two_50 rfl rfl ?_
          exact ⟨rfl, rfl⟩
        · exact absurd c18 b3 -- CLOSED
def qThree (M : Md) (P : Pl) (x y u : Int32) : Int32 × Md := bif tJ P x y && (tJ P x u && tJ P y u) then (wRes (mli M) (mln M) (plsh P x.toNatClampNeg) (plsh P y.toNatClampNeg) (plsh P u.toNatClampNeg) (mwy M), sE M (mli M, mln M, wAll (mli M) (mln M) (plsh P x.toNatClampNeg) (plsh P y.toNatClampNeg) (plsh P u.toNatClampNeg) (mwy M))) else (-1, mNo M 1)
theorem pm_mthree (M : Md) (P : Pl) (pr : PR P (mno M)) (ok : PlOk P) (hn : mln M ≤ 20) (hv : ∀ i, i < mln M → mli M i < 100) (x y u : Int32) : PM mu_X7_three 1 0 0 [.ref 0, .int x, .int y, .int u] (mdB M) (eqP (some (.int (qThree M P x y u).1)) (mdB (qThree M P x y u).2)) := by
  have o1 := ok.1
  have o5 := ok.2.2.2.2.1
  have p4 := pr.2.2.2.2.1
  have cJ := fun z => pm_mnj M z
  rw [pr.1] at cJ
  unfold qThree
  have bad : (tJ P x y && (tJ P x u && tJ P y u)) = false → PM mu_X7_three 1 0 0 [.ref 0, .int x, .int y, .int u] (mdB M) (eqP (some (.int (-1))) (mdB (mNo M 1))) := by
    intro hb
    refine PM.start (Or.inl (by decide +kernel)) rfl rfl rfl ?_
    intro X hX hR hx hin
    have h39 : PW X 39 [some (.ref 0), some (.int x), some (.int y), some (.int u)] [] (mdB M) 0 0 := by
      refine PW.aload_n hX dX7_three_39 rfl rfl ?_
      refine PW.iconst (v := (-1)) hX dX7_three_40 (by decide) ?_
      refine PW.vIi hX ml_X7_64 (pm_no M (-1) 1 (by decide) (by decide)) dX7_three_41 17 rfl rfl rfl rfl rfl rfl rfl rfl rfl rfl rfl rfl rfl rfl rfl ?_
      refine PW.iret hX hR dX7_three_44 rfl rfl ?_
      exact ⟨rfl, rfl⟩
    refine PW.aload_n hX dX7_three_0 rfl rfl ?_
    refine PW.iload_n hX dX7_three_1 rfl rfl ?_
    refine PW.vIi hX ml_X7_138 (cJ x) dX7_three_2 17 rfl rfl rfl rfl rfl rfl rfl rfl rfl rfl rfl rfl rfl rfl rfl ?_
    refine PW.if_ne (tgt := 39) hX dX7_three_5 (by decide) (fun c5 => ?_) (fun c5 => ?_)
    · exact h39
    · refine PW.aload_n hX dX7_three_8 rfl rfl ?_
      refine PW.iload_n hX dX7_three_9 rfl rfl ?_
      refine PW.vIi hX ml_X7_138 (cJ y) dX7_three_10 17 rfl rfl rfl rfl rfl rfl rfl rfl rfl rfl rfl rfl rfl rfl rfl ?_
      refine PW.if_ne (tgt := 39) hX dX7_three_13 (by decide) (fun c13 => ?_) (fun c13 => ?_)
      · exact h39
      · refine PW.aload_n hX dX7_three_16 rfl rfl ?_
        refine PW.iload_n hX dX7_three_17 rfl rfl ?_
        refine PW.vIi hX ml_X7_138 (cJ u) dX7_three_18 17 rfl rfl rfl rfl rfl rfl rfl rfl rfl rfl rfl rfl rfl rfl rfl ?_
        refine PW.if_ne (tgt := 39) hX dX7_three_21 (by decide) (fun c21 => ?_) (fun c21 => ?_)
        · exact h39
        · refine PW.iload_n hX dX7_three_24 rfl rfl ?_
          refine PW.iload_n hX dX7_three_25 rfl rfl ?_
          refine PW.icmp_eq (tgt := 39) hX dX7_three_26 (by decide) (fun c26 => ?_) (fun c26 => ?_)
          · exact h39
          · refine PW.iload_n hX dX7_three_29 rfl rfl ?_
            refine PW.iload_n hX dX7_three_30 rfl rfl ?_
            refine PW.icmp_eq (tgt := 39) hX dX7_three_31 (by decide) (fun c31 => ?_) (fun c31 => ?_)
            · exact h39
            · refine PW.iload_n hX dX7_three_34 rfl rfl ?_
              refine PW.iload_n hX dX7_three_35 rfl rfl ?_
              refine PW.icmp_ne (tgt := 45) hX dX7_three_36 (by decide) (fun c36 => ?_) (fun c36 => ?_)
              · rw [bI_eq0, Bool.not_eq_false'] at c5 c13 c21
                unfold tJ at hb
                rw [c5, c13, c21, decide_eq_true c26, decide_eq_true c31, decide_eq_true c36] at hb
                cases hb -- CLOSED
              · exact h39
  cases hb : (tJ P x y && (tJ P x u && tJ P y u)) with
  | false => exact bad hb
  | true =>
    dsimp only [cond_true]
    have hb' := hb
    unfold tJ at hb'
    simp only [Bool.and_eq_true, decide_eq_true_eq] at hb'
    obtain ⟨⟨b1, b2, b3⟩, ⟨_, b4, b5⟩, ⟨_, _, b6⟩⟩ := hb'
    obtain ⟨a, ha, rfl⟩ := inB_of (by omega) b1
    obtain ⟨b, hb2, rfl⟩ := inB_of (by omega) b2
    obtain ⟨c, hc2, rfl⟩ := inB_of (by omega) b4
    rw [nI_clamp (by omega), nI_clamp (by omega), nI_clamp (by omega)]
    have cT := pm_mtog M hn hv (plsh P a) (plsh P b) (plsh P c) (by have := o5 a ha; omega) (by have := o5 b hb2; omega) (by have := o5 c hc2; omega)
    generalize wRes (mli M) (mln M) (plsh P a) (plsh P b) (plsh P c) (mwy M) = r at cT ⊢
    generalize wAll (mli M) (mln M) (plsh P a) (plsh P b) (plsh P c) (mwy M) = w at cT ⊢
    refine PM.start (Or.inl (by decide +kernel)) rfl rfl rfl ?_
    intro X hX hR hx hin
    refine PW.aload_n hX dX7_three_0 rfl rfl ?_
    refine PW.iload_n hX dX7_three_1 rfl rfl ?_
    refine PW.vIi hX ml_X7_138 (cJ (nI a)) dX7_three_2 17 rfl rfl rfl rfl rfl rfl rfl rfl rfl rfl rfl rfl rfl rfl rfl ?_
    refine PW.if_ne (tgt := 39) hX dX7_three_5 (by decide) (fun c5 => ?_) (fun c5 => ?_)
    · exact absurd (show bI (!inB (plnj P) (nI a)) = 0 by rw [b1]; rfl) c5 -- CLOSED
    · refine PW.aload_n hX dX7_three_8 rfl rfl ?_
      refine PW.iload_n hX dX7_three_9 rfl rfl ?_
      refine PW.vIi hX ml_X7_138 (cJ (nI b)) dX7_three_10 17 rfl rfl rfl rfl rfl rfl rfl rfl rfl rfl rfl rfl rfl rfl rfl ?_
      refine PW.if_ne (tgt := 39) hX dX7_three_13 (by decide) (fun c13 => ?_) (fun c13 => ?_)
      · exact absurd (show bI (!inB (plnj P) (nI b)) = 0 by rw [b2]; rfl) c13 -- CLOSED
      · refine PW.aload_n hX dX7_three_16 rfl rfl ?_
        refine PW.iload_n hX dX7_three_17 rfl rfl ?_
        refine PW.vIi hX ml_X7_138 (cJ (nI c)) dX7_three_18 17 rfl rfl rfl rfl rfl rfl rfl rfl rfl rfl rfl rfl rfl rfl rfl ?_
        refine PW.if_ne (tgt := 39) hX dX7_three_21 (by decide) (fun c21 => ?_) (fun c21 => ?_)
        · exact absurd (show bI (!inB (plnj P) (nI c)) = 0 by rw [b4]; rfl) c21 -- CLOSED
        · refine PW.iload_n hX dX7_three_24 rfl rfl ?_
          refine PW.iload_n hX dX7_three_25 rfl rfl ?_
          refine PW.icmp_eq (tgt := 39) hX dX7_three_26 (by decide) (fun c26 => ?_) (fun c26 => ?_)
          · exact absurd c26 b3 -- CLOSED
          · refine PW.iload_n hX dX7_three_29 rfl rfl ?_
            refine PW.iload_n hX dX7_three_30 rfl rfl ?_
            refine PW.icmp_eq (tgt := 39) hX dX7_three_31 (by decide) (fun c31 => ?_) (fun c31 => ?_)
            · exact absurd c31 b5 -- CLOSED
            · refine PW.iload_n hX dX7_three_34 rfl rfl ?_
              refine PW.iload_n hX dX7_three_35 rfl rfl ?_
              refine PW.icmp_ne (tgt := 45) hX dX7_three_36 (by decide) (fun c36 => ?_) (fun c36 => ?_)
              · refine PW.aload_n hX dX7_three_45 rfl rfl ?_
                refine PW.aload_n hX dX7_three_46 rfl rfl ?_
                refine PW.getfield hX fl_X7_13 dX7_three_47 rfl rfl ?_
                refine PW.bipush (v := nI 20) hX dX7_three_50 (by decide) ?_
                refine PW.iload_n hX dX7_three_52 rfl rfl ?_
                refine PW.iadd hX dX7_three_53 ?_
                refine PW.top (nI_add 20 a) ?_
                refine PW.iaload (k := 20 + a) hX dX7_three_54 rfl rfl rfl (by omega) ?_
                refine PW.top (show _ = nI (plsh P a) from congrArg nI (p4 a ha).2.1) ?_
                refine PW.aload_n hX dX7_three_55 rfl rfl ?_
                refine PW.getfield hX fl_X7_13 dX7_three_56 rfl rfl ?_
                refine PW.bipush (v := nI 20) hX dX7_three_59 (by decide) ?_
                refine PW.iload_n hX dX7_three_61 rfl rfl ?_
                refine PW.iadd hX dX7_three_62 ?_
                refine PW.top (nI_add 20 b) ?_
                refine PW.iaload (k := 20 + b) hX dX7_three_63 rfl rfl rfl (by omega) ?_
                refine PW.top (show _ = nI (plsh P b) from congrArg nI (p4 b hb2).2.1) ?_
                refine PW.aload_n hX dX7_three_64 rfl rfl ?_
                refine PW.getfield hX fl_X7_13 dX7_three_65 rfl rfl ?_
                refine PW.bipush (v := nI 20) hX dX7_three_68 (by decide) ?_
                refine PW.iload_n hX dX7_three_70 rfl rfl ?_
                refine PW.iadd hX dX7_three_71 ?_
                refine PW.top (nI_add 20 c) ?_
                refine PW.iaload (k := 20 + c) hX dX7_three_72 rfl rfl rfl (by omega) ?_
                refine PW.top (show _ = nI (plsh P c) from congrArg nI (p4 c hc2).2.1) ?_
                refine PW.vIi hX ml_X7_169 (cT) dX7_three_73 17 rfl rfl rfl rfl rfl rfl rfl rfl rfl rfl rfl rfl rfl rfl rfl ?_
                refine PW.iret hX hR dX7_three_76 rfl rfl ?_
                exact ⟨rfl, rfl⟩
              · exact absurd c36 b6 -- CLOSED
def qLacks (M : Md) (P : Pl) (x : Int32) : Int32 × Md := bif inB (plnj P) x then (lkF (mli M) x.toNatClampNeg (nI (upTo (plsh P x.toNatClampNeg))) (mln M), M) else (-1, mNo M 1)
theorem pm_mlacks (M : Md) (P : Pl) (pr : PR P (mno M)) (ok : PlOk P) (hn : mln M ≤ 20) (hv : ∀ i, i < mln M → mli M i < 100) (x : Int32) : PM mu_X7_lacks 1 0 0 [.ref 0, .int x] (mdB M) (eqP (some (.int (qLacks M P x).1)) (mdB (qLacks M P x).2)) := by
  have o1 := ok.1
  have o5 := ok.2.2.2.2.1
  have p4 := pr.2.2.2.2.1
  have cJ := fun z => pm_mnj M z
  rw [pr.1] at cJ
  unfold qLacks
  cases hj : inB (plnj P) x with
  | false =>
    dsimp only [cond_false]
    refine PM.start (Or.inl (by decide +kernel)) rfl rfl rfl ?_
    intro X hX hR hx hin
    refine PW.aload_n hX dX7_lacks_0 rfl rfl ?_
    refine PW.iload_n hX dX7_lacks_1 rfl rfl ?_
    refine PW.vIi hX ml_X7_138 (cJ x) dX7_lacks_2 17 rfl rfl rfl rfl rfl rfl rfl rfl rfl rfl rfl rfl rfl rfl rfl ?_
    rw [hj]
    refine PW.if_eq (tgt := 14) hX dX7_lacks_5 (by decide) (fun c5 => ?_) (fun c5 => ?_)
    · first | rw [bI_d0] at c5 | rw [bI_eq0] at c5 | rw [nI_eq0 (by omega)] at c5 | skip
      exact absurd c5 (by decide) -- CLOSED
    · first | rw [bI_d0] at c5 | rw [bI_eq0] at c5 | rw [nI_eq0 (by omega)] at c5 | skip
      refine PW.aload_n hX dX7_lacks_8 rfl rfl ?_
      refine PW.iconst (v := (-1)) hX dX7_lacks_9 (by decide) ?_
      refine PW.vIi hX ml_X7_64 (pm_no M (-1) 1 (by decide) (by decide)) dX7_lacks_10 17 rfl rfl rfl rfl rfl rfl rfl rfl rfl rfl rfl rfl rfl rfl rfl ?_
      refine PW.iret hX hR dX7_lacks_13 rfl rfl ?_
      exact ⟨rfl, rfl⟩
  | true =>
    obtain ⟨j, hj2, rfl⟩ := inB_of (by omega) hj
    dsimp only [cond_true]
    rw [nI_clamp (by omega)]
    have s9 := o5 j hj2
    refine PM.start (Or.inl (by decide +kernel)) rfl rfl rfl ?_
    intro X hX hR hx hin
    have loop : ∀ n i : Nat, i ≤ mln M → mln M < i + n → PW X 30 [some (.ref 0), some (.int (nI j)), some (.int (lkF (mli M) j (nI (upTo (plsh P j))) i)), some (.int (nI i))] [] (mdB M) 0 0 := by
      intro n
      induction n with
      | zero => intro i h1 h2; exact absurd h2 (by omega)
      | succ n ih =>
        intro i h1 h2
        by_cases hi : i = mln M
        · subst hi
          refine PW.iload_n hX dX7_lacks_30 rfl rfl ?_
          refine PW.aload_n hX dX7_lacks_31 rfl rfl ?_
          refine PW.getfield hX fl_X7_166 dX7_lacks_32 rfl rfl ?_
          refine PW.icmp_ge (tgt := 73) hX dX7_lacks_35 (by decide) (fun c35 => ?_) (fun c35 => ?_)
          · try rw [nI_leI (by omega) (by omega)] at c35
            refine PW.iload_n hX dX7_lacks_73 rfl rfl ?_
            refine PW.iret hX hR dX7_lacks_74 rfl rfl ?_
            exact ⟨rfl, rfl⟩
          · try rw [nI_leI (by omega) (by omega)] at c35
            exfalso; omega -- CLOSED
        · have hv2 := hv i (by omega)
          have nx := ih (i + 1) (by omega) (by omega)
          rw [lkF] at nx
          refine PW.iload_n hX dX7_lacks_30 rfl rfl ?_
          refine PW.aload_n hX dX7_lacks_31 rfl rfl ?_
          refine PW.getfield hX fl_X7_166 dX7_lacks_32 rfl rfl ?_
          refine PW.icmp_ge (tgt := 73) hX dX7_lacks_35 (by decide) (fun c35 => ?_) (fun c35 => ?_)
          · try rw [nI_leI (by omega) (by omega)] at c35
            exfalso; omega -- CLOSED
          · try rw [nI_leI (by omega) (by omega)] at c35
            refine PW.aload_n hX dX7_lacks_38 rfl rfl ?_
            refine PW.getfield hX fl_X7_54 dX7_lacks_39 rfl rfl ?_
            refine PW.iload_n hX dX7_lacks_42 rfl rfl ?_
            refine PW.iaload (k := i) hX dX7_lacks_43 rfl rfl rfl (by omega) ?_
            refine PW.top (show _ = nI (mli M i) from rfl) ?_
            refine PW.bipush (v := nI 10) hX dX7_lacks_44 (by decide) ?_
            refine PW.idiv hX dX7_lacks_46 (by decide) ?_
            refine PW.top (div10 (show mli M i < 2 ^ 31 by omega)) ?_
            refine PW.iload_n hX dX7_lacks_47 rfl rfl ?_
            refine PW.icmp_ne (tgt := 67) hX dX7_lacks_48 (by decide) (fun c48 => ?_) (fun c48 => ?_)
            · first | rw [nI_eq (by omega) (by omega)] at c48 | rw [oI_eq9] at c48 | skip
              rw [if_neg c48] at nx
              first | refine PW.iinc hX dX7_lacks_67 rfl (iincN _) ?_ | refine PW.iinc hX dX7_lacks_67 rfl rfl ?_
              refine PW.goto (tgt := 30) hX dX7_lacks_70 (by decide) ?_
              exact nx
            · first | rw [nI_eq (by omega) (by omega)] at c48 | rw [oI_eq9] at c48 | skip
              rw [if_pos c48] at nx
              refine PW.iload_n hX dX7_lacks_51 rfl rfl ?_
              refine PW.iconst (v := nI 1) hX dX7_lacks_52 (by decide) ?_
              refine PW.aload_n hX dX7_lacks_53 rfl rfl ?_
              refine PW.getfield hX fl_X7_54 dX7_lacks_54 rfl rfl ?_
              refine PW.iload_n hX dX7_lacks_57 rfl rfl ?_
              refine PW.iaload (k := i) hX dX7_lacks_58 rfl rfl rfl (by omega) ?_
              refine PW.top (show _ = nI (mli M i) from rfl) ?_
              refine PW.bipush (v := nI 10) hX dX7_lacks_59 (by decide) ?_
              refine PW.irem hX dX7_lacks_61 (by decide) ?_
              refine PW.top (rem10 (show mli M i < 2 ^ 31 by omega)) ?_
              refine PW.ishl hX dX7_lacks_62 ?_
              refine PW.iconst (v := (-1)) hX dX7_lacks_63 (by decide) ?_
              refine PW.ixor hX dX7_lacks_64 ?_
              refine PW.iand hX dX7_lacks_65 ?_
              refine PW.istore_n hX dX7_lacks_66 rfl rfl ?_
              first | refine PW.iinc hX dX7_lacks_67 rfl (iincN _) ?_ | refine PW.iinc hX dX7_lacks_67 rfl rfl ?_
              refine PW.goto (tgt := 30) hX dX7_lacks_70 (by decide) ?_
              exact nx
    have nx := loop (mln M + 1) 0 (by omega) (by omega)
    refine PW.aload_n hX dX7_lacks_0 rfl rfl ?_
    refine PW.iload_n hX dX7_lacks_1 rfl rfl ?_
    refine PW.vIi hX ml_X7_138 (cJ (nI j)) dX7_lacks_2 17 rfl rfl rfl rfl rfl rfl rfl rfl rfl rfl rfl rfl rfl rfl rfl ?_
    rw [hj]
    refine PW.if_eq (tgt := 14) hX dX7_lacks_5 (by decide) (fun c5 => ?_) (fun c5 => ?_)
    · first | rw [bI_d0] at c5 | rw [bI_eq0] at c5 | rw [nI_eq0 (by omega)] at c5 | skip
      refine PW.iconst (v := nI 2) hX dX7_lacks_14 (by decide) ?_
      refine PW.aload_n hX dX7_lacks_15 rfl rfl ?_
      refine PW.getfield hX fl_X7_13 dX7_lacks_16 rfl rfl ?_
      refine PW.bipush (v := nI 20) hX dX7_lacks_19 (by decide) ?_
      refine PW.iload_n hX dX7_lacks_21 rfl rfl ?_
      refine PW.iadd hX dX7_lacks_22 ?_
      refine PW.top (show nI 20 + nI j = nI (20 + j) from nI_add 20 j) ?_
      refine PW.iaload (k := 20 + j) hX dX7_lacks_23 rfl rfl rfl (by omega) ?_
      refine PW.top (show _ = nI (plsh P j) from congrArg nI (p4 j hj2).2.1) ?_
      refine PW.ishl hX dX7_lacks_24 ?_
      refine PW.iconst (v := nI 2) hX dX7_lacks_25 (by decide) ?_
      refine PW.isub hX dX7_lacks_26 ?_
      refine PW.top (shl2 _ (by omega)) ?_
      refine PW.istore_n hX dX7_lacks_27 rfl rfl ?_
      refine PW.iconst (v := nI 0) hX dX7_lacks_28 (by decide) ?_
      refine PW.istore_n hX dX7_lacks_29 rfl rfl ?_
      exact nx
    · first | rw [bI_d0] at c5 | rw [bI_eq0] at c5 | rw [nI_eq0 (by omega)] at c5 | skip
      exact absurd c5 (by decide) -- CLOSED
/-! laps -/
def fsP (nu : Nat → Nat) (v : Nat) : Nat → Nat → Option Nat
  | 0, _ => none
  | n + 1, k => if nu k = v then some k else fsP nu v n (k + 1)
theorem fsP_lt (nu : Nat → Nat) (v : Nat) : ∀ n k p, fsP nu v n k = some p → p < k + n
  | 0, k, p, h => by cases h
  | n + 1, k, p, h => by
    rw [fsP] at h
    split at h
    · cases h; omega
    · have := fsP_lt nu v n (k + 1) p h; omega
theorem fpA_fs (nu : Nat → Nat) (n : Nat) (fp : Nat → Option Nat) {v : Nat} (hv : v < 100) : ∀ t, t ≤ n → fpA nu n fp t v = fsP nu v t (n - t)
  | 0, _ => if_pos hv
  | t + 1, ht => by
    rw [fpA, fsP]
    by_cases e : v = nu (n - 1 - t)
    · rw [← e, va_up_self, if_pos (by rw [show n - (t + 1) = n - 1 - t by omega]; exact e.symm)]
      congr 1
      omega
    · rw [va_up_ne _ _ e, fpA_fs nu n fp hv t (by omega), if_neg (by rw [show n - (t + 1) = n - 1 - t by omega]; exact fun q => e q.symm)]
      congr 1
      omega
def rnM (fp : Nat → Option Nat) : Nat → Nat × Nat
  | 0 => (0, 100)
  | v + 1 => match fp v with
    | none => rnM fp v
    | some p => ((rnM fp v).1 + (if p < (rnM fp v).2 then 1 else 0), p)
theorem rnM_eq {fp gp : Nat → Option Nat} {n : Nat} (hn : n ≤ 100) (h : ∀ v, v < 100 → fp v = gp v) (hl : ∀ v p, v < 100 → fp v = some p → p < n) : ∀ v, v ≤ 100 → (rnM fp v).1 = (rnF gp n v).1 ∧ ((rnM fp v).2 = (rnF gp n v).2 ∨ ((rnM fp v).2 = 100 ∧ (rnF gp n v).2 = n))
  | 0, _ => ⟨rfl, Or.inr ⟨rfl, rfl⟩⟩
  | v + 1, hv => by
    obtain ⟨h1, h2⟩ := rnM_eq hn h hl v (by omega)
    rw [rnM, rnF, ← h v (by omega)]
    cases hf : fp v with
    | none => exact ⟨h1, h2⟩
    | some p =>
      have hp := hl v p (by omega) hf
      refine ⟨?_, Or.inl rfl⟩
      show (rnM fp v).1 + (if p < (rnM fp v).2 then 1 else 0) = (rnF gp n v).1 + (if p < (rnF gp n v).2 then 1 else 0)
      rw [h1]
      rcases h2 with h2 | ⟨h2, h4⟩
      · rw [h2]
      · rw [h2, h4, if_pos (by omega), if_pos (by omega)]
theorem rnM_le (fp : Nat → Option Nat) (hl : ∀ v p, v < 100 → fp v = some p → p < 100) : ∀ v, v ≤ 100 → (rnM fp v).1 ≤ v ∧ (rnM fp v).2 ≤ 100
  | 0, _ => ⟨Nat.le_refl _, Nat.le_refl _⟩
  | v + 1, hv => by
    obtain ⟨h1, h2⟩ := rnM_le fp hl v (by omega)
    rw [rnM]
    cases hf : fp v with
    | none => exact ⟨Nat.le_succ_of_le h1, h2⟩
    | some p =>
      have hp := hl v p (by omega) hf
      refine ⟨?_, Nat.le_of_lt hp⟩
      show (rnM fp v).1 + (if p < (rnM fp v).2 then 1 else 0) ≤ v + 1
      split <;> omega
theorem pm_mfirst (M : Md) (hn : mln M ≤ 20) (hv : ∀ i, i < mln M → mli M i < 100) (v : Nat) (hv2 : v < 100) : PM mu_X7_firstPlace 0 0 0 [.ref 0, .int (nI v)] (mdB M) (eqP (some (.int (oI (fsP (mli M) v (mln M) 0)))) (mdB M)) := by
  refine PM.start (Or.inl (by decide +kernel)) rfl rfl rfl ?_
  intro X hX hR hx hin
  have loop : ∀ n k : Nat, k + n = mln M → fsP (mli M) v (mln M) 0 = fsP (mli M) v n k → PW X 2 [some (.ref 0), some (.int (nI v)), some (.int (nI k))] [] (mdB M) 0 0 := by
    intro n
    induction n with
    | zero =>
      intro k h1 h2
      rw [h2] at hR
      refine PW.iload_n hX dX7_firstPlace_2 rfl rfl ?_
      refine PW.aload_n hX dX7_firstPlace_3 rfl rfl ?_
      refine PW.getfield hX fl_X7_166 dX7_firstPlace_4 rfl rfl ?_
      refine PW.icmp_ge (tgt := 28) hX dX7_firstPlace_7 (by decide) (fun c7 => ?_) (fun c7 => ?_)
      · try rw [nI_leI (by omega) (by omega)] at c7
        refine PW.bipush (v := (-9)) hX dX7_firstPlace_28 (by decide) ?_
        refine PW.iret hX hR dX7_firstPlace_30 rfl rfl ?_
        exact ⟨rfl, rfl⟩
      · try rw [nI_leI (by omega) (by omega)] at c7
        exfalso; omega -- CLOSED
    | succ n ih =>
      intro k h1 h2
      rw [fsP] at h2
      have b := hv k (by omega)
      by_cases e : mli M k = v
      · rw [if_pos e] at h2
        rw [h2] at hR
        refine PW.iload_n hX dX7_firstPlace_2 rfl rfl ?_
        refine PW.aload_n hX dX7_firstPlace_3 rfl rfl ?_
        refine PW.getfield hX fl_X7_166 dX7_firstPlace_4 rfl rfl ?_
        refine PW.icmp_ge (tgt := 28) hX dX7_firstPlace_7 (by decide) (fun c7 => ?_) (fun c7 => ?_)
        · try rw [nI_leI (by omega) (by omega)] at c7
          exfalso; omega -- CLOSED
        · try rw [nI_leI (by omega) (by omega)] at c7
          refine PW.aload_n hX dX7_firstPlace_10 rfl rfl ?_
          refine PW.getfield hX fl_X7_54 dX7_firstPlace_11 rfl rfl ?_
          refine PW.iload_n hX dX7_firstPlace_14 rfl rfl ?_
          refine PW.iaload (k := k) hX dX7_firstPlace_15 rfl rfl rfl (by omega) ?_
          refine PW.top (show _ = nI (mli M k) from rfl) ?_
          refine PW.iload_n hX dX7_firstPlace_16 rfl rfl ?_
          refine PW.icmp_ne (tgt := 22) hX dX7_firstPlace_17 (by decide) (fun c17 => ?_) (fun c17 => ?_)
          · first | rw [nI_eq (by omega) (by omega)] at c17 | rw [oI_eq9] at c17 | skip
            exfalso; omega -- CLOSED
          · first | rw [nI_eq (by omega) (by omega)] at c17 | rw [oI_eq9] at c17 | skip
            refine PW.iload_n hX dX7_firstPlace_20 rfl rfl ?_
            refine PW.iret hX hR dX7_firstPlace_21 rfl rfl ?_
            exact ⟨rfl, rfl⟩
      · rw [if_neg e] at h2
        have nx := ih (k + 1) (by omega) h2
        refine PW.iload_n hX dX7_firstPlace_2 rfl rfl ?_
        refine PW.aload_n hX dX7_firstPlace_3 rfl rfl ?_
        refine PW.getfield hX fl_X7_166 dX7_firstPlace_4 rfl rfl ?_
        refine PW.icmp_ge (tgt := 28) hX dX7_firstPlace_7 (by decide) (fun c7 => ?_) (fun c7 => ?_)
        · try rw [nI_leI (by omega) (by omega)] at c7
          exfalso; omega -- CLOSED
        · try rw [nI_leI (by omega) (by omega)] at c7
          refine PW.aload_n hX dX7_firstPlace_10 rfl rfl ?_
          refine PW.getfield hX fl_X7_54 dX7_firstPlace_11 rfl rfl ?_
          refine PW.iload_n hX dX7_firstPlace_14 rfl rfl ?_
          refine PW.iaload (k := k) hX dX7_firstPlace_15 rfl rfl rfl (by omega) ?_
          refine PW.top (show _ = nI (mli M k) from rfl) ?_
          refine PW.iload_n hX dX7_firstPlace_16 rfl rfl ?_
          refine PW.icmp_ne (tgt := 22) hX dX7_firstPlace_17 (by decide) (fun c17 => ?_) (fun c17 => ?_)
          · first | rw [nI_eq (by omega) (by omega)] at c17 | rw [oI_eq9] at c17 | skip
            first | refine PW.iinc hX dX7_firstPlace_22 rfl (iincN _) ?_ | refine PW.iinc hX dX7_firstPlace_22 rfl rfl ?_
            refine PW.goto (tgt := 2) hX dX7_firstPlace_25 (by decide) ?_
            exact nx
          · first | rw [nI_eq (by omega) (by omega)] at c17 | rw [oI_eq9] at c17 | skip
            exfalso; omega -- CLOSED
  have nx := loop (mln M) 0 (by omega) rfl
  refine PW.iconst (v := nI 0) hX dX7_firstPlace_0 (by decide) ?_
  refine PW.istore_n hX dX7_firstPlace_1 rfl rfl ?_
  exact nx
def qLaps (M : Md) (x : Int32) : Int32 × Md := if x < nI 2 then (-4, mNo M 4) else if nI 9 < x then (-6, mNo M 6) else (nI (lpL x.toNatClampNeg (rnM (fun v => fsP (mli M) v (mln M) 0) 100).1 21 1 0), M)
theorem pm_mlaps (M : Md) (hn : mln M ≤ 20) (hv : ∀ i, i < mln M → mli M i < 100) (x : Int32) : PM mu_X7_laps 1 0 0 [.ref 0, .int x] (mdB M) (eqP (some (.int (qLaps M x).1)) (mdB (qLaps M x).2)) := by
  unfold qLaps
  by_cases h0 : x < nI 2
  · rw [if_pos h0]
    refine PM.start (Or.inl (by decide +kernel)) rfl rfl rfl ?_
    intro X hX hR hx hin
    refine PW.iload_n hX dX7_laps_0 rfl rfl ?_
    refine PW.iconst (v := nI 2) hX dX7_laps_1 (by decide) ?_
    refine PW.icmp_ge (tgt := 12) hX dX7_laps_2 (by decide) (fun c2 => ?_) (fun c2 => ?_)
    · exact absurd h0 (i32_nlt.mpr c2) -- CLOSED
    · refine PW.aload_n hX dX7_laps_5 rfl rfl ?_
      refine PW.bipush (v := (-4)) hX dX7_laps_6 (by decide) ?_
      refine PW.vIi hX ml_X7_64 (pm_no M (-4) 4 (by decide) (by decide)) dX7_laps_8 17 rfl rfl rfl rfl rfl rfl rfl rfl rfl rfl rfl rfl rfl rfl rfl ?_
      refine PW.iret hX hR dX7_laps_11 rfl rfl ?_
      exact ⟨rfl, rfl⟩
  · rw [if_neg h0]
    by_cases h1 : nI 9 < x
    · rw [if_pos h1]
      refine PM.start (Or.inl (by decide +kernel)) rfl rfl rfl ?_
      intro X hX hR hx hin
      refine PW.iload_n hX dX7_laps_0 rfl rfl ?_
      refine PW.iconst (v := nI 2) hX dX7_laps_1 (by decide) ?_
      refine PW.icmp_ge (tgt := 12) hX dX7_laps_2 (by decide) (fun c2 => ?_) (fun c2 => ?_)
      · refine PW.iload_n hX dX7_laps_12 rfl rfl ?_
        refine PW.bipush (v := nI 9) hX dX7_laps_13 (by decide) ?_
        refine PW.icmp_le (tgt := 25) hX dX7_laps_15 (by decide) (fun c15 => ?_) (fun c15 => ?_)
        · exact absurd h1 (i32_nlt.mpr c15) -- CLOSED
        · refine PW.aload_n hX dX7_laps_18 rfl rfl ?_
          refine PW.bipush (v := (-6)) hX dX7_laps_19 (by decide) ?_
          refine PW.vIi hX ml_X7_64 (pm_no M (-6) 6 (by decide) (by decide)) dX7_laps_21 17 rfl rfl rfl rfl rfl rfl rfl rfl rfl rfl rfl rfl rfl rfl rfl ?_
          refine PW.iret hX hR dX7_laps_24 rfl rfl ?_
          exact ⟨rfl, rfl⟩
      · exact absurd (i32_nle.mp c2) h0 -- CLOSED
    · rw [if_neg h1]
      obtain ⟨p, hp, rfl⟩ := nI_of (x := x) (fun q => h0 (Int32.lt_trans q (by decide)))
      rw [nI_ltI hp (by decide)] at h0
      rw [nI_ltI (by decide) hp] at h1
      rw [nI_clamp hp]
      have hfl : ∀ v q, v < 100 → fsP (mli M) v (mln M) 0 = some q → q < 100 := fun v q _ h => by have := fsP_lt _ _ _ _ _ h; omega
      have hr := rnM_le (fun v => fsP (mli M) v (mln M) 0) hfl
      have cF := fun v hv2 => pm_mfirst M hn hv v hv2
      refine PM.start (Or.inl (by decide +kernel)) rfl rfl rfl ?_
      intro X hX hR hx hin
      have loop2 : ∀ r : Nat, r ≤ 100 → ∀ n s l : Nat, 2 ^ l ≤ s → s < 2000 → 100 ≤ n + l → n + l ≤ 300 → ∀ Lr, (lpL p r 21 1 0 = lpL p r (21 - l) s l ∨ (r ≤ s ∧ lpL p r 21 1 0 = l)) → lpL p r 21 1 0 = Lr → RT X (eqP (some (.int (nI Lr))) (mdB M)) 0 0 → ∀ z3, PW X 84 [some (.ref 0), some (.int (nI p)), some (.int (nI r)), z3, some (.int (nI l)), some (.int (nI s))] [] (mdB M) 0 0 := by
        intro r hr1 n
        induction n with
        | zero =>
          intro s l g1 g2 g3
          have := Nat.pow_le_pow_right (n := 2) (by decide) (show 11 ≤ l by omega)
          have : (2 : Nat) ^ 11 = 2048 := by decide
          omega
        | succ n ih =>
          intro s l g1 g2 g3 g4 Lr g5 g6 hR2 z3
          have l7 : s < r → l < 7 := by
            intro q
            by_cases h7 : l < 7
            · exact h7
            · have := Nat.pow_le_pow_right (n := 2) (by decide) (show 7 ≤ l by omega)
              have : (2 : Nat) ^ 7 = 128 := by decide
              omega
          by_cases hs : s < r
          · have hl := l7 hs
            have e : lpL p r (21 - l) s l = lpL p r (21 - (l + 1)) (s * p) (l + 1) := by
              rw [show 21 - l = (21 - (l + 1)) + 1 by omega, lpL, if_pos ⟨hs, by omega⟩]
            have sp : s * 2 ≤ s * p := Nat.mul_le_mul_left s (by omega)
            have sp2 : s * p ≤ s * 9 := Nat.mul_le_mul_left s (by omega)
            have nx := ih (s * p) (l + 1) (by rw [Nat.pow_succ]; omega) (by omega) (by omega) (by omega) Lr (by
              rcases g5 with g5 | g5
              · exact Or.inl (g5.trans e)
              · omega) g6 hR2 z3
            refine PW.iload hX dX7_laps_84 rfl ?_
            refine PW.iload_n hX dX7_laps_86 rfl rfl ?_
            refine PW.icmp_ge (tgt := 102) hX dX7_laps_87 (by decide) (fun c87 => ?_) (fun c87 => ?_)
            · try rw [nI_leI (by omega) (by omega)] at c87
              exfalso; omega -- CLOSED
            · try rw [nI_leI (by omega) (by omega)] at c87
              refine PW.iload hX dX7_laps_90 rfl ?_
              refine PW.iload_n hX dX7_laps_92 rfl rfl ?_
              refine PW.imul hX dX7_laps_93 ?_
              refine PW.top (pk_mul s p) ?_
              refine PW.istore hX dX7_laps_94 rfl ?_
              first | refine PW.iinc hX dX7_laps_96 rfl (iincN _) ?_ | refine PW.iinc hX dX7_laps_96 rfl rfl ?_
              refine PW.goto (tgt := 84) hX dX7_laps_99 (by decide) ?_
              exact nx
          · have el : Lr = l := by
              rw [← g6]
              rcases g5 with g5 | g5
              · rw [g5]
                cases hq : 21 - l with
                | zero => rfl
                | succ q => rw [lpL, if_neg (fun z => hs z.1)]
              · exact g5.2
            rw [el] at hR2
            have hR := hR2
            refine PW.iload hX dX7_laps_84 rfl ?_
            refine PW.iload_n hX dX7_laps_86 rfl rfl ?_
            refine PW.icmp_ge (tgt := 102) hX dX7_laps_87 (by decide) (fun c87 => ?_) (fun c87 => ?_)
            · try rw [nI_leI (by omega) (by omega)] at c87
              refine PW.iload hX dX7_laps_102 rfl ?_
              refine PW.iret hX hR dX7_laps_104 rfl rfl ?_
              exact ⟨rfl, rfl⟩
            · try rw [nI_leI (by omega) (by omega)] at c87
              exfalso; omega -- CLOSED
      have loop1 : ∀ n v : Nat, v ≤ 100 → 100 < v + n → ∀ Z, rnM (fun v => fsP (mli M) v (mln M) 0) v = Z → PW X 33 [some (.ref 0), some (.int (nI p)), some (.int (nI Z.1)), some (.int (nI Z.2)), some (.int (nI v)), none] [] (mdB M) 0 0 := by
        intro n
        induction n with
        | zero => intro v g1 g2; omega
        | succ n ih =>
          intro v g1 g2 Z hZ
          obtain ⟨z1, z2⟩ := hr v g1
          rw [hZ] at z1 z2
          by_cases hv9 : v = 100
          · subst hv9
            have nx := loop2 Z.1 (by omega) 299 1 0 (by decide) (by decide) (by decide) (by decide) _ (Or.inl rfl) rfl (by rw [hZ] at hR; exact hR) (some (.int (nI Z.2)))
            refine PW.iload hX dX7_laps_33 rfl ?_
            refine PW.bipush (v := nI 100) hX dX7_laps_35 (by decide) ?_
            refine PW.icmp_ge (tgt := 78) hX dX7_laps_37 (by decide) (fun c37 => ?_) (fun c37 => ?_)
            · try rw [nI_leI (by omega) (by omega)] at c37
              refine PW.iconst (v := nI 0) hX dX7_laps_78 (by decide) ?_
              refine PW.istore hX dX7_laps_79 rfl ?_
              refine PW.iconst (v := nI 1) hX dX7_laps_81 (by decide) ?_
              refine PW.istore hX dX7_laps_82 rfl ?_
              exact nx
            · try rw [nI_leI (by omega) (by omega)] at c37
              exfalso; omega -- CLOSED
          · have nx := ih (v + 1) (by omega) (by omega) _ rfl
            rw [rnM, hZ] at nx
            have cF := cF v (by omega)
            cases hf : fsP (mli M) v (mln M) 0 with
            | none =>
              rw [hf] at nx cF
              refine PW.iload hX dX7_laps_33 rfl ?_
              refine PW.bipush (v := nI 100) hX dX7_laps_35 (by decide) ?_
              refine PW.icmp_ge (tgt := 78) hX dX7_laps_37 (by decide) (fun c37 => ?_) (fun c37 => ?_)
              · try rw [nI_leI (by omega) (by omega)] at c37
                exfalso; omega -- CLOSED
              · try rw [nI_leI (by omega) (by omega)] at c37
                refine PW.aload_n hX dX7_laps_40 rfl rfl ?_
                refine PW.iload hX dX7_laps_41 rfl ?_
                refine PW.vIi hX ml_X7_178 (cF) dX7_laps_43 17 rfl rfl rfl rfl rfl rfl rfl rfl rfl rfl rfl rfl rfl rfl rfl ?_
                refine PW.istore hX dX7_laps_46 rfl ?_
                refine PW.iload hX dX7_laps_48 rfl ?_
                refine PW.bipush (v := (-9)) hX dX7_laps_50 (by decide) ?_
                refine PW.icmp_eq (tgt := 72) hX dX7_laps_52 (by decide) (fun c52 => ?_) (fun c52 => ?_)
                · first | rw [nI_eq (by omega) (by omega)] at c52 | rw [oI_eq9] at c52 | skip
                  first | refine PW.iinc hX dX7_laps_72 rfl (iincN _) ?_ | refine PW.iinc hX dX7_laps_72 rfl rfl ?_
                  refine PW.goto (tgt := 33) hX dX7_laps_75 (by decide) ?_
                  refine PW.clr 5 ?_
                  exact nx
                · first | rw [nI_eq (by omega) (by omega)] at c52 | rw [oI_eq9] at c52 | skip
                  exact absurd trivial c52 -- CLOSED
            | some q =>
              rw [hf] at nx cF
              have hq := hfl v q (by omega) hf
              have h67 : ∀ w, (if q < Z.2 then 1 else 0) = w → PW X 67 [some (.ref 0), some (.int (nI p)), some (.int (nI Z.1)), some (.int (nI Z.2)), some (.int (nI v)), some (.int (nI q))] [.int (nI w), .int (nI Z.1)] (mdB M) 0 0 := by
                rintro w rfl
                refine PW.iadd hX dX7_laps_67 ?_
                refine PW.top (nI_add _ _) ?_
                refine PW.istore_n hX dX7_laps_68 rfl rfl ?_
                refine PW.iload hX dX7_laps_69 rfl ?_
                refine PW.istore_n hX dX7_laps_71 rfl rfl ?_
                first | refine PW.iinc hX dX7_laps_72 rfl (iincN _) ?_ | refine PW.iinc hX dX7_laps_72 rfl rfl ?_
                refine PW.goto (tgt := 33) hX dX7_laps_75 (by decide) ?_
                refine PW.clr 5 ?_
                exact nx
              refine PW.iload hX dX7_laps_33 rfl ?_
              refine PW.bipush (v := nI 100) hX dX7_laps_35 (by decide) ?_
              refine PW.icmp_ge (tgt := 78) hX dX7_laps_37 (by decide) (fun c37 => ?_) (fun c37 => ?_)
              · try rw [nI_leI (by omega) (by omega)] at c37
                exfalso; omega -- CLOSED
              · try rw [nI_leI (by omega) (by omega)] at c37
                refine PW.aload_n hX dX7_laps_40 rfl rfl ?_
                refine PW.iload hX dX7_laps_41 rfl ?_
                refine PW.vIi hX ml_X7_178 (cF) dX7_laps_43 17 rfl rfl rfl rfl rfl rfl rfl rfl rfl rfl rfl rfl rfl rfl rfl ?_
                refine PW.top (show _ = nI q from rfl) ?_
                refine PW.istore hX dX7_laps_46 rfl ?_
                refine PW.iload hX dX7_laps_48 rfl ?_
                refine PW.bipush (v := (-9)) hX dX7_laps_50 (by decide) ?_
                refine PW.icmp_eq (tgt := 72) hX dX7_laps_52 (by decide) (fun c52 => ?_) (fun c52 => ?_)
                · first | rw [nI_eq (by omega) (by omega)] at c52 | rw [oI_eq9] at c52 | skip
                  exact absurd c52 (nI_ne9 (by omega)) -- CLOSED
                · first | rw [nI_eq (by omega) (by omega)] at c52 | rw [oI_eq9] at c52 | skip
                  refine PW.iload_n hX dX7_laps_55 rfl rfl ?_
                  refine PW.iload hX dX7_laps_56 rfl ?_
                  refine PW.iload_n hX dX7_laps_58 rfl rfl ?_
                  refine PW.icmp_ge (tgt := 66) hX dX7_laps_59 (by decide) (fun c59 => ?_) (fun c59 => ?_)
                  · try rw [nI_leI (by omega) (by omega)] at c59
                    refine PW.iconst (v := nI 0) hX dX7_laps_66 (by decide) ?_
                    exact h67 0 (if_neg (by omega))
                  · try rw [nI_leI (by omega) (by omega)] at c59
                    refine PW.iconst (v := nI 1) hX dX7_laps_62 (by decide) ?_
                    refine PW.goto (tgt := 67) hX dX7_laps_63 (by decide) ?_
                    exact h67 1 (if_pos (by omega))
      have nx := loop1 101 0 (by omega) (by omega) _ rfl
      refine PW.iload_n hX dX7_laps_0 rfl rfl ?_
      refine PW.iconst (v := nI 2) hX dX7_laps_1 (by decide) ?_
      refine PW.icmp_ge (tgt := 12) hX dX7_laps_2 (by decide) (fun c2 => ?_) (fun c2 => ?_)
      · try rw [nI_leI (by omega) (by omega)] at c2
        refine PW.iload_n hX dX7_laps_12 rfl rfl ?_
        refine PW.bipush (v := nI 9) hX dX7_laps_13 (by decide) ?_
        refine PW.icmp_le (tgt := 25) hX dX7_laps_15 (by decide) (fun c15 => ?_) (fun c15 => ?_)
        · try rw [nI_leI (by omega) (by omega)] at c15
          refine PW.iconst (v := nI 0) hX dX7_laps_25 (by decide) ?_
          refine PW.istore_n hX dX7_laps_26 rfl rfl ?_
          refine PW.bipush (v := nI 100) hX dX7_laps_27 (by decide) ?_
          refine PW.istore_n hX dX7_laps_29 rfl rfl ?_
          refine PW.iconst (v := nI 0) hX dX7_laps_30 (by decide) ?_
          refine PW.istore hX dX7_laps_31 rfl ?_
          exact nx
        · try rw [nI_leI (by omega) (by omega)] at c15
          exfalso; omega -- CLOSED
      · try rw [nI_leI (by omega) (by omega)] at c2
        exfalso; omega -- CLOSED
