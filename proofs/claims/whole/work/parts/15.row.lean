/-! ===== the row's methods ===== -/
theorem pm_rowAdd (R : Rw) (hR0 : rwn R < 20) (v : Nat) : PM mu_X3_add 0 0 0 [.ref 0, .int (nI v)] (rwB 0 R) (eqP (some (.int (nI (rwn R + 1)))) (rwB 0 (va_up (rwnu R) (rwn R) v, rwn R + 1, rwwy R, rwlo R, rwfp R))) := by
  refine PM.start (Or.inl (by decide +kernel)) rfl rfl rfl ?_
  intro X hX hR hx hin
  refine PW.aload_n hX dX3_add_0 rfl rfl ?_
  refine PW.getfield hX fl_X3_15 dX3_add_1 rfl rfl ?_
  refine PW.bipush (v := nI 20) hX dX3_add_4 (by decide) ?_
  refine PW.icmp_ge (tgt := 29) hX dX3_add_6 (by decide) (fun c6 => ?_) (fun c6 => ?_)
  · try rw [nI_leI (by omega) (by omega)] at c6
    exfalso; omega -- CLOSED
  · try rw [nI_leI (by omega) (by omega)] at c6
    refine PW.aload_n hX dX3_add_9 rfl rfl ?_
    refine PW.getfield hX fl_X3_9 dX3_add_10 rfl rfl ?_
    refine PW.aload_n hX dX3_add_13 rfl rfl ?_
    refine PW.getfield hX fl_X3_15 dX3_add_14 rfl rfl ?_
    refine PW.iload_n hX dX3_add_17 rfl rfl ?_
    refine PW.iastore hX dX3_add_18 rfl rfl rfl (by omega) ?_
    refine PW.aload_n hX dX3_add_19 rfl rfl ?_
    refine PW.dup hX dX3_add_20 rfl ?_
    refine PW.getfield hX fl_X3_15 dX3_add_21 rfl rfl ?_
    refine PW.iconst (v := nI 1) hX dX3_add_24 (by decide) ?_
    refine PW.iadd hX dX3_add_25 ?_
    refine PW.top (nI_add _ 1) ?_
    refine PW.putI hX fp_X3_15 dX3_add_26 rfl rfl ?_
    refine PW.aload_n hX dX3_add_29 rfl rfl ?_
    refine PW.getfield hX fl_X3_15 dX3_add_30 rfl rfl ?_
    refine PW.iret hX hR dX3_add_33 rfl rfl ?_
    exact ⟨rfl, by simp only [upd_nI]; rfl⟩
theorem pm_rowClear (R : Rw) : PM mu_X3_clear 0 0 0 [.ref 0] (rwB 0 R) (eqP none (rwB 0 (rwnu R, 0, rwwy R, rwlo R, rwfp R))) := by
  refine PM.start (Or.inl (by decide +kernel)) rfl rfl rfl ?_
  intro X hX hR hx hin
  refine PW.aload_n hX dX3_clear_0 rfl rfl ?_
  refine PW.iconst (v := nI 0) hX dX3_clear_1 (by decide) ?_
  refine PW.putI hX fp_X3_15 dX3_clear_2 rfl rfl ?_
  refine PW.vret hX hR dX3_clear_5 rfl rfl ?_
  exact ⟨rfl, rfl⟩
def atN (i j k : Nat) : Nat := (i * 10 + j) * 10 + k
theorem pm_at (i j k : Nat) (hi : i < 100) (hj : j < 100) (hk : k < 100) : PM mu_X3_at 0 0 0 [.int (nI i), .int (nI j), .int (nI k)] [] (eqP (some (.int (nI (atN i j k)))) []) := by
  refine PM.start (Or.inl (by decide +kernel)) rfl rfl rfl ?_
  intro X hX hR hx hin
  refine PW.iload_n hX dX3_at_0 rfl rfl ?_
  refine PW.bipush (v := nI 10) hX dX3_at_1 (by decide) ?_
  refine PW.imul hX dX3_at_3 ?_
  refine PW.iload_n hX dX3_at_4 rfl rfl ?_
  refine PW.iadd hX dX3_at_5 ?_
  refine PW.bipush (v := nI 10) hX dX3_at_6 (by decide) ?_
  refine PW.imul hX dX3_at_8 ?_
  refine PW.iload_n hX dX3_at_9 rfl rfl ?_
  refine PW.iadd hX dX3_at_10 ?_
  refine PW.top (show (nI i * nI 10 + nI j) * nI 10 + nI k = nI (atN i j k) by unfold atN; rw [pk_mul, nI_add, pk_mul, nI_add]) ?_
  refine PW.iret hX hR dX3_at_11 rfl rfl ?_
  exact ⟨rfl, rfl⟩
def addIf (c : Bool) (x s : Int32) : Int32 := bif c then s + x else s
/-- the ways to i, j, k out of those before -/
def wT (nu : Nat → Nat) (w : Nat → Int32) (i j k : Nat) : Int32 :=
  if i + j + k = 0 then nI 1 else addIf (decide (0 < k ∧ nu (i + j + k - 1) % 10 = k)) (w (atN i j (k - 1))) (addIf (decide (0 < j ∧ nu (i + j + k - 1) % 10 = j)) (w (atN i (j - 1) k)) (addIf (decide (0 < i ∧ nu (i + j + k - 1) % 10 = i)) (w (atN (i - 1) j k)) (nI 0)))
theorem pm_waysTo (R : Rw) (ro : RwOk R) (i j k : Nat) (hi : i < 10) (hj : j < 10) (hk : k < 10) (hl : i + j + k ≤ rwn R) : PM mu_X3_waysTo 1 0 0 [.ref 0, .int (nI i), .int (nI j), .int (nI k)] (rwB 0 R) (eqP (some (.int (wT (rwnu R) (rwwy R) i j k))) (rwB 0 R)) := by
  obtain ⟨r1, r2⟩ := ro
  by_cases hz : i + j + k = 0
  · have e : wT (rwnu R) (rwwy R) i j k = nI 1 := by unfold wT; rw [if_pos hz]
    rw [e]
    refine PM.start (Or.inl (by decide +kernel)) rfl rfl rfl ?_
    intro X hX hR hx hin
    refine PW.iload_n hX dX3_waysTo_0 rfl rfl ?_
    refine PW.iload_n hX dX3_waysTo_1 rfl rfl ?_
    refine PW.iadd hX dX3_waysTo_2 ?_
    refine PW.iload_n hX dX3_waysTo_3 rfl rfl ?_
    refine PW.iadd hX dX3_waysTo_4 ?_
    refine PW.top (show nI i + nI j + nI k = nI (i + j + k) by rw [nI_add, nI_add]) ?_
    refine PW.istore hX dX3_waysTo_5 rfl ?_
    refine PW.iload hX dX3_waysTo_7 rfl ?_
    refine PW.if_ne (tgt := 14) hX dX3_waysTo_9 (by decide) (fun c9 => ?_) (fun c9 => ?_)
    · first | rw [bI_d0] at c9 | rw [bI_eq0] at c9 | rw [nI_eq0 (by omega)] at c9 | skip
      exfalso; omega -- CLOSED
    · first | rw [bI_d0] at c9 | rw [bI_eq0] at c9 | rw [nI_eq0 (by omega)] at c9 | skip
      refine PW.iconst (v := nI 1) hX dX3_waysTo_12 (by decide) ?_
      refine PW.iret hX hR dX3_waysTo_13 rfl rfl ?_
      exact ⟨rfl, rfl⟩
  · have r2' := r2 (i + j + k - 1) (by omega)
    have ei : 0 < i → atN (i - 1) j k < 1000 := by intro h; unfold atN; omega
    have ej : 0 < j → atN i (j - 1) k < 1000 := by intro h; unfold atN; omega
    have ek : 0 < k → atN i j (k - 1) < 1000 := by intro h; unfold atN; omega
    have hw : wT (rwnu R) (rwwy R) i j k = addIf (decide (0 < k ∧ rwnu R (i + j + k - 1) % 10 = k)) (rwwy R (atN i j (k - 1))) (addIf (decide (0 < j ∧ rwnu R (i + j + k - 1) % 10 = j)) (rwwy R (atN i (j - 1) k)) (addIf (decide (0 < i ∧ rwnu R (i + j + k - 1) % 10 = i)) (rwwy R (atN (i - 1) j k)) (nI 0))) := by unfold wT; rw [if_neg hz]
    refine PM.start (Or.inl (by decide +kernel)) rfl rfl rfl ?_
    intro X hX hR hx hin
    have h115 : ∀ v, v = wT (rwnu R) (rwwy R) i j k → PW X 115 [some (.ref 0), some (.int (nI i)), some (.int (nI j)), some (.int (nI k)), none, none, some (.int v)] [] (rwB 0 R) 0 0 := by
      rintro v rfl
      refine PW.iload hX dX3_waysTo_115 rfl ?_
      refine PW.iret hX hR dX3_waysTo_117 rfl rfl ?_
      exact ⟨rfl, rfl⟩
    have h87 : ∀ v, v = addIf (decide (0 < j ∧ rwnu R (i + j + k - 1) % 10 = j)) (rwwy R (atN i (j - 1) k)) (addIf (decide (0 < i ∧ rwnu R (i + j + k - 1) % 10 = i)) (rwwy R (atN (i - 1) j k)) (nI 0)) → PW X 87 [some (.ref 0), some (.int (nI i)), some (.int (nI j)), some (.int (nI k)), some (.int (nI (i + j + k))), some (.int (nI (rwnu R (i + j + k - 1) % 10))), some (.int v)] [] (rwB 0 R) 0 0 := by
      intro v hv
      rw [← hv] at hw
      refine PW.iload_n hX dX3_waysTo_87 rfl rfl ?_
      refine PW.if_le (tgt := 115) hX dX3_waysTo_88 (by decide) (fun c88 => ?_) (fun c88 => ?_)
      · try rw [nI_le0 (by omega)] at c88
        refine PW.clr 4 (PW.clr 5 ?_)
        exact h115 v (by rw [hw, decide_eq_false (by omega)]; rfl)
      · try rw [nI_le0 (by omega)] at c88
        refine PW.iload hX dX3_waysTo_91 rfl ?_
        refine PW.iload_n hX dX3_waysTo_93 rfl rfl ?_
        refine PW.icmp_ne (tgt := 115) hX dX3_waysTo_94 (by decide) (fun c94 => ?_) (fun c94 => ?_)
        · first | rw [nI_eq (by omega) (by omega)] at c94 | rw [oI_eq9] at c94 | skip
          refine PW.clr 4 (PW.clr 5 ?_)
          exact h115 v (by rw [hw, decide_eq_false (fun q => c94 q.2)]; rfl)
        · first | rw [nI_eq (by omega) (by omega)] at c94 | rw [oI_eq9] at c94 | skip
          refine PW.iload hX dX3_waysTo_97 rfl ?_
          refine PW.aload_n hX dX3_waysTo_99 rfl rfl ?_
          refine PW.getfield hX fl_X3_19 dX3_waysTo_100 rfl rfl ?_
          refine PW.iload_n hX dX3_waysTo_103 rfl rfl ?_
          refine PW.iload_n hX dX3_waysTo_104 rfl rfl ?_
          refine PW.iload_n hX dX3_waysTo_105 rfl rfl ?_
          refine PW.iconst (v := nI 1) hX dX3_waysTo_106 (by decide) ?_
          refine PW.isub hX dX3_waysTo_107 ?_
          refine PW.top (pk_sub (by omega)) ?_
          refine PW.sR hX ml_X3_28 (pm_at i j (k - 1) (by omega) (by omega) (by omega)) dX3_waysTo_108 rfl rfl rfl rfl rfl rfl ?_
          refine PW.iaload hX dX3_waysTo_111 rfl rfl rfl (ek (by omega)) ?_
          refine PW.iadd hX dX3_waysTo_112 ?_
          refine PW.istore hX dX3_waysTo_113 rfl ?_
          refine PW.clr 4 (PW.clr 5 ?_)
          exact h115 _ (by rw [hw, decide_eq_true ⟨by omega, c94⟩]; rfl)
    have h59 : ∀ v, v = addIf (decide (0 < i ∧ rwnu R (i + j + k - 1) % 10 = i)) (rwwy R (atN (i - 1) j k)) (nI 0) → PW X 59 [some (.ref 0), some (.int (nI i)), some (.int (nI j)), some (.int (nI k)), some (.int (nI (i + j + k))), some (.int (nI (rwnu R (i + j + k - 1) % 10))), some (.int v)] [] (rwB 0 R) 0 0 := by
      intro v hv
      rw [← hv] at h87
      refine PW.iload_n hX dX3_waysTo_59 rfl rfl ?_
      refine PW.if_le (tgt := 87) hX dX3_waysTo_60 (by decide) (fun c60 => ?_) (fun c60 => ?_)
      · try rw [nI_le0 (by omega)] at c60
        exact h87 v (by rw [decide_eq_false (by omega)]; rfl)
      · try rw [nI_le0 (by omega)] at c60
        refine PW.iload hX dX3_waysTo_63 rfl ?_
        refine PW.iload_n hX dX3_waysTo_65 rfl rfl ?_
        refine PW.icmp_ne (tgt := 87) hX dX3_waysTo_66 (by decide) (fun c66 => ?_) (fun c66 => ?_)
        · first | rw [nI_eq (by omega) (by omega)] at c66 | rw [oI_eq9] at c66 | skip
          exact h87 v (by rw [decide_eq_false (fun q => c66 q.2)]; rfl)
        · first | rw [nI_eq (by omega) (by omega)] at c66 | rw [oI_eq9] at c66 | skip
          refine PW.iload hX dX3_waysTo_69 rfl ?_
          refine PW.aload_n hX dX3_waysTo_71 rfl rfl ?_
          refine PW.getfield hX fl_X3_19 dX3_waysTo_72 rfl rfl ?_
          refine PW.iload_n hX dX3_waysTo_75 rfl rfl ?_
          refine PW.iload_n hX dX3_waysTo_76 rfl rfl ?_
          refine PW.iconst (v := nI 1) hX dX3_waysTo_77 (by decide) ?_
          refine PW.isub hX dX3_waysTo_78 ?_
          refine PW.top (pk_sub (by omega)) ?_
          refine PW.iload_n hX dX3_waysTo_79 rfl rfl ?_
          refine PW.sR hX ml_X3_28 (pm_at i (j - 1) k (by omega) (by omega) (by omega)) dX3_waysTo_80 rfl rfl rfl rfl rfl rfl ?_
          refine PW.iaload hX dX3_waysTo_83 rfl rfl rfl (ej (by omega)) ?_
          refine PW.iadd hX dX3_waysTo_84 ?_
          refine PW.istore hX dX3_waysTo_85 rfl ?_
          exact h87 _ (by rw [decide_eq_true ⟨by omega, c66⟩]; rfl)
    refine PW.iload_n hX dX3_waysTo_0 rfl rfl ?_
    refine PW.iload_n hX dX3_waysTo_1 rfl rfl ?_
    refine PW.iadd hX dX3_waysTo_2 ?_
    refine PW.iload_n hX dX3_waysTo_3 rfl rfl ?_
    refine PW.iadd hX dX3_waysTo_4 ?_
    refine PW.top (show nI i + nI j + nI k = nI (i + j + k) by rw [nI_add, nI_add]) ?_
    refine PW.istore hX dX3_waysTo_5 rfl ?_
    refine PW.iload hX dX3_waysTo_7 rfl ?_
    refine PW.if_ne (tgt := 14) hX dX3_waysTo_9 (by decide) (fun c9 => ?_) (fun c9 => ?_)
    · first | rw [bI_d0] at c9 | rw [bI_eq0] at c9 | rw [nI_eq0 (by omega)] at c9 | skip
      refine PW.aload_n hX dX3_waysTo_14 rfl rfl ?_
      refine PW.getfield hX fl_X3_9 dX3_waysTo_15 rfl rfl ?_
      refine PW.iload hX dX3_waysTo_18 rfl ?_
      refine PW.iconst (v := nI 1) hX dX3_waysTo_20 (by decide) ?_
      refine PW.isub hX dX3_waysTo_21 ?_
      refine PW.top (pk_sub (show 1 ≤ i + j + k by omega)) ?_
      refine PW.iaload hX dX3_waysTo_22 rfl rfl rfl (by omega) ?_
      refine PW.bipush (v := nI 10) hX dX3_waysTo_23 (by decide) ?_
      refine PW.irem hX dX3_waysTo_25 (by decide) ?_
      refine PW.top (rem10 (by omega)) ?_
      refine PW.istore hX dX3_waysTo_26 rfl ?_
      refine PW.iconst (v := nI 0) hX dX3_waysTo_28 (by decide) ?_
      refine PW.istore hX dX3_waysTo_29 rfl ?_
      refine PW.iload_n hX dX3_waysTo_31 rfl rfl ?_
      refine PW.if_le (tgt := 59) hX dX3_waysTo_32 (by decide) (fun c32 => ?_) (fun c32 => ?_)
      · try rw [nI_le0 (by omega)] at c32
        exact h59 _ (by rw [decide_eq_false (by omega)]; rfl)
      · try rw [nI_le0 (by omega)] at c32
        refine PW.iload hX dX3_waysTo_35 rfl ?_
        refine PW.iload_n hX dX3_waysTo_37 rfl rfl ?_
        refine PW.icmp_ne (tgt := 59) hX dX3_waysTo_38 (by decide) (fun c38 => ?_) (fun c38 => ?_)
        · first | rw [nI_eq (by omega) (by omega)] at c38 | rw [oI_eq9] at c38 | skip
          exact h59 _ (by rw [decide_eq_false (fun q => c38 q.2)]; rfl)
        · first | rw [nI_eq (by omega) (by omega)] at c38 | rw [oI_eq9] at c38 | skip
          refine PW.iload hX dX3_waysTo_41 rfl ?_
          refine PW.aload_n hX dX3_waysTo_43 rfl rfl ?_
          refine PW.getfield hX fl_X3_19 dX3_waysTo_44 rfl rfl ?_
          refine PW.iload_n hX dX3_waysTo_47 rfl rfl ?_
          refine PW.iconst (v := nI 1) hX dX3_waysTo_48 (by decide) ?_
          refine PW.isub hX dX3_waysTo_49 ?_
          refine PW.top (pk_sub (by omega)) ?_
          refine PW.iload_n hX dX3_waysTo_50 rfl rfl ?_
          refine PW.iload_n hX dX3_waysTo_51 rfl rfl ?_
          refine PW.sR hX ml_X3_28 (pm_at (i - 1) j k (by omega) (by omega) (by omega)) dX3_waysTo_52 rfl rfl rfl rfl rfl rfl ?_
          refine PW.iaload hX dX3_waysTo_55 rfl rfl rfl (ei (by omega)) ?_
          refine PW.iadd hX dX3_waysTo_56 ?_
          refine PW.istore hX dX3_waysTo_57 rfl ?_
          exact h59 _ (by rw [decide_eq_true ⟨by omega, c38⟩]; rfl)
    · first | rw [bI_d0] at c9 | rw [bI_eq0] at c9 | rw [nI_eq0 (by omega)] at c9 | skip
      exfalso; omega -- CLOSED
def wK (nu : Nat → Nat) (i j : Nat) (w : Nat → Int32) : Nat → Nat → Int32
  | 0 => w
  | k + 1 => upd (wK nu i j w k) (atN i j k) (wT nu (wK nu i j w k) i j k)
def wJ (nu : Nat → Nat) (c i : Nat) (w : Nat → Int32) : Nat → Nat → Int32
  | 0 => w
  | j + 1 => wK nu i j (wJ nu c i w j) (c + 1)
def wI (nu : Nat → Nat) (b c : Nat) (w : Nat → Int32) : Nat → Nat → Int32
  | 0 => w
  | i + 1 => wJ nu c i (wI nu b c w i) (b + 1)
def wAll (nu : Nat → Nat) (n a b c : Nat) (w : Nat → Int32) : Nat → Int32 := if a + b + c = n then wI nu b c w (a + 1) else w
def wRes (nu : Nat → Nat) (n a b c : Nat) (w : Nat → Int32) : Int32 := if a + b + c = n then wI nu b c w (a + 1) (atN a b c) else nI 0
def rwW (R : Rw) (w : Nat → Int32) : Rw := (rwnu R, rwn R, w, rwlo R, rwfp R)
theorem pm_waysOfThree (R : Rw) (ro : RwOk R) (a b c : Nat) (ha : a < 10) (hb : b < 10) (hc : c < 10) : PM mu_X3_waysOfThree 2 0 0 [.ref 0, .int (nI a), .int (nI b), .int (nI c)] (rwB 0 R) (eqP (some (.int (wRes (rwnu R) (rwn R) a b c (rwwy R)))) (rwB 0 (rwW R (wAll (rwnu R) (rwn R) a b c (rwwy R))))) := by
  obtain ⟨r1, r2⟩ := id ro
  by_cases hs : a + b + c = rwn R
  · have e1 : wRes (rwnu R) (rwn R) a b c (rwwy R) = wI (rwnu R) b c (rwwy R) (a + 1) (atN a b c) := by unfold wRes; rw [if_pos hs]
    have e2 : wAll (rwnu R) (rwn R) a b c (rwwy R) = wI (rwnu R) b c (rwwy R) (a + 1) := by unfold wAll; rw [if_pos hs]
    rw [e1, e2]
    refine PM.start (Or.inl (by decide +kernel)) rfl rfl rfl ?_
    intro X hX hR hx hin
    have loop3 : ∀ n i j k : Nat, i ≤ a → j ≤ b → k ≤ c + 1 → c + 1 < k + n → ∀ w : Nat → Int32, (PW X 71 [some (.ref 0), some (.int (nI a)), some (.int (nI b)), some (.int (nI c)), some (.int (nI i)), some (.int (nI j)), none] [] (rwB 0 (rwW R (wK (rwnu R) i j w (c + 1)))) 0 0) → PW X 35 [some (.ref 0), some (.int (nI a)), some (.int (nI b)), some (.int (nI c)), some (.int (nI i)), some (.int (nI j)), some (.int (nI k))] [] (rwB 0 (rwW R (wK (rwnu R) i j w k))) 0 0 := by
      intro n
      induction n with
      | zero => intro i j k h1 h2 h3 h4; exact absurd h4 (by omega)
      | succ n ih =>
        intro i j k h1 h2 h3 h4 w hw
        by_cases hk : k = c + 1
        · subst hk
          refine PW.iload hX dX3_waysOfThree_35 rfl ?_
          refine PW.iload_n hX dX3_waysOfThree_37 rfl rfl ?_
          refine PW.icmp_gt (tgt := 71) hX dX3_waysOfThree_38 (by decide) (fun c38 => ?_) (fun c38 => ?_)
          · try rw [nI_ltI (by omega) (by omega)] at c38
            refine PW.clr 6 ?_
            exact hw
          · try rw [nI_ltI (by omega) (by omega)] at c38
            exfalso; omega -- CLOSED
        · have nx := ih i j (k + 1) h1 h2 (by omega) (by omega) w hw
          rw [wK] at nx
          have hat : atN i j k < 1000 := by unfold atN; omega
          generalize wK (rwnu R) i j w k = w' at nx ⊢
          refine PW.iload hX dX3_waysOfThree_35 rfl ?_
          refine PW.iload_n hX dX3_waysOfThree_37 rfl rfl ?_
          refine PW.icmp_gt (tgt := 71) hX dX3_waysOfThree_38 (by decide) (fun c38 => ?_) (fun c38 => ?_)
          · try rw [nI_ltI (by omega) (by omega)] at c38
            exfalso; omega -- CLOSED
          · try rw [nI_ltI (by omega) (by omega)] at c38
            refine PW.aload_n hX dX3_waysOfThree_41 rfl rfl ?_
            refine PW.getfield hX fl_X3_19 dX3_waysOfThree_42 rfl rfl ?_
            refine PW.iload hX dX3_waysOfThree_45 rfl ?_
            refine PW.iload hX dX3_waysOfThree_47 rfl ?_
            refine PW.iload hX dX3_waysOfThree_49 rfl ?_
            refine PW.sR hX ml_X3_28 (pm_at i j k (by omega) (by omega) (by omega)) dX3_waysOfThree_51 rfl rfl rfl rfl rfl rfl ?_
            refine PW.aload_n hX dX3_waysOfThree_54 rfl rfl ?_
            refine PW.iload hX dX3_waysOfThree_55 rfl ?_
            refine PW.iload hX dX3_waysOfThree_57 rfl ?_
            refine PW.iload hX dX3_waysOfThree_59 rfl ?_
            refine PW.vR hX ml_X3_32 (pm_waysTo (rwW R w') ro i j k (by omega) (by omega) (by omega) (show i + j + k ≤ rwn R by omega)) dX3_waysOfThree_61 [0, 1, 2, 3, 4] rfl rfl rfl rfl rfl rfl rfl rfl rfl rfl rfl rfl rfl ?_
            refine PW.iastore hX dX3_waysOfThree_64 rfl rfl rfl hat ?_
            first | refine PW.iinc hX dX3_waysOfThree_65 rfl (iincN _) ?_ | refine PW.iinc hX dX3_waysOfThree_65 rfl rfl ?_
            refine PW.goto (tgt := 35) hX dX3_waysOfThree_68 (by decide) ?_
            exact nx
    have loop2 : ∀ n i j : Nat, i ≤ a → j ≤ b + 1 → b + 1 < j + n → ∀ w : Nat → Int32, (PW X 77 [some (.ref 0), some (.int (nI a)), some (.int (nI b)), some (.int (nI c)), some (.int (nI i)), none, none] [] (rwB 0 (rwW R (wJ (rwnu R) c i w (b + 1)))) 0 0) → PW X 26 [some (.ref 0), some (.int (nI a)), some (.int (nI b)), some (.int (nI c)), some (.int (nI i)), some (.int (nI j)), none] [] (rwB 0 (rwW R (wJ (rwnu R) c i w j))) 0 0 := by
      intro n
      induction n with
      | zero => intro i j h1 h2 h3; exact absurd h3 (by omega)
      | succ n ih =>
        intro i j h1 h2 h3 w hw
        by_cases hj : j = b + 1
        · subst hj
          refine PW.iload hX dX3_waysOfThree_26 rfl ?_
          refine PW.iload_n hX dX3_waysOfThree_28 rfl rfl ?_
          refine PW.icmp_gt (tgt := 77) hX dX3_waysOfThree_29 (by decide) (fun c29 => ?_) (fun c29 => ?_)
          · try rw [nI_ltI (by omega) (by omega)] at c29
            refine PW.clr 5 ?_
            exact hw
          · try rw [nI_ltI (by omega) (by omega)] at c29
            exfalso; omega -- CLOSED
        · have nx := ih i (j + 1) h1 (by omega) (by omega) w hw
          rw [wJ] at nx
          generalize wJ (rwnu R) c i w j = w' at nx ⊢
          have h71 : PW X 71 [some (.ref 0), some (.int (nI a)), some (.int (nI b)), some (.int (nI c)), some (.int (nI i)), some (.int (nI j)), none] [] (rwB 0 (rwW R (wK (rwnu R) i j w' (c + 1)))) 0 0 := by
            generalize wK (rwnu R) i j w' (c + 1) = w2 at nx ⊢
            first | refine PW.iinc hX dX3_waysOfThree_71 rfl (iincN _) ?_ | refine PW.iinc hX dX3_waysOfThree_71 rfl rfl ?_
            refine PW.goto (tgt := 26) hX dX3_waysOfThree_74 (by decide) ?_
            exact nx
          have h35 := loop3 (c + 2) i j 0 h1 (by omega) (by omega) (by omega) w' h71
          rw [wK] at h35
          refine PW.iload hX dX3_waysOfThree_26 rfl ?_
          refine PW.iload_n hX dX3_waysOfThree_28 rfl rfl ?_
          refine PW.icmp_gt (tgt := 77) hX dX3_waysOfThree_29 (by decide) (fun c29 => ?_) (fun c29 => ?_)
          · try rw [nI_ltI (by omega) (by omega)] at c29
            exfalso; omega -- CLOSED
          · try rw [nI_ltI (by omega) (by omega)] at c29
            refine PW.iconst (v := nI 0) hX dX3_waysOfThree_32 (by decide) ?_
            refine PW.istore hX dX3_waysOfThree_33 rfl ?_
            exact h35
    have loop1 : ∀ n i : Nat, i ≤ a + 1 → a + 1 < i + n → PW X 17 [some (.ref 0), some (.int (nI a)), some (.int (nI b)), some (.int (nI c)), some (.int (nI i)), none, none] [] (rwB 0 (rwW R (wI (rwnu R) b c (rwwy R) i))) 0 0 := by
      intro n
      induction n with
      | zero => intro i h1 h2; exact absurd h2 (by omega)
      | succ n ih =>
        intro i h1 h2
        by_cases hi : i = a + 1
        · subst hi
          generalize wI (rwnu R) b c (rwwy R) (a + 1) = w2 at hR ⊢
          have hat : atN a b c < 1000 := by unfold atN; omega
          refine PW.iload hX dX3_waysOfThree_17 rfl ?_
          refine PW.iload_n hX dX3_waysOfThree_19 rfl rfl ?_
          refine PW.icmp_gt (tgt := 83) hX dX3_waysOfThree_20 (by decide) (fun c20 => ?_) (fun c20 => ?_)
          · try rw [nI_ltI (by omega) (by omega)] at c20
            refine PW.aload_n hX dX3_waysOfThree_83 rfl rfl ?_
            refine PW.getfield hX fl_X3_19 dX3_waysOfThree_84 rfl rfl ?_
            refine PW.iload_n hX dX3_waysOfThree_87 rfl rfl ?_
            refine PW.iload_n hX dX3_waysOfThree_88 rfl rfl ?_
            refine PW.iload_n hX dX3_waysOfThree_89 rfl rfl ?_
            refine PW.sR hX ml_X3_28 (pm_at a b c (by omega) (by omega) (by omega)) dX3_waysOfThree_90 rfl rfl rfl rfl rfl rfl ?_
            refine PW.iaload hX dX3_waysOfThree_93 rfl rfl rfl hat ?_
            refine PW.iret hX hR dX3_waysOfThree_94 rfl rfl ?_
            exact ⟨rfl, rfl⟩
          · try rw [nI_ltI (by omega) (by omega)] at c20
            exfalso; omega -- CLOSED
        · have nx := ih (i + 1) (by omega) (by omega)
          rw [wI] at nx
          generalize wI (rwnu R) b c (rwwy R) i = w' at nx ⊢
          have h77 : PW X 77 [some (.ref 0), some (.int (nI a)), some (.int (nI b)), some (.int (nI c)), some (.int (nI i)), none, none] [] (rwB 0 (rwW R (wJ (rwnu R) c i w' (b + 1)))) 0 0 := by
            generalize wJ (rwnu R) c i w' (b + 1) = w2 at nx ⊢
            first | refine PW.iinc hX dX3_waysOfThree_77 rfl (iincN _) ?_ | refine PW.iinc hX dX3_waysOfThree_77 rfl rfl ?_
            refine PW.goto (tgt := 17) hX dX3_waysOfThree_80 (by decide) ?_
            exact nx
          have h26 := loop2 (b + 2) i 0 (by omega) (by omega) (by omega) w' h77
          rw [wJ] at h26
          refine PW.iload hX dX3_waysOfThree_17 rfl ?_
          refine PW.iload_n hX dX3_waysOfThree_19 rfl rfl ?_
          refine PW.icmp_gt (tgt := 83) hX dX3_waysOfThree_20 (by decide) (fun c20 => ?_) (fun c20 => ?_)
          · try rw [nI_ltI (by omega) (by omega)] at c20
            exfalso; omega -- CLOSED
          · try rw [nI_ltI (by omega) (by omega)] at c20
            refine PW.iconst (v := nI 0) hX dX3_waysOfThree_23 (by decide) ?_
            refine PW.istore hX dX3_waysOfThree_24 rfl ?_
            exact h26
    have h17 := loop1 (a + 2) 0 (by omega) (by omega)
    rw [wI] at h17
    refine PW.iload_n hX dX3_waysOfThree_0 rfl rfl ?_
    refine PW.iload_n hX dX3_waysOfThree_1 rfl rfl ?_
    refine PW.iadd hX dX3_waysOfThree_2 ?_
    refine PW.iload_n hX dX3_waysOfThree_3 rfl rfl ?_
    refine PW.iadd hX dX3_waysOfThree_4 ?_
    refine PW.top (show nI a + nI b + nI c = nI (a + b + c) by rw [nI_add, nI_add]) ?_
    refine PW.aload_n hX dX3_waysOfThree_5 rfl rfl ?_
    refine PW.getfield hX fl_X3_15 dX3_waysOfThree_6 rfl rfl ?_
    refine PW.icmp_eq (tgt := 14) hX dX3_waysOfThree_9 (by decide) (fun c9 => ?_) (fun c9 => ?_)
    · first | rw [nI_eq (by omega) (by omega)] at c9 | rw [oI_eq9] at c9 | skip
      refine PW.iconst (v := nI 0) hX dX3_waysOfThree_14 (by decide) ?_
      refine PW.istore hX dX3_waysOfThree_15 rfl ?_
      exact h17
    · first | rw [nI_eq (by omega) (by omega)] at c9 | rw [oI_eq9] at c9 | skip
      exfalso; omega -- CLOSED
  · have e1 : wRes (rwnu R) (rwn R) a b c (rwwy R) = nI 0 := by unfold wRes; rw [if_neg hs]
    have e2 : wAll (rwnu R) (rwn R) a b c (rwwy R) = rwwy R := by unfold wAll; rw [if_neg hs]
    rw [e1, e2]
    refine PM.start (Or.inl (by decide +kernel)) rfl rfl rfl ?_
    intro X hX hR hx hin
    refine PW.iload_n hX dX3_waysOfThree_0 rfl rfl ?_
    refine PW.iload_n hX dX3_waysOfThree_1 rfl rfl ?_
    refine PW.iadd hX dX3_waysOfThree_2 ?_
    refine PW.iload_n hX dX3_waysOfThree_3 rfl rfl ?_
    refine PW.iadd hX dX3_waysOfThree_4 ?_
    refine PW.top (show nI a + nI b + nI c = nI (a + b + c) by rw [nI_add, nI_add]) ?_
    refine PW.aload_n hX dX3_waysOfThree_5 rfl rfl ?_
    refine PW.getfield hX fl_X3_15 dX3_waysOfThree_6 rfl rfl ?_
    refine PW.icmp_eq (tgt := 14) hX dX3_waysOfThree_9 (by decide) (fun c9 => ?_) (fun c9 => ?_)
    · first | rw [nI_eq (by omega) (by omega)] at c9 | rw [oI_eq9] at c9 | skip
      exfalso; omega -- CLOSED
    · first | rw [nI_eq (by omega) (by omega)] at c9 | rw [oI_eq9] at c9 | skip
      refine PW.iconst (v := nI 0) hX dX3_waysOfThree_12 (by decide) ?_
      refine PW.iret hX hR dX3_waysOfThree_13 rfl rfl ?_
      exact ⟨rfl, rfl⟩
