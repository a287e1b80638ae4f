def hdF (P : Pl) (D : Dy) (o : Nat) (b : Bool) : Nat → Nat := fun k => if dyho D k = some o ∧ (isSh P k && decide (plow P (k / 10) = o)) = b then 1 else 0
theorem sumN_le {f : Nat → Nat} (h : ∀ k, f k ≤ 1) : ∀ n, sumN f n ≤ n
  | 0 => Nat.le_refl _
  | n + 1 => by rw [sumN]; have := sumN_le h n; have := h n; omega
theorem oI_nI {z : Option Nat} {o : Nat} (hz : ∀ x, z = some x → x < 1000) (ho : o < 1000) : oI z = nI o ↔ z = some o := by
  cases z with
  | none => exact ⟨fun h => absurd h.symm (nI_ne9 (by omega)), fun h => by cases h⟩
  | some x =>
    have := hz x rfl
    show nI x = nI o ↔ _
    rw [nI_eq (by omega) (by omega)]
    exact ⟨fun h => by rw [h], fun h => by cases h; rfl⟩
theorem bI_inj {a b : Bool} : bI a = bI b ↔ a = b := by cases a <;> cases b <;> decide
theorem pm_heldBy (P : Pl) (ok : PlOk P) (D : Dy) (dho : ∀ k o, k < 60 → dyho D k = some o → o < 4) (o : Nat) (ho : o < 4) (b : Bool) : PM mu_X0_heldBy 3 0 0 [.ref 0, .ref 10, .int (nI o), .int (bI b)] (dyB 0 D ++ plB 10 P) (eqP (some (.int (nI (sumN (hdF P D o b) 60)))) (dyB 0 D ++ plB 10 P)) := by
  refine PM.start (Or.inl (by decide +kernel)) rfl rfl rfl ?_
  intro X hX hR hx hin
  have loop : ∀ k i : Nat, i ≤ 60 → 60 < i + k → PW X 6 [some (.ref 0), some (.ref 10), some (.int (nI o)), some (.int (bI b)), some (.int (nI (sumN (hdF P D o b) i))), some (.int (nI i))] [] (dyB 0 D ++ plB 10 P) 0 0 := by
    intro k
    induction k with
    | zero => intro i h1 h2; exact absurd h2 (by omega)
    | succ k ih =>
      intro i h1 h2
      by_cases hi : i = 60
      · subst hi
        refine PW.iload hX dX0_heldBy_6 rfl ?_
        refine PW.bipush (v := nI 60) hX dX0_heldBy_8 (by decide) ?_
        refine PW.icmp_ge (tgt := 44) hX dX0_heldBy_10 (by decide) (fun c10 => ?_) (fun c10 => ?_)
        · try rw [nI_leI (by omega) (by omega)] at c10
          refine PW.iload hX dX0_heldBy_44 rfl ?_
          refine PW.iret hX hR dX0_heldBy_46 rfl rfl ?_
          exact ⟨rfl, rfl⟩
        · try rw [nI_leI (by omega) (by omega)] at c10
          exfalso; omega -- CLOSED
      · have nx := ih (i + 1) (by omega) (by omega)
        have hz : ∀ x, dyho D i = some x → x < 1000 := fun x e => by have := dho i x (by omega) e; omega
        refine PW.iload hX dX0_heldBy_6 rfl ?_
        refine PW.bipush (v := nI 60) hX dX0_heldBy_8 (by decide) ?_
        refine PW.icmp_ge (tgt := 44) hX dX0_heldBy_10 (by decide) (fun c10 => ?_) (fun c10 => ?_)
        · try rw [nI_leI (by omega) (by omega)] at c10
          exfalso; omega -- CLOSED
        · try rw [nI_leI (by omega) (by omega)] at c10
          refine PW.aload_n hX dX0_heldBy_13 rfl rfl ?_
          refine PW.getfield hX fl_X0_39 dX0_heldBy_14 rfl rfl ?_
          refine PW.iload hX dX0_heldBy_17 rfl ?_
          refine PW.iaload hX dX0_heldBy_19 rfl rfl rfl (by omega) ?_
          refine PW.iload_n hX dX0_heldBy_20 rfl rfl ?_
          refine PW.icmp_ne (tgt := 38) hX dX0_heldBy_21 (by decide) (fun c21 => ?_) (fun c21 => ?_)
          · first | rw [nI_eq (by omega) (by omega)] at c21 | rw [oI_eq9] at c21 | skip
            rw [oI_nI hz (by omega)] at c21
            have e : hdF P D o b i = 0 := by unfold hdF; rw [if_neg (fun q => c21 q.1)]
            rw [sumN, e] at nx
            first | refine PW.iinc hX dX0_heldBy_38 rfl (iincN _) ?_ | refine PW.iinc hX dX0_heldBy_38 rfl rfl ?_
            refine PW.goto (tgt := 6) hX dX0_heldBy_41 (by decide) ?_
            exact nx
          · first | rw [nI_eq (by omega) (by omega)] at c21 | rw [oI_eq9] at c21 | skip
            rw [oI_nI hz (by omega)] at c21
            refine PW.aload_n hX dX0_heldBy_24 rfl rfl ?_
            refine PW.iload hX dX0_heldBy_25 rfl ?_
            refine PW.iload_n hX dX0_heldBy_27 rfl rfl ?_
            refine PW.vR hX ml_X0_94 (pm_isOf P ok i o (by omega) (by omega)) dX0_heldBy_28 [10, 11, 12, 13, 14, 15, 16, 17] rfl rfl rfl rfl rfl rfl rfl rfl rfl rfl rfl rfl rfl ?_
            refine PW.iload_n hX dX0_heldBy_31 rfl rfl ?_
            refine PW.icmp_ne (tgt := 38) hX dX0_heldBy_32 (by decide) (fun c32 => ?_) (fun c32 => ?_)
            · first | rw [nI_eq (by omega) (by omega)] at c32 | rw [oI_eq9] at c32 | skip
              rw [bI_inj] at c32
              have e : hdF P D o b i = 0 := by unfold hdF; rw [if_neg (fun q => c32 q.2)]
              rw [sumN, e] at nx
              first | refine PW.iinc hX dX0_heldBy_38 rfl (iincN _) ?_ | refine PW.iinc hX dX0_heldBy_38 rfl rfl ?_
              refine PW.goto (tgt := 6) hX dX0_heldBy_41 (by decide) ?_
              exact nx
            · first | rw [nI_eq (by omega) (by omega)] at c32 | rw [oI_eq9] at c32 | skip
              rw [bI_inj] at c32
              have e : hdF P D o b i = 1 := by unfold hdF; rw [if_pos ⟨c21, c32⟩]
              rw [sumN, e] at nx
              first | refine PW.iinc hX dX0_heldBy_35 rfl (iincN _) ?_ | refine PW.iinc hX dX0_heldBy_35 rfl rfl ?_
              first | refine PW.iinc hX dX0_heldBy_38 rfl (iincN _) ?_ | refine PW.iinc hX dX0_heldBy_38 rfl rfl ?_
              refine PW.goto (tgt := 6) hX dX0_heldBy_41 (by decide) ?_
              exact nx
  refine PW.iconst (v := nI 0) hX dX0_heldBy_0 (by decide) ?_
  refine PW.istore hX dX0_heldBy_1 rfl ?_
  refine PW.iconst (v := nI 0) hX dX0_heldBy_3 (by decide) ?_
  refine PW.istore hX dX0_heldBy_4 rfl ?_
  exact loop 61 0 (by omega) (by omega)
def otF (P : Pl) (D : Dy) (o : Nat) : Nat → Nat := fun k => match dyho D k with
  | none => 0
  | some x => if ¬ x = o ∧ (isSh P k && decide (plow P (k / 10) = o)) = true then 2 ^ x else 0
theorem pm_othersWith (P : Pl) (ok : PlOk P) (D : Dy) (dho : ∀ k o, k < 60 → dyho D k = some o → o < 4) (o : Nat) (ho : o < 4) : PM mu_X0_othersWith 3 0 0 [.ref 0, .ref 10, .int (nI o)] (dyB 0 D ++ plB 10 P) (eqP (some (.int (nI (orN (otF P D o) 60)))) (dyB 0 D ++ plB 10 P)) := by
  refine PM.start (Or.inl (by decide +kernel)) rfl rfl rfl ?_
  intro X hX hR hx hin
  have loop : ∀ k i : Nat, i ≤ 60 → 60 < i + k → PW X 5 [some (.ref 0), some (.ref 10), some (.int (nI o)), some (.int (nI (orN (otF P D o) i))), some (.int (nI i)), none] [] (dyB 0 D ++ plB 10 P) 0 0 := by
    intro k
    induction k with
    | zero => intro i h1 h2; exact absurd h2 (by omega)
    | succ k ih =>
      intro i h1 h2
      by_cases hi : i = 60
      · subst hi
        refine PW.iload hX dX0_othersWith_5 rfl ?_
        refine PW.bipush (v := nI 60) hX dX0_othersWith_7 (by decide) ?_
        refine PW.icmp_ge (tgt := 55) hX dX0_othersWith_9 (by decide) (fun c9 => ?_) (fun c9 => ?_)
        · try rw [nI_leI (by omega) (by omega)] at c9
          refine PW.iload_n hX dX0_othersWith_55 rfl rfl ?_
          refine PW.iret hX hR dX0_othersWith_56 rfl rfl ?_
          exact ⟨rfl, rfl⟩
        · try rw [nI_leI (by omega) (by omega)] at c9
          exfalso; omega -- CLOSED
      · have nx := ih (i + 1) (by omega) (by omega)
        rw [orN] at nx
        cases hh : dyho D i with
        | none =>
          have e : otF P D o i = 0 := by unfold otF; rw [hh]
          rw [e, Nat.or_zero] at nx
          refine PW.iload hX dX0_othersWith_5 rfl ?_
          refine PW.bipush (v := nI 60) hX dX0_othersWith_7 (by decide) ?_
          refine PW.icmp_ge (tgt := 55) hX dX0_othersWith_9 (by decide) (fun c9 => ?_) (fun c9 => ?_)
          · try rw [nI_leI (by omega) (by omega)] at c9
            exfalso; omega -- CLOSED
          · try rw [nI_leI (by omega) (by omega)] at c9
            refine PW.aload_n hX dX0_othersWith_12 rfl rfl ?_
            refine PW.getfield hX fl_X0_39 dX0_othersWith_13 rfl rfl ?_
            refine PW.iload hX dX0_othersWith_16 rfl ?_
            refine PW.iaload hX dX0_othersWith_18 rfl rfl rfl (by omega) ?_
            refine PW.top (show _ = (-9 : Int32) by rw [hh]; rfl) ?_
            refine PW.istore hX dX0_othersWith_19 rfl ?_
            refine PW.iload hX dX0_othersWith_21 rfl ?_
            refine PW.if_lt (tgt := 49) hX dX0_othersWith_23 (by decide) (fun c23 => ?_) (fun c23 => ?_)
            · try rw [nI_lt0 (by omega)] at c23
              first | refine PW.iinc hX dX0_othersWith_49 rfl (iincN _) ?_ | refine PW.iinc hX dX0_othersWith_49 rfl rfl ?_
              refine PW.goto (tgt := 5) hX dX0_othersWith_52 (by decide) ?_
              refine PW.clr 5 ?_
              exact nx
            · try rw [nI_lt0 (by omega)] at c23
              exact absurd (by decide) c23 -- CLOSED
        | some x =>
          have hx := dho i x (by omega) hh
          have e0 : otF P D o i = if ¬ x = o ∧ (isSh P i && decide (plow P (i / 10) = o)) = true then 2 ^ x else 0 := by unfold otF; rw [hh]
          refine PW.iload hX dX0_othersWith_5 rfl ?_
          refine PW.bipush (v := nI 60) hX dX0_othersWith_7 (by decide) ?_
          refine PW.icmp_ge (tgt := 55) hX dX0_othersWith_9 (by decide) (fun c9 => ?_) (fun c9 => ?_)
          · try rw [nI_leI (by omega) (by omega)] at c9
            exfalso; omega -- CLOSED
          · try rw [nI_leI (by omega) (by omega)] at c9
            refine PW.aload_n hX dX0_othersWith_12 rfl rfl ?_
            refine PW.getfield hX fl_X0_39 dX0_othersWith_13 rfl rfl ?_
            refine PW.iload hX dX0_othersWith_16 rfl ?_
            refine PW.iaload hX dX0_othersWith_18 rfl rfl rfl (by omega) ?_
            refine PW.top (show _ = nI x by rw [hh]; rfl) ?_
            refine PW.istore hX dX0_othersWith_19 rfl ?_
            refine PW.iload hX dX0_othersWith_21 rfl ?_
            refine PW.if_lt (tgt := 49) hX dX0_othersWith_23 (by decide) (fun c23 => ?_) (fun c23 => ?_)
            · try rw [nI_lt0 (by omega)] at c23
              exact c23.elim -- CLOSED
            · try rw [nI_lt0 (by omega)] at c23
              refine PW.iload hX dX0_othersWith_26 rfl ?_
              refine PW.iload_n hX dX0_othersWith_28 rfl rfl ?_
              refine PW.icmp_eq (tgt := 49) hX dX0_othersWith_29 (by decide) (fun c29 => ?_) (fun c29 => ?_)
              · first | rw [nI_eq (by omega) (by omega)] at c29 | rw [oI_eq9] at c29 | skip
                rw [e0, if_neg (fun q => q.1 c29), Nat.or_zero] at nx
                first | refine PW.iinc hX dX0_othersWith_49 rfl (iincN _) ?_ | refine PW.iinc hX dX0_othersWith_49 rfl rfl ?_
                refine PW.goto (tgt := 5) hX dX0_othersWith_52 (by decide) ?_
                refine PW.clr 5 ?_
                exact nx
              · first | rw [nI_eq (by omega) (by omega)] at c29 | rw [oI_eq9] at c29 | skip
                refine PW.aload_n hX dX0_othersWith_32 rfl rfl ?_
                refine PW.iload hX dX0_othersWith_33 rfl ?_
                refine PW.iload_n hX dX0_othersWith_35 rfl rfl ?_
                refine PW.vR hX ml_X0_94 (pm_isOf P ok i o (by omega) (by omega)) dX0_othersWith_36 [10, 11, 12, 13, 14, 15, 16, 17] rfl rfl rfl rfl rfl rfl rfl rfl rfl rfl rfl rfl rfl ?_
                refine PW.if_eq (tgt := 49) hX dX0_othersWith_39 (by decide) (fun c39 => ?_) (fun c39 => ?_)
                · first | rw [bI_d0] at c39 | rw [bI_eq0] at c39 | rw [nI_eq0 (by omega)] at c39 | skip
                  rw [e0, if_neg (fun q => by rw [c39] at q; exact absurd q.2 (by decide)), Nat.or_zero] at nx
                  first | refine PW.iinc hX dX0_othersWith_49 rfl (iincN _) ?_ | refine PW.iinc hX dX0_othersWith_49 rfl rfl ?_
                  refine PW.goto (tgt := 5) hX dX0_othersWith_52 (by decide) ?_
                  refine PW.clr 5 ?_
                  exact nx
                · first | rw [bI_d0] at c39 | rw [bI_eq0] at c39 | rw [nI_eq0 (by omega)] at c39 | skip
                  rw [e0, if_pos ⟨c29, (Bool.not_eq_false _).mp c39⟩] at nx
                  refine PW.iload_n hX dX0_othersWith_42 rfl rfl ?_
                  refine PW.iconst (v := nI 1) hX dX0_othersWith_43 (by decide) ?_
                  refine PW.iload hX dX0_othersWith_44 rfl ?_
                  refine PW.ishl hX dX0_othersWith_46 ?_
                  refine PW.top (nI_shl1 (by omega)) ?_
                  refine PW.ior hX dX0_othersWith_47 ?_
                  refine PW.top (nI_or _ _) ?_
                  refine PW.istore_n hX dX0_othersWith_48 rfl rfl ?_
                  first | refine PW.iinc hX dX0_othersWith_49 rfl (iincN _) ?_ | refine PW.iinc hX dX0_othersWith_49 rfl rfl ?_
                  refine PW.goto (tgt := 5) hX dX0_othersWith_52 (by decide) ?_
                  refine PW.clr 5 ?_
                  exact nx
  refine PW.iconst (v := nI 0) hX dX0_othersWith_0 (by decide) ?_
  refine PW.istore_n hX dX0_othersWith_1 rfl rfl ?_
  refine PW.iconst (v := nI 0) hX dX0_othersWith_2 (by decide) ?_
  refine PW.istore hX dX0_othersWith_3 rfl ?_
  exact loop 61 0 (by omega) (by omega)
def mxO : Option Nat → Nat → Nat
  | none, x => x
  | some a, x => if a < x then x else a
def lfF (P : Pl) (D : Dy) (o : Nat) : Nat → Option (Option Nat)
  | 0 => some none
  | i + 1 => match lfF P D o i with
    | none => none
    | some l => if (isSh P i && decide (plow P (i / 10) = o)) = true then (match dyfo D i with | none => none | some x => some (some (mxO l x))) else some l
def lfo (P : Pl) (D : Dy) (o : Nat) : Option Nat := match lfF P D o 60 with | none => none | some l => l
theorem lfF_none (P : Pl) (D : Dy) (o i : Nat) (h : lfF P D o i = none) : ∀ k, lfF P D o (i + k) = none
  | 0 => h
  | k + 1 => by rw [Nat.add_succ, lfF, lfF_none P D o i h k]
theorem lfF_lt (P : Pl) (D : Dy) (o : Nat) (dfo : ∀ k x, k < 60 → dyfo D k = some x → x < 100) : ∀ i, i ≤ 60 → ∀ l x, lfF P D o i = some l → l = some x → x < 100
  | 0, _, l, x, h, hl => by cases h; cases hl
  | i + 1, hi, l, x, h, hl => by
    have ih := lfF_lt P D o dfo i (by omega)
    rw [lfF] at h
    cases hq : lfF P D o i with
    | none => rw [hq] at h; cases h
    | some l0 =>
      rw [hq] at h
      dsimp only at h
      split at h
      · cases hf : dyfo D i with
        | none => rw [hf] at h; cases h
        | some y =>
          rw [hf] at h
          cases h
          cases hl
          have hy := dfo i y (by omega) hf
          cases l0 with
          | none => exact hy
          | some a =>
            have ha := ih _ a hq rfl
            show (if a < y then y else a) < 100
            split <;> omega
      · cases h
        exact ih _ x hq hl
theorem pm_lastFirstOut (P : Pl) (ok : PlOk P) (D : Dy) (dfo : ∀ k x, k < 60 → dyfo D k = some x → x < 100) (o : Nat) (ho : o < 4) : PM mu_X0_lastFirstOut 3 0 0 [.ref 0, .ref 10, .int (nI o)] (dyB 0 D ++ plB 10 P) (eqP (some (.int (oI (lfo P D o)))) (dyB 0 D ++ plB 10 P)) := by
  refine PM.start (Or.inl (by decide +kernel)) rfl rfl rfl ?_
  intro X hX hR hx hin
  have loop : ∀ k i : Nat, i ≤ 60 → 60 < i + k → ∀ l, lfF P D o i = some l → PW X 6 [some (.ref 0), some (.ref 10), some (.int (nI o)), some (.int (oI l)), some (.int (nI i))] [] (dyB 0 D ++ plB 10 P) 0 0 := by
    intro k
    induction k with
    | zero => intro i h1 h2; exact absurd h2 (by omega)
    | succ k ih =>
      intro i h1 h2 l hl
      by_cases hi : i = 60
      · subst hi
        have e : lfo P D o = l := by unfold lfo; rw [hl]
        rw [e] at hR
        refine PW.iload hX dX0_lastFirstOut_6 rfl ?_
        refine PW.bipush (v := nI 60) hX dX0_lastFirstOut_8 (by decide) ?_
        refine PW.icmp_ge (tgt := 56) hX dX0_lastFirstOut_10 (by decide) (fun c10 => ?_) (fun c10 => ?_)
        · try rw [nI_leI (by omega) (by omega)] at c10
          refine PW.iload_n hX dX0_lastFirstOut_56 rfl rfl ?_
          refine PW.iret hX hR dX0_lastFirstOut_57 rfl rfl ?_
          exact ⟨rfl, rfl⟩
        · try rw [nI_leI (by omega) (by omega)] at c10
          exfalso; omega -- CLOSED
      · have nx := ih (i + 1) (by omega) (by omega)
        rw [lfF, hl] at nx
        cases hb : (isSh P i && decide (plow P (i / 10) = o)) with
        | false =>
          have nx := nx l (by dsimp only; rw [hb, if_neg (by decide)])
          refine PW.iload hX dX0_lastFirstOut_6 rfl ?_
          refine PW.bipush (v := nI 60) hX dX0_lastFirstOut_8 (by decide) ?_
          refine PW.icmp_ge (tgt := 56) hX dX0_lastFirstOut_10 (by decide) (fun c10 => ?_) (fun c10 => ?_)
          · try rw [nI_leI (by omega) (by omega)] at c10
            exfalso; omega -- CLOSED
          · try rw [nI_leI (by omega) (by omega)] at c10
            refine PW.aload_n hX dX0_lastFirstOut_13 rfl rfl ?_
            refine PW.iload hX dX0_lastFirstOut_14 rfl ?_
            refine PW.iload_n hX dX0_lastFirstOut_16 rfl rfl ?_
            refine PW.vR hX ml_X0_94 (pm_isOf P ok i o (by omega) (by omega)) dX0_lastFirstOut_17 [10, 11, 12, 13, 14, 15, 16, 17] rfl rfl rfl rfl rfl rfl rfl rfl rfl rfl rfl rfl rfl ?_
            refine PW.top (congrArg bI hb) ?_
            refine PW.if_eq (tgt := 50) hX dX0_lastFirstOut_20 (by decide) (fun c20 => ?_) (fun c20 => ?_)
            · first | rw [bI_d0] at c20 | rw [bI_eq0] at c20 | rw [nI_eq0 (by omega)] at c20 | skip
              first | refine PW.iinc hX dX0_lastFirstOut_50 rfl (iincN _) ?_ | refine PW.iinc hX dX0_lastFirstOut_50 rfl rfl ?_
              refine PW.goto (tgt := 6) hX dX0_lastFirstOut_53 (by decide) ?_
              exact nx
            · first | rw [bI_d0] at c20 | rw [bI_eq0] at c20 | rw [nI_eq0 (by omega)] at c20 | skip
              exact absurd rfl c20 -- CLOSED
        | true =>
          cases hf : dyfo D i with
          | none =>
            have e1 : lfF P D o (i + 1) = none := by rw [lfF, hl]; dsimp only; rw [hb, if_pos rfl, hf]
            have e : lfo P D o = none := by
              have := lfF_none P D o (i + 1) e1 (60 - (i + 1))
              rw [show i + 1 + (60 - (i + 1)) = 60 by omega] at this
              unfold lfo
              rw [this]
            rw [e] at hR
            refine PW.iload hX dX0_lastFirstOut_6 rfl ?_
            refine PW.bipush (v := nI 60) hX dX0_lastFirstOut_8 (by decide) ?_
            refine PW.icmp_ge (tgt := 56) hX dX0_lastFirstOut_10 (by decide) (fun c10 => ?_) (fun c10 => ?_)
            · try rw [nI_leI (by omega) (by omega)] at c10
              exfalso; omega -- CLOSED
            · try rw [nI_leI (by omega) (by omega)] at c10
              refine PW.aload_n hX dX0_lastFirstOut_13 rfl rfl ?_
              refine PW.iload hX dX0_lastFirstOut_14 rfl ?_
              refine PW.iload_n hX dX0_lastFirstOut_16 rfl rfl ?_
              refine PW.vR hX ml_X0_94 (pm_isOf P ok i o (by omega) (by omega)) dX0_lastFirstOut_17 [10, 11, 12, 13, 14, 15, 16, 17] rfl rfl rfl rfl rfl rfl rfl rfl rfl rfl rfl rfl rfl ?_
              refine PW.top (congrArg bI hb) ?_
              refine PW.if_eq (tgt := 50) hX dX0_lastFirstOut_20 (by decide) (fun c20 => ?_) (fun c20 => ?_)
              · first | rw [bI_d0] at c20 | rw [bI_eq0] at c20 | rw [nI_eq0 (by omega)] at c20 | skip
                exact absurd c20 (by decide) -- CLOSED
              · first | rw [bI_d0] at c20 | rw [bI_eq0] at c20 | rw [nI_eq0 (by omega)] at c20 | skip
                refine PW.aload_n hX dX0_lastFirstOut_23 rfl rfl ?_
                refine PW.getfield hX fl_X0_36 dX0_lastFirstOut_24 rfl rfl ?_
                refine PW.iload hX dX0_lastFirstOut_27 rfl ?_
                refine PW.iaload hX dX0_lastFirstOut_29 rfl rfl rfl (by omega) ?_
                refine PW.top (show _ = oI none by rw [hf]) ?_
                refine PW.bipush (v := (-9)) hX dX0_lastFirstOut_30 (by decide) ?_
                refine PW.icmp_ne (tgt := 38) hX dX0_lastFirstOut_32 (by decide) (fun c32 => ?_) (fun c32 => ?_)
                · first | rw [nI_eq (by omega) (by omega)] at c32 | rw [oI_eq9] at c32 | skip
                  exact absurd trivial c32 -- CLOSED
                · first | rw [nI_eq (by omega) (by omega)] at c32 | rw [oI_eq9] at c32 | skip
                  refine PW.bipush (v := (-9)) hX dX0_lastFirstOut_35 (by decide) ?_
                  refine PW.iret hX hR dX0_lastFirstOut_37 rfl rfl ?_
                  exact ⟨rfl, rfl⟩
          | some x =>
            have hx := dfo i x (by omega) hf
            have nx := nx (some (mxO l x)) (by dsimp only; rw [hb, if_pos rfl, hf])
            have em : (if oI l < nI x then nI x else oI l) = oI (some (mxO l x)) := by
              cases l with
              | none =>
                have : oI none < nI x := by
                  show (-9 : Int32) < nI x
                  rw [Int32.lt_iff_toInt_lt, nI_toInt (by omega), show ((-9 : Int32)).toInt = -9 by decide]
                  omega
                rw [if_pos this]
                rfl
              | some a =>
                have ha := lfF_lt P D o dfo i (by omega) _ a hl rfl
                show (if nI a < nI x then nI x else nI a) = nI (if a < x then x else a)
                by_cases h : a < x
                · rw [if_pos h, if_pos ((nI_ltI (by omega) (by omega)).mpr h)]
                · rw [if_neg h, if_neg (fun q => h ((nI_ltI (by omega) (by omega)).mp q))]
            refine PW.iload hX dX0_lastFirstOut_6 rfl ?_
            refine PW.bipush (v := nI 60) hX dX0_lastFirstOut_8 (by decide) ?_
            refine PW.icmp_ge (tgt := 56) hX dX0_lastFirstOut_10 (by decide) (fun c10 => ?_) (fun c10 => ?_)
            · try rw [nI_leI (by omega) (by omega)] at c10
              exfalso; omega -- CLOSED
            · try rw [nI_leI (by omega) (by omega)] at c10
              refine PW.aload_n hX dX0_lastFirstOut_13 rfl rfl ?_
              refine PW.iload hX dX0_lastFirstOut_14 rfl ?_
              refine PW.iload_n hX dX0_lastFirstOut_16 rfl rfl ?_
              refine PW.vR hX ml_X0_94 (pm_isOf P ok i o (by omega) (by omega)) dX0_lastFirstOut_17 [10, 11, 12, 13, 14, 15, 16, 17] rfl rfl rfl rfl rfl rfl rfl rfl rfl rfl rfl rfl rfl ?_
              refine PW.top (congrArg bI hb) ?_
              refine PW.if_eq (tgt := 50) hX dX0_lastFirstOut_20 (by decide) (fun c20 => ?_) (fun c20 => ?_)
              · first | rw [bI_d0] at c20 | rw [bI_eq0] at c20 | rw [nI_eq0 (by omega)] at c20 | skip
                exact absurd c20 (by decide) -- CLOSED
              · first | rw [bI_d0] at c20 | rw [bI_eq0] at c20 | rw [nI_eq0 (by omega)] at c20 | skip
                refine PW.aload_n hX dX0_lastFirstOut_23 rfl rfl ?_
                refine PW.getfield hX fl_X0_36 dX0_lastFirstOut_24 rfl rfl ?_
                refine PW.iload hX dX0_lastFirstOut_27 rfl ?_
                refine PW.iaload hX dX0_lastFirstOut_29 rfl rfl rfl (by omega) ?_
                refine PW.top (show _ = nI x by rw [hf]; rfl) ?_
                refine PW.bipush (v := (-9)) hX dX0_lastFirstOut_30 (by decide) ?_
                refine PW.icmp_ne (tgt := 38) hX dX0_lastFirstOut_32 (by decide) (fun c32 => ?_) (fun c32 => ?_)
                · first | rw [nI_eq (by omega) (by omega)] at c32 | rw [oI_eq9] at c32 | skip
                  refine PW.iload_n hX dX0_lastFirstOut_38 rfl rfl ?_
                  refine PW.aload_n hX dX0_lastFirstOut_39 rfl rfl ?_
                  refine PW.getfield hX fl_X0_36 dX0_lastFirstOut_40 rfl rfl ?_
                  refine PW.iload hX dX0_lastFirstOut_43 rfl ?_
                  refine PW.iaload hX dX0_lastFirstOut_45 rfl rfl rfl (by omega) ?_
                  refine PW.top (show _ = nI x by rw [hf]; rfl) ?_
                  refine PW.mmax hX ml_X0_98 dX0_lastFirstOut_46 rfl rfl rfl rfl ?_
                  refine PW.top em ?_
                  refine PW.istore_n hX dX0_lastFirstOut_49 rfl rfl ?_
                  first | refine PW.iinc hX dX0_lastFirstOut_50 rfl (iincN _) ?_ | refine PW.iinc hX dX0_lastFirstOut_50 rfl rfl ?_
                  refine PW.goto (tgt := 6) hX dX0_lastFirstOut_53 (by decide) ?_
                  exact nx
                · first | rw [nI_eq (by omega) (by omega)] at c32 | rw [oI_eq9] at c32 | skip
                  exact absurd c32 (nI_ne9 (by omega)) -- CLOSED
  refine PW.bipush (v := (-9)) hX dX0_lastFirstOut_0 (by decide) ?_
  refine PW.istore_n hX dX0_lastFirstOut_2 rfl rfl ?_
  refine PW.iconst (v := nI 0) hX dX0_lastFirstOut_3 (by decide) ?_
  refine PW.istore hX dX0_lastFirstOut_4 rfl ?_
  exact loop 61 0 (by omega) (by omega) none rfl
