def nFo (fo : Nat → Option Nat) (k m : Nat) : Nat → Option Nat := match fo k with | none => va_up fo k (some m) | some _ => fo
def dPut (P : Pl) (D : Dy) (m : Nat) : Dy := match (pOut P (dypr D) m).1 with
  | none => ((pOut P (dypr D) m).2, dyty D, dyos D, dyom D, dyn D, dyfo D, dyho D)
  | some k => ((pOut P (dypr D) m).2, (if plkd P = 3 then tBen (dyty D) k else tUp (dyty D) k), va_up (dyos D) (dyn D) k, va_up (dyom D) (dyn D) m, dyn D + 1, nFo (dyfo D) k m, dyho D)
def dTake (P : Pl) (m : Nat) (D : Dy) : Nat → Dy
  | 0 => D
  | t + 1 => if pltm P t = m then (dypr (dTake P m D t), gvT P (dyty (dTake P m D t)) (dyho (dTake P m D t)) t, dyos (dTake P m D t), dyom (dTake P m D t), dyn (dTake P m D t), dyfo (dTake P m D t), gvH P (dyty (dTake P m D t)) (dyho (dTake P m D t)) t) else dTake P m D t
def dMin (P : Pl) (D : Dy) (m : Nat) : Dy := dTake P m (dPut P D m) (plnt P)
theorem tUp_ok {P : Pl} {T : Ty} (to : TyOk P T) {k : Nat} (hk : isSh P k = true) : TyOk P (tUp T k) := by
  unfold tUp
  split
  · rename_i h
    refine ⟨Nat.succ_le_of_lt h, fun i hi => ?_⟩
    have hi : i < tyn T + 1 := hi
    show isSh P (va_up (tysh T) (tyn T) k i) = true
    by_cases e : i = tyn T
    · rw [e, va_up_self]; exact hk
    · rw [va_up_ne _ _ e]; exact to.2 i (by omega)
  · exact to
theorem tBen_ok {P : Pl} {T : Ty} (to : TyOk P T) {k : Nat} (hk : isSh P k = true) : TyOk P (tBen T k) := by
  unfold tBen
  split
  · rename_i h
    refine ⟨Nat.succ_le_of_lt h, fun i hi => ?_⟩
    have hi : i < tyn T + 1 := hi
    show isSh P (va_up (va_cpy (tysh T) (tysh T) 0 1 (tyn T)) 0 k i) = true
    by_cases e : i = 0
    · rw [e, va_up_self]; exact hk
    · rw [va_up_ne _ _ e, pk_cpy_in (by omega) (by omega)]
      exact to.2 _ (by omega)
  · exact to
theorem dPut_ok {P : Pl} (ok : PlOk P) {D : Dy} {m : Nat} (hm : m < 100) (dk : DyOk P D m) : DyOk P (dPut P D m) (m + 1) := by
  obtain ⟨d1, d2, d3, d4, d5, d6⟩ := dk
  obtain ⟨p1, p2⟩ := pOut_ok ok d1
  unfold dPut
  cases hk : (pOut P (dypr D) m).1 with
  | none => exact ⟨p1, d2, Nat.le_succ_of_le d3, d4, d5, d6⟩
  | some k =>
    have hs := p2 k hk
    refine ⟨p1, ?_, Nat.succ_le_succ d3, fun i hi => ?_, fun q x hq hx => ?_, d6⟩
    · show TyOk P (if plkd P = 3 then tBen (dyty D) k else tUp (dyty D) k)
      split
      · exact tBen_ok d2 hs
      · exact tUp_ok d2 hs
    · have hi : i < dyn D + 1 := hi
      show isSh P (va_up (dyos D) (dyn D) k i) = true ∧ va_up (dyom D) (dyn D) m i < 100
      by_cases e : i = dyn D
      · rw [e, va_up_self, va_up_self]; exact ⟨hs, hm⟩
      · rw [va_up_ne _ _ e, va_up_ne _ _ e]; exact d4 i (by omega)
    · have hx : nFo (dyfo D) k m q = some x := hx
      unfold nFo at hx
      cases hf : dyfo D k with
      | none =>
        rw [hf] at hx
        have hx : va_up (dyfo D) k (some m) q = some x := hx
        by_cases e : q = k
        · rw [e, va_up_self] at hx; cases hx; exact hm
        · rw [va_up_ne _ _ e] at hx; exact d5 q x hq hx
      | some y => rw [hf] at hx; exact d5 q x hq hx
theorem gvS_ho (k o f n m : Nat) (s : Nat → Nat) (ho : Nat → Option Nat) (Q : Option Nat → Prop) (h1 : Q (some o)) (hq : ∀ j, j < 60 → Q (ho j)) : ∀ i j, j < 60 → Q ((gvS k o f n m s ho i).2.2 j) := by
  intro i
  induction i with
  | zero => exact hq
  | succ i ih =>
    intro j hj
    rw [gvS]
    cases hT : tkn k f n m i ((gvS k o f n m s ho i).1 i) with
    | true =>
      show Q (va_up _ _ _ j)
      by_cases e : j = (gvS k o f n m s ho i).1 i
      · rw [e, va_up_self]; exact h1
      · rw [va_up_ne _ _ e]; exact ih j hj
    | false => exact ih j hj
theorem dTake_ok {P : Pl} (ok : PlOk P) {D : Dy} {q m : Nat} (dk : DyOk P D q) : ∀ t, t ≤ plnt P → DyOk P (dTake P m D t) q
  | 0, _ => dk
  | t + 1, ht => by
    have ih := dTake_ok ok (m := m) dk t (by omega)
    rw [dTake]
    split
    · obtain ⟨d1, d2, d3, d4, d5, d6⟩ := ih
      refine ⟨d1, gvT_ok d2 _ _, d3, d4, d5, fun k o hk h => ?_⟩
      have h6 := ok.2.2.2.2.2 t (by omega)
      have := gvS_ho (pltk P t) (pltw P t) (pltf P t) (tyn (dyty (dTake P m D t))) (jwB P (dyty (dTake P m D t)) (pltk P t) (pltw P t)) (tysh (dyty (dTake P m D t))) (dyho (dTake P m D t)) (fun z => ∀ x, z = some x → x < 4) (fun x e => by cases e; omega) (fun j hj x e => d6 j x hj e) (tyn (dyty (dTake P m D t))) k hk
      exact this o h
    · exact ih
theorem dMin_ok {P : Pl} (ok : PlOk P) {D : Dy} {m : Nat} (hm : m < 100) (dk : DyOk P D m) : DyOk P (dMin P D m) (m + 1) := dTake_ok ok (dPut_ok ok hm dk) _ (Nat.le_refl _)
theorem pm_passMinute (P : Pl) (ok : PlOk P) (D : Dy) (m : Nat) (hm : m < 100) (dk : DyOk P D m) : PM mu_X0_passMinute 5 0 0 [.ref 0, .ref 10, .int (nI m)] (dyB 0 D ++ plB 10 P) (eqP none (dyB 0 (dMin P D m) ++ plB 10 P)) := by
  have dpo := dPut_ok ok hm dk
  obtain ⟨d1, d2, d3, d4, d5, d6⟩ := dk
  obtain ⟨p1, p2⟩ := pOut_ok ok d1
  have ok' := ok
  obtain ⟨o1, o2, o3, o4, o5, o6⟩ := ok
  refine PM.start (Or.inl (by decide +kernel)) rfl rfl rfl ?_
  intro X hX hR hx hin
  have loop : ∀ k t : Nat, t ≤ plnt P → plnt P < t + k → PW X 63 [some (.ref 0), some (.ref 10), some (.int (nI m)), none, some (.int (nI t))] [] (dyB 0 (dTake P m (dPut P D m) t) ++ plB 10 P) 0 0 := by
    intro k
    induction k with
    | zero => intro t h1 h2; exact absurd h2 (by omega)
    | succ k ih =>
      intro t h1 h2
      by_cases ht : t = plnt P
      · subst ht
        refine PW.iload hX dX0_passMinute_63 rfl ?_
        refine PW.aload_n hX dX0_passMinute_65 rfl rfl ?_
        refine PW.getfield hX fl_X0_84 dX0_passMinute_66 rfl rfl ?_
        refine PW.icmp_ge (tgt := 103) hX dX0_passMinute_69 (by decide) (fun c69 => ?_) (fun c69 => ?_)
        · try rw [nI_leI (by omega) (by omega)] at c69
          refine PW.vret hX hR dX0_passMinute_103 rfl rfl ?_
          exact ⟨rfl, rfl⟩
        · try rw [nI_leI (by omega) (by omega)] at c69
          exfalso; omega -- CLOSED
      · have h6 := o6 t (by omega)
        have dt := dTake_ok ok' (m := m) dpo t (by omega)
        have nx := ih (t + 1) (by omega) (by omega)
        refine PW.iload hX dX0_passMinute_63 rfl ?_
        refine PW.aload_n hX dX0_passMinute_65 rfl rfl ?_
        refine PW.getfield hX fl_X0_84 dX0_passMinute_66 rfl rfl ?_
        refine PW.icmp_ge (tgt := 103) hX dX0_passMinute_69 (by decide) (fun c69 => ?_) (fun c69 => ?_)
        · try rw [nI_leI (by omega) (by omega)] at c69
          exfalso; omega -- CLOSED
        · try rw [nI_leI (by omega) (by omega)] at c69
          refine PW.aload_n hX dX0_passMinute_72 rfl rfl ?_
          refine PW.getfield hX fl_X0_87 dX0_passMinute_73 rfl rfl ?_
          refine PW.iload hX dX0_passMinute_76 rfl ?_
          refine PW.iaload hX dX0_passMinute_78 rfl rfl rfl (by omega) ?_
          refine PW.iload_n hX dX0_passMinute_79 rfl rfl ?_
          refine PW.icmp_ne (tgt := 97) hX dX0_passMinute_80 (by decide) (fun c80 => ?_) (fun c80 => ?_)
          · first | rw [nI_eq (by omega) (by omega)] at c80 | rw [oI_eq9] at c80 | skip
            have e : dTake P m (dPut P D m) (t + 1) = dTake P m (dPut P D m) t := by rw [dTake, if_neg c80]
            rw [e] at nx
            first | refine PW.iinc hX dX0_passMinute_97 rfl (iincN _) ?_ | refine PW.iinc hX dX0_passMinute_97 rfl rfl ?_
            refine PW.goto (tgt := 63) hX dX0_passMinute_100 (by decide) ?_
            exact nx
          · first | rw [nI_eq (by omega) (by omega)] at c80 | rw [oI_eq9] at c80 | skip
            have e : dTake P m (dPut P D m) (t + 1) = (dypr (dTake P m (dPut P D m) t), gvT P (dyty (dTake P m (dPut P D m) t)) (dyho (dTake P m (dPut P D m) t)) t, dyos (dTake P m (dPut P D m) t), dyom (dTake P m (dPut P D m) t), dyn (dTake P m (dPut P D m) t), dyfo (dTake P m (dPut P D m) t), gvH P (dyty (dTake P m (dPut P D m) t)) (dyho (dTake P m (dPut P D m) t)) t) := by rw [dTake, if_pos c80]
            rw [e] at nx
            refine PW.aload_n hX dX0_passMinute_83 rfl rfl ?_
            refine PW.getfield hX fl_X0_21 dX0_passMinute_84 rfl rfl ?_
            refine PW.aload_n hX dX0_passMinute_87 rfl rfl ?_
            refine PW.iload hX dX0_passMinute_88 rfl ?_
            refine PW.aload_n hX dX0_passMinute_90 rfl rfl ?_
            refine PW.getfield hX fl_X0_39 dX0_passMinute_91 rfl rfl ?_
            refine PW.vV2 (h1 := dyB 0 (dypr (dTake P m (dPut P D m) t), gvT P (dyty (dTake P m (dPut P D m) t)) (dyho (dTake P m (dPut P D m) t)) t, dyos (dTake P m (dPut P D m) t), dyom (dTake P m (dPut P D m) t), dyn (dTake P m (dPut P D m) t), dyfo (dTake P m (dPut P D m) t), gvH P (dyty (dTake P m (dPut P D m) t)) (dyho (dTake P m (dPut P D m) t)) t) ++ plB 10 P) hX ml_X0_90 (pm_giveTo P ok' (dyty (dTake P m (dPut P D m) t)) dt.2.1 (dyho (dTake P m (dPut P D m) t)) t (by omega)) dX0_passMinute_94 [3, 4, 5, 10, 11, 12, 13, 14, 15, 16, 17, 9] [0, 1, 2, 6, 7, 8] 18 rfl rfl rfl rfl rfl rfl rfl rfl rfl rfl rfl rfl rfl rfl rfl rfl rfl rfl (by decide) ?_
            first | refine PW.iinc hX dX0_passMinute_97 rfl (iincN _) ?_ | refine PW.iinc hX dX0_passMinute_97 rfl rfl ?_
            refine PW.goto (tgt := 63) hX dX0_passMinute_100 (by decide) ?_
            exact nx
  have h60 : PW X 60 [some (.ref 0), some (.ref 10), some (.int (nI m)), none, none] [] (dyB 0 (dPut P D m) ++ plB 10 P) 0 0 := by
    refine PW.iconst (v := nI 0) hX dX0_passMinute_60 (by decide) ?_
    refine PW.istore hX dX0_passMinute_61 rfl ?_
    exact loop (plnt P + 1) 0 (by omega) (by omega)
  cases hk : (pOut P (dypr D) m).1 with
  | none =>
    have e : dPut P D m = ((pOut P (dypr D) m).2, dyty D, dyos D, dyom D, dyn D, dyfo D, dyho D) := by unfold dPut; rw [hk]
    rw [e] at h60
    have ef : isShI P (-9) = false := by unfold isShI; rw [decide_eq_true (by decide)]; rfl
    refine PW.aload_n hX dX0_passMinute_0 rfl rfl ?_
    refine PW.getfield hX fl_X0_12 dX0_passMinute_1 rfl rfl ?_
    refine PW.aload_n hX dX0_passMinute_4 rfl rfl ?_
    refine PW.iload_n hX dX0_passMinute_5 rfl rfl ?_
    refine PW.vI2 (h1 := dyB 0 ((pOut P (dypr D) m).2, dyty D, dyos D, dyom D, dyn D, dyfo D, dyho D) ++ plB 10 P) hX ml_X0_60 (pm_putOut P ok' (dypr D) m (by omega) d1 m hm) dX0_passMinute_6 [1, 2, 10, 11, 12, 13, 14, 15, 16, 17] [0, 3, 4, 5, 6, 7, 8, 9] 18 rfl rfl rfl rfl rfl rfl rfl rfl rfl rfl rfl rfl rfl rfl rfl rfl rfl rfl (by decide) ?_
    refine PW.top (show _ = (-9 : Int32) by rw [hk]; rfl) ?_
    refine PW.istore_n hX dX0_passMinute_9 rfl rfl ?_
    refine PW.aload_n hX dX0_passMinute_10 rfl rfl ?_
    refine PW.iload_n hX dX0_passMinute_11 rfl rfl ?_
    refine PW.vR hX ml_X0_64 (pm_hasSheet P ok' (-9)) dX0_passMinute_12 [10, 11, 12, 13, 14, 15, 16, 17] rfl rfl rfl rfl rfl rfl rfl rfl rfl rfl rfl rfl rfl ?_
    refine PW.top (congrArg bI ef) ?_
    refine PW.if_eq (tgt := 60) hX dX0_passMinute_15 (by decide) (fun c15 => ?_) (fun c15 => ?_)
    · first | rw [bI_d0] at c15 | rw [bI_eq0] at c15 | rw [nI_eq0 (by omega)] at c15 | skip
      refine PW.clr 3 ?_
      exact h60
    · first | rw [bI_d0] at c15 | rw [bI_eq0] at c15 | rw [nI_eq0 (by omega)] at c15 | skip
      exact absurd rfl c15 -- CLOSED
  | some k =>
    have hs := p2 k hk
    have hl := isSh_lt ok' hs
    have ef : isShI P (nI k) = true := by rw [isShI_nI (by omega)]; exact hs
    have e : dPut P D m = ((pOut P (dypr D) m).2, (if plkd P = 3 then tBen (dyty D) k else tUp (dyty D) k), va_up (dyos D) (dyn D) k, va_up (dyom D) (dyn D) m, dyn D + 1, nFo (dyfo D) k m, dyho D) := by unfold dPut; rw [hk]
    rw [e] at h60
    refine PW.aload_n hX dX0_passMinute_0 rfl rfl ?_
    refine PW.getfield hX fl_X0_12 dX0_passMinute_1 rfl rfl ?_
    refine PW.aload_n hX dX0_passMinute_4 rfl rfl ?_
    refine PW.iload_n hX dX0_passMinute_5 rfl rfl ?_
    refine PW.vI2 (h1 := dyB 0 ((pOut P (dypr D) m).2, dyty D, dyos D, dyom D, dyn D, dyfo D, dyho D) ++ plB 10 P) hX ml_X0_60 (pm_putOut P ok' (dypr D) m (by omega) d1 m hm) dX0_passMinute_6 [1, 2, 10, 11, 12, 13, 14, 15, 16, 17] [0, 3, 4, 5, 6, 7, 8, 9] 18 rfl rfl rfl rfl rfl rfl rfl rfl rfl rfl rfl rfl rfl rfl rfl rfl rfl rfl (by decide) ?_
    refine PW.top (show _ = nI k by rw [hk]; rfl) ?_
    refine PW.istore_n hX dX0_passMinute_9 rfl rfl ?_
    refine PW.aload_n hX dX0_passMinute_10 rfl rfl ?_
    refine PW.iload_n hX dX0_passMinute_11 rfl rfl ?_
    refine PW.vR hX ml_X0_64 (pm_hasSheet P ok' (nI k)) dX0_passMinute_12 [10, 11, 12, 13, 14, 15, 16, 17] rfl rfl rfl rfl rfl rfl rfl rfl rfl rfl rfl rfl rfl ?_
    refine PW.top (congrArg bI ef) ?_
    refine PW.if_eq (tgt := 60) hX dX0_passMinute_15 (by decide) (fun c15 => ?_) (fun c15 => ?_)
    · first | rw [bI_d0] at c15 | rw [bI_eq0] at c15 | rw [nI_eq0 (by omega)] at c15 | skip
      exact absurd c15 (by decide) -- CLOSED
    · first | rw [bI_d0] at c15 | rw [bI_eq0] at c15 | rw [nI_eq0 (by omega)] at c15 | skip
      refine PW.aload_n hX dX0_passMinute_18 rfl rfl ?_
      refine PW.getfield hX fl_X0_32 dX0_passMinute_19 rfl rfl ?_
      refine PW.top (show _ = nI (dyn D) from rfl) ?_
      refine PW.bipush (v := nI 100) hX dX0_passMinute_22 (by decide) ?_
      refine PW.heap (h' := dyB 0 ((pOut P (dypr D) m).2, dyty D, dyos D, dyom D, dyn D, dyfo D, dyho D) ++ plB 10 P) rfl ?_
      refine PW.icmp_ge (tgt := 60) hX dX0_passMinute_24 (by decide) (fun c24 => ?_) (fun c24 => ?_)
      · try rw [nI_leI (by omega) (by omega)] at c24
        exfalso; omega -- CLOSED
      · try rw [nI_leI (by omega) (by omega)] at c24
        refine PW.aload_n hX dX0_passMinute_27 rfl rfl ?_
        refine PW.iload_n hX dX0_passMinute_28 rfl rfl ?_
        refine PW.iload_n hX dX0_passMinute_29 rfl rfl ?_
        refine PW.vV2 (h1 := dyB 0 (dNote ((pOut P (dypr D) m).2, dyty D, dyos D, dyom D, dyn D, dyfo D, dyho D) k m) ++ plB 10 P) hX ml_X0_70 (pm_noteOut ((pOut P (dypr D) m).2, dyty D, dyos D, dyom D, dyn D, dyfo D, dyho D) k m (show dyn D < 100 by omega) (by omega) (fun x hx => d5 k x (by omega) hx)) dX0_passMinute_30 [0, 1, 2, 3, 4, 5, 6, 7, 8, 9] [10, 11, 12, 13, 14, 15, 16, 17] 18 rfl rfl rfl rfl rfl rfl rfl rfl rfl rfl rfl rfl rfl rfl rfl rfl rfl rfl (by decide) ?_
        refine PW.aload_n hX dX0_passMinute_33 rfl rfl ?_
        refine PW.getfield hX fl_X0_74 dX0_passMinute_34 rfl rfl ?_
        refine PW.iconst (v := nI 3) hX dX0_passMinute_37 (by decide) ?_
        refine PW.icmp_ne (tgt := 52) hX dX0_passMinute_38 (by decide) (fun c38 => ?_) (fun c38 => ?_)
        · first | rw [nI_eq (by omega) (by omega)] at c38 | rw [oI_eq9] at c38 | skip
          rw [if_neg c38] at h60
          refine PW.aload_n hX dX0_passMinute_52 rfl rfl ?_
          refine PW.getfield hX fl_X0_21 dX0_passMinute_53 rfl rfl ?_
          refine PW.iload_n hX dX0_passMinute_56 rfl rfl ?_
          refine PW.vV2 (h1 := dyB 0 ((pOut P (dypr D) m).2, tUp (dyty D) k, va_up (dyos D) (dyn D) k, va_up (dyom D) (dyn D) m, dyn D + 1, nFo (dyfo D) k m, dyho D) ++ plB 10 P) hX ml_X0_81 (pm_putUpon (dyty D) d2.1 k) dX0_passMinute_57 [3, 4, 5] [0, 1, 2, 6, 7, 8, 9, 10, 11, 12, 13, 14, 15, 16, 17] 18 rfl rfl rfl rfl rfl rfl rfl rfl rfl rfl rfl rfl rfl rfl rfl rfl rfl rfl (by decide) ?_
          refine PW.clr 3 ?_
          exact h60
        · first | rw [nI_eq (by omega) (by omega)] at c38 | rw [oI_eq9] at c38 | skip
          rw [if_pos c38] at h60
          refine PW.aload_n hX dX0_passMinute_41 rfl rfl ?_
          refine PW.getfield hX fl_X0_21 dX0_passMinute_42 rfl rfl ?_
          refine PW.iload_n hX dX0_passMinute_45 rfl rfl ?_
          refine PW.vV2 (h1 := dyB 0 ((pOut P (dypr D) m).2, tBen (dyty D) k, va_up (dyos D) (dyn D) k, va_up (dyom D) (dyn D) m, dyn D + 1, nFo (dyfo D) k m, dyho D) ++ plB 10 P) hX ml_X0_77 (pm_putBeneath (dyty D) d2.1 k) dX0_passMinute_46 [3, 4, 5] [0, 1, 2, 6, 7, 8, 9, 10, 11, 12, 13, 14, 15, 16, 17] 18 rfl rfl rfl rfl rfl rfl rfl rfl rfl rfl rfl rfl rfl rfl rfl rfl rfl rfl (by decide) ?_
          refine PW.goto (tgt := 60) hX dX0_passMinute_49 (by decide) ?_
          refine PW.clr 3 ?_
          exact h60
/-- n minutes of a day -/
def dRun (P : Pl) (D : Dy) : Nat → Dy
  | 0 => dBeg P D
  | n + 1 => dMin P (dRun P D n) n
theorem dRun_ok {P : Pl} (ok : PlOk P) (D : Dy) : ∀ n, n ≤ 100 → DyOk P (dRun P D n) n
  | 0, _ => dBeg_ok P D
  | n + 1, h => dMin_ok ok (by omega) (dRun_ok ok D n (by omega))
theorem pm_passThrough (P : Pl) (ok : PlOk P) (D : Dy) (m : Nat) (hm : m < 100) : PM mu_X0_passThrough 6 0 0 [.ref 0, .ref 10, .int (nI m)] (dyB 0 D ++ plB 10 P) (eqP none (dyB 0 (dRun P D (m + 1)) ++ plB 10 P)) := by
  refine PM.start (Or.inl (by decide +kernel)) rfl rfl rfl ?_
  intro X hX hR hx hin
  have loop : ∀ k i : Nat, i ≤ m + 1 → m + 1 < i + k → PW X 7 [some (.ref 0), some (.ref 10), some (.int (nI m)), some (.int (nI i))] [] (dyB 0 (dRun P D i) ++ plB 10 P) 0 0 := by
    intro k
    induction k with
    | zero => intro i h1 h2; exact absurd h2 (by omega)
    | succ k ih =>
      intro i h1 h2
      by_cases hi : i = m + 1
      · subst hi
        refine PW.iload_n hX dX0_passThrough_7 rfl rfl ?_
        refine PW.iload_n hX dX0_passThrough_8 rfl rfl ?_
        refine PW.icmp_gt (tgt := 24) hX dX0_passThrough_9 (by decide) (fun c9 => ?_) (fun c9 => ?_)
        · try rw [nI_ltI (by omega) (by omega)] at c9
          refine PW.vret hX hR dX0_passThrough_24 rfl rfl ?_
          exact ⟨rfl, rfl⟩
        · try rw [nI_ltI (by omega) (by omega)] at c9
          exfalso; omega -- CLOSED
      · have nx := ih (i + 1) (by omega) (by omega)
        have dk := dRun_ok ok D i (by omega)
        rw [dRun] at nx
        generalize dRun P D i = Z at nx dk ⊢
        have cM := pm_passMinute P ok Z i (by omega) dk
        generalize dMin P Z i = Z2 at nx cM
        refine PW.iload_n hX dX0_passThrough_7 rfl rfl ?_
        refine PW.iload_n hX dX0_passThrough_8 rfl rfl ?_
        refine PW.icmp_gt (tgt := 24) hX dX0_passThrough_9 (by decide) (fun c9 => ?_) (fun c9 => ?_)
        · try rw [nI_ltI (by omega) (by omega)] at c9
          exfalso; omega -- CLOSED
        · try rw [nI_ltI (by omega) (by omega)] at c9
          refine PW.aload_n hX dX0_passThrough_12 rfl rfl ?_
          refine PW.aload_n hX dX0_passThrough_13 rfl rfl ?_
          refine PW.iload_n hX dX0_passThrough_14 rfl rfl ?_
          refine PW.vVi hX ml_X0_56 (id cM) dX0_passThrough_15 18 rfl rfl rfl rfl rfl rfl rfl rfl rfl rfl rfl rfl rfl rfl rfl ?_
          first | refine PW.iinc hX dX0_passThrough_18 rfl (iincN _) ?_ | refine PW.iinc hX dX0_passThrough_18 rfl rfl ?_
          refine PW.goto (tgt := 7) hX dX0_passThrough_21 (by decide) ?_
          exact nx
  refine PW.aload_n hX dX0_passThrough_0 rfl rfl ?_
  refine PW.aload_n hX dX0_passThrough_1 rfl rfl ?_
  refine PW.vVi hX ml_X0_55 (pm_dbegin P ok D) dX0_passThrough_2 18 rfl rfl rfl rfl rfl rfl rfl rfl rfl rfl rfl rfl rfl rfl rfl ?_
  refine PW.iconst (v := nI 0) hX dX0_passThrough_5 (by decide) ?_
  refine PW.istore_n hX dX0_passThrough_6 rfl rfl ?_
  exact loop (m + 2) 0 (by omega) (by omega)
