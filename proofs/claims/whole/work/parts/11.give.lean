def tkn (k f n m i s : Nat) : Bool := decide ((k = 2 → n ≤ i + f) ∧ i < (if k = 4 then f else n)) && m.testBit (s / 10)
def gvS (k o f n m : Nat) (s : Nat → Nat) (ho : Nat → Option Nat) : Nat → (Nat → Nat) × Nat × (Nat → Option Nat)
  | 0 => (s, 0, ho)
  | i + 1 => bif tkn k f n m i ((gvS k o f n m s ho i).1 i) then ((gvS k o f n m s ho i).1, (gvS k o f n m s ho i).2.1, va_up (gvS k o f n m s ho i).2.2 ((gvS k o f n m s ho i).1 i) (some o)) else (va_up (gvS k o f n m s ho i).1 (gvS k o f n m s ho i).2.1 ((gvS k o f n m s ho i).1 i), (gvS k o f n m s ho i).2.1 + 1, (gvS k o f n m s ho i).2.2)
theorem gvS_inv (k o f n m : Nat) (s : Nat → Nat) (ho : Nat → Option Nat) : ∀ i, (gvS k o f n m s ho i).2.1 ≤ i ∧ (∀ j, i ≤ j → (gvS k o f n m s ho i).1 j = s j) ∧ ∀ (Q : Nat → Prop), (∀ j, j < i → Q (s j)) → ∀ j, j < (gvS k o f n m s ho i).2.1 → Q ((gvS k o f n m s ho i).1 j) := by
  intro i
  induction i with
  | zero => exact ⟨Nat.le_refl _, fun _ _ => rfl, fun Q _ j hj => absurd hj (Nat.not_lt_zero _)⟩
  | succ i ih =>
    obtain ⟨h1, h2, h3⟩ := ih
    rw [gvS]
    cases hT : tkn k f n m i ((gvS k o f n m s ho i).1 i) with
    | true => exact ⟨Nat.le_succ_of_le h1, fun j hj => h2 j (by omega), fun Q hQ j hj => h3 Q (fun j hj => hQ j (by omega)) j hj⟩
    | false =>
      refine ⟨Nat.succ_le_succ h1, fun j hj => ?_, fun Q hQ j hj => ?_⟩
      · show va_up _ _ _ j = _
        rw [va_up_ne _ _ (by omega)]
        exact h2 j (by omega)
      · show Q (va_up _ _ _ j)
        have hj : j < (gvS k o f n m s ho i).2.1 + 1 := hj
        by_cases hjs : j = (gvS k o f n m s ho i).2.1
        · rw [hjs, va_up_self, h2 i (Nat.le_refl _)]
          exact hQ i (by omega)
        · rw [va_up_ne _ _ hjs]
          exact h3 Q (fun j hj => hQ j (by omega)) j (by omega)
/-- a taker takes -/
def gvR (P : Pl) (T : Ty) (ho : Nat → Option Nat) (t : Nat) : (Nat → Nat) × Nat × (Nat → Option Nat) := gvS (pltk P t) (pltw P t) (pltf P t) (tyn T) (jwB P T (pltk P t) (pltw P t)) (tysh T) ho (tyn T)
def gvT (P : Pl) (T : Ty) (ho : Nat → Option Nat) (t : Nat) : Ty := ((gvR P T ho t).1, tynl (jwT T (pltk P t)), (gvR P T ho t).2.1)
def gvH (P : Pl) (T : Ty) (ho : Nat → Option Nat) (t : Nat) : Nat → Option Nat := (gvR P T ho t).2.2
theorem gvT_ok {P : Pl} {T : Ty} (to : TyOk P T) (ho : Nat → Option Nat) (t : Nat) : TyOk P (gvT P T ho t) := by
  obtain ⟨h1, h2, h3⟩ := gvS_inv (pltk P t) (pltw P t) (pltf P t) (tyn T) (jwB P T (pltk P t) (pltw P t)) (tysh T) ho (tyn T)
  exact ⟨Nat.le_trans h1 to.1, h3 (fun k => isSh P k = true) to.2⟩
theorem jwB_lt (P : Pl) (ok : PlOk P) (T : Ty) (k o : Nat) : jwB P T k o < 2 ^ 6 := by
  have hb := ofB_lt P ok.1 o
  unfold jwB
  split
  · exact hb
  · split
    · split
      · decide
      · exact hb
    · split
      · exact Nat.and_lt_two_pow _ hb
      · decide
theorem pm_giveTo (P : Pl) (ok : PlOk P) (T : Ty) (to : TyOk P T) (ho : Nat → Option Nat) (t : Nat) (ht : t < plnt P) : PM mu_X5_giveTo 3 0 0 [.ref 0, .ref 3, .int (nI t), .ref 11] (tyB 0 T ++ plB 3 P ++ [.inl (0, 60, fun j => oI (ho j))]) (eqP none (tyB 0 (gvT P T ho t) ++ plB 3 P ++ [.inl (0, 60, fun j => oI (gvH P T ho t j))])) := by
  have ok' := ok
  have to' := to
  obtain ⟨o1, o2, o3, o4, o5, o6⟩ := ok
  obtain ⟨t1, t2⟩ := to
  have h6 := o6 t ht
  have hm := jwB_lt P ok' T (pltk P t) (pltw P t)
  refine PM.start (Or.inl (by decide +kernel)) rfl rfl rfl ?_
  intro X hX hR hx hin
  have loop : ∀ v : Int32, (∀ i, i < 1000 → (nI i < v ↔ (pltk P t = 2 ∧ i + pltf P t < tyn T))) → ∀ k i : Nat, i ≤ tyn T → tyn T < i + k → ∀ Z, Z = gvS (pltk P t) (pltw P t) (pltf P t) (tyn T) (jwB P T (pltk P t) (pltw P t)) (tysh T) ho i → PW X 77 [some (.ref 0), some (.ref 3), some (.int (nI t)), some (.ref 11), some (.int (nI (pltk P t))), some (.int (nI (pltw P t))), some (.int (nI (pltf P t))), some (.int v), some (.int (nI (if pltk P t = 4 then pltf P t else tyn T))), some (.int (nI (jwB P T (pltk P t) (pltw P t)))), some (.int (nI Z.2.1)), some (.int (nI i)), none] [] (tyB 0 (Z.1, tynl (jwT T (pltk P t)), tyn T) ++ plB 3 P ++ [.inl (0, 60, fun j => oI (Z.2.2 j))]) 0 0 := by
    intro v hv k
    induction k with
    | zero => intro i h1 h2; exact absurd h2 (by omega)
    | succ k ih =>
      intro i h1 h2 Z hZ
      obtain ⟨z1, z2, z3⟩ := gvS_inv (pltk P t) (pltw P t) (pltf P t) (tyn T) (jwB P T (pltk P t) (pltw P t)) (tysh T) ho i
      rw [← hZ] at z1 z2
      by_cases hi : i = tyn T
      · subst hi
        refine PW.iload hX dX5_giveTo_77 rfl ?_
        refine PW.aload_n hX dX5_giveTo_79 rfl rfl ?_
        refine PW.getfield hX fl_X5_18 dX5_giveTo_80 rfl rfl ?_
        refine PW.top (show _ = nI (tyn T) from rfl) ?_
        refine PW.icmp_ge (tgt := 149) hX dX5_giveTo_83 (by decide) (fun c83 => ?_) (fun c83 => ?_)
        · try rw [nI_leI (by omega) (by omega)] at c83
          refine PW.aload_n hX dX5_giveTo_149 rfl rfl ?_
          refine PW.iload hX dX5_giveTo_150 rfl ?_
          refine PW.putI hX fp_X5_18 dX5_giveTo_152 rfl rfl ?_
          refine PW.vret hX hR dX5_giveTo_155 rfl rfl ?_
          exact ⟨rfl, by subst hZ; rfl⟩
        · try rw [nI_leI (by omega) (by omega)] at c83
          exfalso; omega -- CLOSED
      · have hs := isSh_lt ok' (t2 i (by omega))
        have ez : Z.1 i = tysh T i := z2 i (Nat.le_refl _)
        have hend : (if pltk P t = 4 then pltf P t else tyn T) < 2 ^ 31 := by split <;> omega
        have nxt : ∀ Z', Z' = gvS (pltk P t) (pltw P t) (pltf P t) (tyn T) (jwB P T (pltk P t) (pltw P t)) (tysh T) ho (i + 1) → _ := ih (i + 1) (by omega) (by omega)
        have eT : tkn (pltk P t) (pltf P t) (tyn T) (jwB P T (pltk P t) (pltw P t)) i (tysh T i) = true → gvS (pltk P t) (pltw P t) (pltf P t) (tyn T) (jwB P T (pltk P t) (pltw P t)) (tysh T) ho (i + 1) = (Z.1, Z.2.1, va_up Z.2.2 (tysh T i) (some (pltw P t))) := by
          intro h
          rw [gvS, ← hZ, ez, h]
          rfl
        have eF : tkn (pltk P t) (pltf P t) (tyn T) (jwB P T (pltk P t) (pltw P t)) i (tysh T i) = false → gvS (pltk P t) (pltw P t) (pltf P t) (tyn T) (jwB P T (pltk P t) (pltw P t)) (tysh T) ho (i + 1) = (va_up Z.1 Z.2.1 (tysh T i), Z.2.1 + 1, Z.2.2) := by
          intro h
          rw [gvS, ← hZ, ez, h]
          rfl
        have h131 : tkn (pltk P t) (pltf P t) (tyn T) (jwB P T (pltk P t) (pltw P t)) i (tysh T i) = false → PW X 131 [some (.ref 0), some (.ref 3), some (.int (nI t)), some (.ref 11), some (.int (nI (pltk P t))), some (.int (nI (pltw P t))), some (.int (nI (pltf P t))), some (.int v), some (.int (nI (if pltk P t = 4 then pltf P t else tyn T))), some (.int (nI (jwB P T (pltk P t) (pltw P t)))), some (.int (nI Z.2.1)), some (.int (nI i)), some (.int (nI (tysh T i)))] [] (tyB 0 (Z.1, tynl (jwT T (pltk P t)), tyn T) ++ plB 3 P ++ [.inl (0, 60, fun j => oI (Z.2.2 j))]) 0 0 := by
          intro h
          have nx := nxt _ (eF h).symm
          refine PW.aload_n hX dX5_giveTo_131 rfl rfl ?_
          refine PW.getfield hX fl_X5_9 dX5_giveTo_132 rfl rfl ?_
          refine PW.iload hX dX5_giveTo_135 rfl ?_
          refine PW.iload hX dX5_giveTo_137 rfl ?_
          refine PW.iastore hX dX5_giveTo_139 rfl rfl rfl (by omega) ?_
          refine PW.heap (h' := tyB 0 (va_up Z.1 Z.2.1 (tysh T i), tynl (jwT T (pltk P t)), tyn T) ++ plB 3 P ++ [.inl (0, 60, fun j => oI (Z.2.2 j))]) ((congrArg (fun f => (tyB 0 (Z.1, tynl (jwT T (pltk P t)), tyn T) ++ plB 3 P ++ [(Sum.inl (0, 60, fun j => oI (Z.2.2 j)) : PCell)]).set 1 (Sum.inl (0, 100, f))) (upd_nI Z.1 Z.2.1 (tysh T i))).trans rfl) ?_
          first | refine PW.iinc hX dX5_giveTo_140 rfl (iincN _) ?_ | refine PW.iinc hX dX5_giveTo_140 rfl rfl ?_
          first | refine PW.iinc hX dX5_giveTo_143 rfl (iincN _) ?_ | refine PW.iinc hX dX5_giveTo_143 rfl rfl ?_
          refine PW.goto (tgt := 77) hX dX5_giveTo_146 (by decide) ?_
          refine PW.clr 12 ?_
          exact nx
        refine PW.iload hX dX5_giveTo_77 rfl ?_
        refine PW.aload_n hX dX5_giveTo_79 rfl rfl ?_
        refine PW.getfield hX fl_X5_18 dX5_giveTo_80 rfl rfl ?_
        refine PW.top (show _ = nI (tyn T) from rfl) ?_
        refine PW.icmp_ge (tgt := 149) hX dX5_giveTo_83 (by decide) (fun c83 => ?_) (fun c83 => ?_)
        · try rw [nI_leI (by omega) (by omega)] at c83
          exfalso; omega -- CLOSED
        · try rw [nI_leI (by omega) (by omega)] at c83
          refine PW.aload_n hX dX5_giveTo_86 rfl rfl ?_
          refine PW.getfield hX fl_X5_9 dX5_giveTo_87 rfl rfl ?_
          refine PW.iload hX dX5_giveTo_90 rfl ?_
          refine PW.iaload hX dX5_giveTo_92 rfl rfl rfl (by omega) ?_
          refine PW.top (congrArg nI ez) ?_
          refine PW.istore hX dX5_giveTo_93 rfl ?_
          refine PW.iload hX dX5_giveTo_95 rfl ?_
          refine PW.iload hX dX5_giveTo_97 rfl ?_
          refine PW.icmp_lt (tgt := 131) hX dX5_giveTo_99 (by decide) (fun c99 => ?_) (fun c99 => ?_)
          · try rw [nI_ltI (by omega) (by omega)] at c99
            rw [hv i (by omega)] at c99
            exact h131 (by unfold tkn; rw [decide_eq_false (fun q => by have := q.1 c99.1; omega)]; rfl)
          · try rw [nI_ltI (by omega) (by omega)] at c99
            rw [hv i (by omega)] at c99
            refine PW.iload hX dX5_giveTo_102 rfl ?_
            refine PW.iload hX dX5_giveTo_104 rfl ?_
            refine PW.icmp_ge (tgt := 131) hX dX5_giveTo_106 (by decide) (fun c106 => ?_) (fun c106 => ?_)
            · try rw [nI_leI (by omega) (by omega)] at c106
              have c106' : ¬ i < (if pltk P t = 4 then pltf P t else tyn T) := by omega
              exact h131 (by unfold tkn; rw [decide_eq_false (fun q => c106' q.2)]; rfl)
            · try rw [nI_leI (by omega) (by omega)] at c106
              have hd : ((pltk P t = 2 → tyn T ≤ i + pltf P t) ∧ i < (if pltk P t = 4 then pltf P t else tyn T)) := ⟨fun q => by by_cases h : i + pltf P t < tyn T; exact absurd ⟨q, h⟩ c99; omega, by omega⟩
              refine PW.iload hX dX5_giveTo_109 rfl ?_
              refine PW.iload hX dX5_giveTo_111 rfl ?_
              refine PW.bipush (v := nI 10) hX dX5_giveTo_113 (by decide) ?_
              refine PW.idiv hX dX5_giveTo_115 (by decide) ?_
              refine PW.top (div10 (show tysh T i < 2 ^ 31 by omega)) ?_
              refine PW.nR hX ml_X5_53 (pm_hasBit (jwB P T (pltk P t) (pltw P t)) (tysh T i / 10) (by omega) (by omega)) dX5_giveTo_116 rfl rfl rfl rfl rfl rfl ?_
              refine PW.if_eq (tgt := 131) hX dX5_giveTo_119 (by decide) (fun c119 => ?_) (fun c119 => ?_)
              · first | rw [bI_d0] at c119 | rw [bI_eq0] at c119 | rw [nI_eq0 (by omega)] at c119 | skip
                exact h131 (by unfold tkn; rw [c119, Bool.and_false])
              · first | rw [bI_d0] at c119 | rw [bI_eq0] at c119 | rw [nI_eq0 (by omega)] at c119 | skip
                have nx := nxt _ (eT (by unfold tkn; rw [decide_eq_true hd, Bool.true_and]; exact (Bool.not_eq_false _).mp c119)).symm
                refine PW.aload_n hX dX5_giveTo_122 rfl rfl ?_
                refine PW.iload hX dX5_giveTo_123 rfl ?_
                refine PW.iload hX dX5_giveTo_125 rfl ?_
                refine PW.iastore hX dX5_giveTo_127 rfl rfl rfl (by omega) ?_
                refine PW.heap (h' := tyB 0 (Z.1, tynl (jwT T (pltk P t)), tyn T) ++ plB 3 P ++ [.inl (0, 60, fun j => oI (va_up Z.2.2 (tysh T i) (some (pltw P t)) j))]) ((congrArg (fun f => (tyB 0 (Z.1, tynl (jwT T (pltk P t)), tyn T) ++ plB 3 P ++ [(Sum.inl (0, 60, fun j => oI (Z.2.2 j)) : PCell)]).set 11 (Sum.inl (0, 60, f))) (upd_oI Z.2.2 (tysh T i) (pltw P t))).trans rfl) ?_
                refine PW.goto (tgt := 143) hX dX5_giveTo_128 (by decide) ?_
                first | refine PW.iinc hX dX5_giveTo_143 rfl (iincN _) ?_ | refine PW.iinc hX dX5_giveTo_143 rfl rfl ?_
                refine PW.goto (tgt := 77) hX dX5_giveTo_146 (by decide) ?_
                refine PW.clr 12 ?_
                exact nx
  have h58 : ∀ v : Int32, (∀ i, i < 1000 → (nI i < v ↔ (pltk P t = 2 ∧ i + pltf P t < tyn T))) → PW X 58 [some (.ref 0), some (.ref 3), some (.int (nI t)), some (.ref 11), some (.int (nI (pltk P t))), some (.int (nI (pltw P t))), some (.int (nI (pltf P t))), some (.int v), none, none, none, none, none] [.int (nI (if pltk P t = 4 then pltf P t else tyn T))] (tyB 0 T ++ plB 3 P ++ [.inl (0, 60, fun j => oI (ho j))]) 0 0 := by
    intro v hv
    refine PW.istore hX dX5_giveTo_58 rfl ?_
    refine PW.aload_n hX dX5_giveTo_60 rfl rfl ?_
    refine PW.aload_n hX dX5_giveTo_61 rfl rfl ?_
    refine PW.iload hX dX5_giveTo_62 rfl ?_
    refine PW.iload hX dX5_giveTo_64 rfl ?_
    refine PW.vI (h1 := tyB 0 (jwT T (pltk P t)) ++ plB 3 P ++ [.inl (0, 60, fun j => oI (ho j))]) hX ml_X5_49 (pm_jobsWanted P ok' T to' (pltk P t) (pltw P t) (by omega) (by omega)) dX5_giveTo_66 [0, 1, 2, 3, 4, 5, 6, 7, 8, 9, 10] rfl rfl rfl rfl rfl rfl rfl rfl rfl rfl rfl rfl rfl rfl rfl ?_
    refine PW.istore hX dX5_giveTo_69 rfl ?_
    refine PW.iconst (v := nI 0) hX dX5_giveTo_71 (by decide) ?_
    refine PW.istore hX dX5_giveTo_72 rfl ?_
    refine PW.iconst (v := nI 0) hX dX5_giveTo_74 (by decide) ?_
    refine PW.istore hX dX5_giveTo_75 rfl ?_
    have lp := loop v hv (tyn T + 1) 0 (by omega) (by omega) (tysh T, 0, ho) rfl
    refine PW.heap ?_ lp
    unfold jwT
    split <;> rfl
  have h41 : ∀ v : Int32, (∀ i, i < 1000 → (nI i < v ↔ (pltk P t = 2 ∧ i + pltf P t < tyn T))) → PW X 41 [some (.ref 0), some (.ref 3), some (.int (nI t)), some (.ref 11), some (.int (nI (pltk P t))), some (.int (nI (pltw P t))), some (.int (nI (pltf P t))), none, none, none, none, none, none] [.int v] (tyB 0 T ++ plB 3 P ++ [.inl (0, 60, fun j => oI (ho j))]) 0 0 := by
    intro v hv
    have h58 := h58 v hv
    refine PW.istore hX dX5_giveTo_41 rfl ?_
    refine PW.iload hX dX5_giveTo_43 rfl ?_
    refine PW.iconst (v := nI 4) hX dX5_giveTo_45 (by decide) ?_
    refine PW.icmp_ne (tgt := 54) hX dX5_giveTo_46 (by decide) (fun c46 => ?_) (fun c46 => ?_)
    · first | rw [nI_eq (by omega) (by omega)] at c46 | rw [oI_eq9] at c46 | skip
      refine PW.aload_n hX dX5_giveTo_54 rfl rfl ?_
      refine PW.getfield hX fl_X5_18 dX5_giveTo_55 rfl rfl ?_
      rw [if_neg c46] at h58
      exact h58
    · first | rw [nI_eq (by omega) (by omega)] at c46 | rw [oI_eq9] at c46 | skip
      refine PW.iload hX dX5_giveTo_49 rfl ?_
      refine PW.goto (tgt := 58) hX dX5_giveTo_51 (by decide) ?_
      rw [if_pos c46] at h58
      exact h58
  refine PW.aload_n hX dX5_giveTo_0 rfl rfl ?_
  refine PW.getfield hX fl_X5_38 dX5_giveTo_1 rfl rfl ?_
  refine PW.iload_n hX dX5_giveTo_4 rfl rfl ?_
  refine PW.iaload hX dX5_giveTo_5 rfl rfl rfl (by omega) ?_
  refine PW.istore hX dX5_giveTo_6 rfl ?_
  refine PW.aload_n hX dX5_giveTo_8 rfl rfl ?_
  refine PW.getfield hX fl_X5_43 dX5_giveTo_9 rfl rfl ?_
  refine PW.iload_n hX dX5_giveTo_12 rfl rfl ?_
  refine PW.iaload hX dX5_giveTo_13 rfl rfl rfl (by omega) ?_
  refine PW.istore hX dX5_giveTo_14 rfl ?_
  refine PW.aload_n hX dX5_giveTo_16 rfl rfl ?_
  refine PW.getfield hX fl_X5_46 dX5_giveTo_17 rfl rfl ?_
  refine PW.iload_n hX dX5_giveTo_20 rfl rfl ?_
  refine PW.iaload hX dX5_giveTo_21 rfl rfl rfl (by omega) ?_
  refine PW.istore hX dX5_giveTo_22 rfl ?_
  refine PW.iload hX dX5_giveTo_24 rfl ?_
  refine PW.iconst (v := nI 2) hX dX5_giveTo_26 (by decide) ?_
  refine PW.icmp_ne (tgt := 40) hX dX5_giveTo_27 (by decide) (fun c27 => ?_) (fun c27 => ?_)
  · first | rw [nI_eq (by omega) (by omega)] at c27 | rw [oI_eq9] at c27 | skip
    refine PW.iconst (v := nI 0) hX dX5_giveTo_40 (by decide) ?_
    exact h41 _ (fun i hi => by rw [nI_ltI (by omega) (by omega)]; omega)
  · first | rw [nI_eq (by omega) (by omega)] at c27 | rw [oI_eq9] at c27 | skip
    refine PW.aload_n hX dX5_giveTo_30 rfl rfl ?_
    refine PW.getfield hX fl_X5_18 dX5_giveTo_31 rfl rfl ?_
    refine PW.iload hX dX5_giveTo_34 rfl ?_
    refine PW.isub hX dX5_giveTo_36 ?_
    refine PW.goto (tgt := 41) hX dX5_giveTo_37 (by decide) ?_
    exact h41 _ (fun i hi => by rw [nI_lt_sub (by omega) (by omega) (by omega)]; omega)
