def maxN (a b : Nat) : Nat := if a < b then b else a
theorem maxI {a b : Nat} (ha : a < 1000) (hb : b < 1000) : (if nI a < nI b then nI b else nI a) = nI (maxN a b) := by
  unfold maxN
  by_cases h : a < b
  · rw [if_pos h, if_pos ((nI_ltI (by omega) (by omega)).mpr h)]
  · rw [if_neg h, if_neg (fun q => h ((nI_ltI (by omega) (by omega)).mp q))]
/-- the greatest of lo from d on, q of them, and of x -/
def mxF (lo : Nat → Nat) (d : Nat) : Nat → Nat
  | 0 => 0
  | q + 1 => maxN (mxF lo d q) (lo (d + q))
/-- behind i of the row: the longest falling rows by their last digit, and the most -/
def fpS (nu lo : Nat → Nat) : Nat → (Nat → Nat) × Nat
  | 0 => (fun j => if j < 10 then 0 else lo j, 0)
  | i + 1 => (va_up (fpS nu lo i).1 (nu i % 10) (mxF (fpS nu lo i).1 (nu i % 10) (10 - nu i % 10) + 1), maxN (fpS nu lo i).2 (mxF (fpS nu lo i).1 (nu i % 10) (10 - nu i % 10) + 1))
theorem maxN_le {a b c : Nat} (ha : a ≤ c) (hb : b ≤ c) : maxN a b ≤ c := by unfold maxN; split <;> assumption
theorem mxF_le {lo : Nat → Nat} {d c : Nat} : ∀ q, (∀ j, j < d + q → lo j ≤ c) → mxF lo d q ≤ c
  | 0, _ => Nat.zero_le _
  | q + 1, h => maxN_le (mxF_le q (fun j hj => h j (by omega))) (h _ (by omega))
theorem fpS_le (nu lo : Nat → Nat) : ∀ i, (∀ j, j < 10 → (fpS nu lo i).1 j ≤ i) ∧ (fpS nu lo i).2 ≤ i
  | 0 => ⟨fun j hj => by show (if j < 10 then 0 else lo j) ≤ 0; rw [if_pos hj]; exact Nat.le_refl _, Nat.le_refl _⟩
  | i + 1 => by
    obtain ⟨h1, h2⟩ := fpS_le nu lo i
    have hd : nu i % 10 < 10 := Nat.mod_lt _ (by decide)
    have h3 : mxF (fpS nu lo i).1 (nu i % 10) (10 - nu i % 10) ≤ i := mxF_le _ (fun j hj => h1 j (by omega))
    refine ⟨fun j hj => ?_, ?_⟩
    · show va_up _ _ _ j ≤ _
      by_cases e : j = nu i % 10
      · rw [e, va_up_self]; omega
      · rw [va_up_ne _ _ e]; exact Nat.le_succ_of_le (h1 j hj)
    · show maxN _ _ ≤ _
      exact maxN_le (Nat.le_succ_of_le h2) (by omega)
def rwL (R : Rw) (lo : Nat → Nat) : Rw := (rwnu R, rwn R, rwwy R, lo, rwfp R)
theorem fill0 (n : Nat) (g : Nat → Nat) : (fun j => if j < n then nI 0 else nI (g j)) = fun j => nI (if j < n then 0 else g j) := by
  funext j
  split <;> rfl
theorem pm_fewestParts (R : Rw) (ro : RwOk R) : PM mu_X3_fewestParts 1 0 0 [.ref 0] (rwB 0 R) (eqP (some (.int (nI (fpS (rwnu R) (rwlo R) (rwn R)).2))) (rwB 0 (rwL R (fpS (rwnu R) (rwlo R) (rwn R)).1))) := by
  obtain ⟨r1, r2⟩ := ro
  refine PM.start (Or.inl (by decide +kernel)) rfl rfl rfl ?_
  intro X hX hR hx hin
  have loop : ∀ n i : Nat, i ≤ rwn R → rwn R < i + n → ∀ Z, Z = fpS (rwnu R) (rwlo R) i → PW X 12 [some (.ref 0), some (.int (nI Z.2)), some (.int (nI i)), none, none, none] [] (rwB 0 (rwL R Z.1)) 0 0 := by
    intro n
    induction n with
    | zero => intro i h1 h2; exact absurd h2 (by omega)
    | succ n ih =>
      intro i h1 h2 Z hZ
      by_cases hi : i = rwn R
      · subst hi
        rw [← hZ] at hR
        refine PW.iload_n hX dX3_fewestParts_12 rfl rfl ?_
        refine PW.aload_n hX dX3_fewestParts_13 rfl rfl ?_
        refine PW.getfield hX fl_X3_15 dX3_fewestParts_14 rfl rfl ?_
        refine PW.top (show _ = nI (rwn R) from rfl) ?_
        refine PW.icmp_ge (tgt := 90) hX dX3_fewestParts_17 (by decide) (fun c17 => ?_) (fun c17 => ?_)
        · try rw [nI_leI (by omega) (by omega)] at c17
          refine PW.iload_n hX dX3_fewestParts_90 rfl rfl ?_
          refine PW.iret hX hR dX3_fewestParts_91 rfl rfl ?_
          exact ⟨rfl, rfl⟩
        · try rw [nI_leI (by omega) (by omega)] at c17
          exfalso; omega -- CLOSED
      · have hn := r2 i (by omega)
        have nx := ih (i + 1) (by omega) (by omega) _ rfl
        rw [fpS, ← hZ] at nx
        obtain ⟨l1, l2⟩ := fpS_le (rwnu R) (rwlo R) i
        rw [← hZ] at l1 l2
        obtain ⟨dg, hdg⟩ : ∃ dg, dg = rwnu R i % 10 := ⟨_, rfl⟩
        rw [← hdg] at nx
        have hd : dg < 10 := by rw [hdg]; exact Nat.mod_lt _ (by decide)
        have h3 : mxF Z.1 dg (10 - dg) ≤ i := mxF_le _ (fun j hj => l1 j (by omega))
        have h63 : PW X 63 [some (.ref 0), some (.int (nI Z.2)), some (.int (nI i)), some (.int (nI dg)), some (.int (nI (mxF Z.1 dg (10 - dg)))), none] [] (rwB 0 (rwL R Z.1)) 0 0 := by
          generalize mxF Z.1 dg (10 - dg) = mf at nx h3
          have ez : ((fun j => nI (va_up Z.1 dg (mf + 1) j)) dg) = nI (mf + 1) := by show nI (va_up Z.1 dg (mf + 1) dg) = _; rw [va_up_self]
          refine PW.aload_n hX dX3_fewestParts_63 rfl rfl ?_
          refine PW.getfield hX fl_X3_22 dX3_fewestParts_64 rfl rfl ?_
          refine PW.iload_n hX dX3_fewestParts_67 rfl rfl ?_
          refine PW.iload hX dX3_fewestParts_68 rfl ?_
          refine PW.iconst (v := nI 1) hX dX3_fewestParts_70 (by decide) ?_
          refine PW.iadd hX dX3_fewestParts_71 ?_
          refine PW.top (nI_add _ 1) ?_
          refine PW.iastore hX dX3_fewestParts_72 rfl rfl rfl (by omega) ?_
          refine PW.heap (h' := rwB 0 (rwL R (va_up Z.1 dg (mf + 1)))) ((congrArg (fun f => (rwB 0 (rwL R Z.1)).set 3 (Sum.inl (0, 10, f))) (upd_nI Z.1 dg (mf + 1))).trans rfl) ?_
          refine PW.iload_n hX dX3_fewestParts_73 rfl rfl ?_
          refine PW.aload_n hX dX3_fewestParts_74 rfl rfl ?_
          refine PW.getfield hX fl_X3_22 dX3_fewestParts_75 rfl rfl ?_
          refine PW.iload_n hX dX3_fewestParts_78 rfl rfl ?_
          refine PW.iaload hX dX3_fewestParts_79 rfl rfl rfl (by omega) ?_
          refine PW.top ez ?_
          refine PW.mmax hX ml_X3_41 dX3_fewestParts_80 rfl rfl rfl rfl ?_
          refine PW.top (maxI (show Z.2 < 1000 by omega) (by omega)) ?_
          refine PW.istore_n hX dX3_fewestParts_83 rfl rfl ?_
          first | refine PW.iinc hX dX3_fewestParts_84 rfl (iincN _) ?_ | refine PW.iinc hX dX3_fewestParts_84 rfl rfl ?_
          refine PW.goto (tgt := 12) hX dX3_fewestParts_87 (by decide) ?_
          refine PW.clr 3 (PW.clr 4 (PW.clr 5 ?_))
          exact nx
        have inner : ∀ n q : Nat, dg + q ≤ 10 → 10 < dg + q + n → PW X 36 [some (.ref 0), some (.int (nI Z.2)), some (.int (nI i)), some (.int (nI dg)), some (.int (nI (mxF Z.1 dg q))), some (.int (nI (dg + q)))] [] (rwB 0 (rwL R Z.1)) 0 0 := by
          intro n
          induction n with
          | zero => intro q q1 q2; exact absurd q2 (by omega)
          | succ n ihn =>
            intro q q1 q2
            by_cases hq : dg + q = 10
            · have eq : q = 10 - dg := by omega
              subst eq
              refine PW.iload hX dX3_fewestParts_36 rfl ?_
              refine PW.bipush (v := nI 10) hX dX3_fewestParts_38 (by decide) ?_
              refine PW.icmp_ge (tgt := 63) hX dX3_fewestParts_40 (by decide) (fun c40 => ?_) (fun c40 => ?_)
              · try rw [nI_leI (by omega) (by omega)] at c40
                refine PW.clr 5 ?_
                exact h63
              · try rw [nI_leI (by omega) (by omega)] at c40
                exfalso; omega -- CLOSED
            · have nq := ihn (q + 1) (by omega) (by omega)
              rw [mxF, ← Nat.add_assoc] at nq
              have b1 : mxF Z.1 dg q ≤ i := mxF_le _ (fun j hj => l1 j (by omega))
              have b2 := l1 (dg + q) (by omega)
              refine PW.iload hX dX3_fewestParts_36 rfl ?_
              refine PW.bipush (v := nI 10) hX dX3_fewestParts_38 (by decide) ?_
              refine PW.icmp_ge (tgt := 63) hX dX3_fewestParts_40 (by decide) (fun c40 => ?_) (fun c40 => ?_)
              · try rw [nI_leI (by omega) (by omega)] at c40
                exfalso; omega -- CLOSED
              · try rw [nI_leI (by omega) (by omega)] at c40
                refine PW.iload hX dX3_fewestParts_43 rfl ?_
                refine PW.aload_n hX dX3_fewestParts_45 rfl rfl ?_
                refine PW.getfield hX fl_X3_22 dX3_fewestParts_46 rfl rfl ?_
                refine PW.iload hX dX3_fewestParts_49 rfl ?_
                refine PW.iaload hX dX3_fewestParts_51 rfl rfl rfl (by omega) ?_
                refine PW.mmax hX ml_X3_41 dX3_fewestParts_52 rfl rfl rfl rfl ?_
                refine PW.top (maxI (show mxF Z.1 dg q < 1000 by omega) (show Z.1 (dg + q) < 1000 by omega)) ?_
                refine PW.istore hX dX3_fewestParts_55 rfl ?_
                first | refine PW.iinc hX dX3_fewestParts_57 rfl (iincN _) ?_ | refine PW.iinc hX dX3_fewestParts_57 rfl rfl ?_
                refine PW.goto (tgt := 36) hX dX3_fewestParts_60 (by decide) ?_
                exact nq
        have h36 := inner 11 0 (by omega) (by omega)
        refine PW.iload_n hX dX3_fewestParts_12 rfl rfl ?_
        refine PW.aload_n hX dX3_fewestParts_13 rfl rfl ?_
        refine PW.getfield hX fl_X3_15 dX3_fewestParts_14 rfl rfl ?_
        refine PW.top (show _ = nI (rwn R) from rfl) ?_
        refine PW.icmp_ge (tgt := 90) hX dX3_fewestParts_17 (by decide) (fun c17 => ?_) (fun c17 => ?_)
        · try rw [nI_leI (by omega) (by omega)] at c17
          exfalso; omega -- CLOSED
        · try rw [nI_leI (by omega) (by omega)] at c17
          refine PW.aload_n hX dX3_fewestParts_20 rfl rfl ?_
          refine PW.getfield hX fl_X3_9 dX3_fewestParts_21 rfl rfl ?_
          refine PW.iload_n hX dX3_fewestParts_24 rfl rfl ?_
          refine PW.iaload hX dX3_fewestParts_25 rfl rfl rfl (by omega) ?_
          refine PW.bipush (v := nI 10) hX dX3_fewestParts_26 (by decide) ?_
          refine PW.irem hX dX3_fewestParts_28 (by decide) ?_
          refine PW.top (show _ = nI dg by rw [hdg]; exact rem10 (show rwnu R i < 2 ^ 31 by omega)) ?_
          refine PW.istore_n hX dX3_fewestParts_29 rfl rfl ?_
          refine PW.iconst (v := nI 0) hX dX3_fewestParts_30 (by decide) ?_
          refine PW.istore hX dX3_fewestParts_31 rfl ?_
          refine PW.iload_n hX dX3_fewestParts_33 rfl rfl ?_
          refine PW.istore hX dX3_fewestParts_34 rfl ?_
          exact h36
  have h12 := loop (rwn R + 1) 0 (by omega) (by omega) _ rfl
  refine PW.aload_n hX dX3_fewestParts_0 rfl rfl ?_
  refine PW.getfield hX fl_X3_22 dX3_fewestParts_1 rfl rfl ?_
  refine PW.iconst (v := nI 0) hX dX3_fewestParts_4 (by decide) ?_
  refine PW.sV (h1 := (rwB 0 R).set 3 (.inl (0, 10, fun j => if j < 10 then nI 0 else nI (rwlo R j)))) hX ml_X3_35 (pm_fill 10 (by decide) (fun j => nI (rwlo R j)) (nI 0)) dX3_fewestParts_5 [3] rfl rfl rfl rfl rfl rfl rfl rfl rfl rfl rfl rfl ?_
  refine PW.heap (h' := rwB 0 (rwL R (fun j => if j < 10 then 0 else rwlo R j))) (by rw [fill0]; rfl) ?_
  refine PW.iconst (v := nI 0) hX dX3_fewestParts_8 (by decide) ?_
  refine PW.istore_n hX dX3_fewestParts_9 rfl rfl ?_
  refine PW.iconst (v := nI 0) hX dX3_fewestParts_10 (by decide) ?_
  refine PW.istore_n hX dX3_fewestParts_11 rfl rfl ?_
  exact h12
def lkF (nu : Nat → Nat) (j : Nat) (x : Int32) : Nat → Int32
  | 0 => x
  | i + 1 => if nu i / 10 = j then lkF nu j x i &&& ((nI 1 <<< (nI (nu i % 10) &&& 31)) ^^^ -1) else lkF nu j x i
theorem pm_numbersLacking (R : Rw) (ro : RwOk R) (j s : Nat) (hj : j < 6) (hs : s < 10) : PM mu_X3_numbersLacking 1 0 0 [.ref 0, .int (nI j), .int (nI s)] (rwB 0 R) (eqP (some (.int (lkF (rwnu R) j (nI (upTo s)) (rwn R)))) (rwB 0 R)) := by
  obtain ⟨r1, r2⟩ := ro
  refine PM.start (Or.inl (by decide +kernel)) rfl rfl rfl ?_
  intro X hX hR hx hin
  have loop : ∀ n i : Nat, i ≤ rwn R → rwn R < i + n → PW X 8 [some (.ref 0), some (.int (nI j)), some (.int (nI s)), some (.int (lkF (rwnu R) j (nI (upTo s)) i)), some (.int (nI i))] [] (rwB 0 R) 0 0 := by
    intro n
    induction n with
    | zero => intro i h1 h2; exact absurd h2 (by omega)
    | succ n ih =>
      intro i h1 h2
      by_cases hi : i = rwn R
      · subst hi
        refine PW.iload hX dX3_numbersLacking_8 rfl ?_
        refine PW.aload_n hX dX3_numbersLacking_10 rfl rfl ?_
        refine PW.getfield hX fl_X3_15 dX3_numbersLacking_11 rfl rfl ?_
        refine PW.icmp_ge (tgt := 54) hX dX3_numbersLacking_14 (by decide) (fun c14 => ?_) (fun c14 => ?_)
        · try rw [nI_leI (by omega) (by omega)] at c14
          refine PW.iload_n hX dX3_numbersLacking_54 rfl rfl ?_
          refine PW.iret hX hR dX3_numbersLacking_55 rfl rfl ?_
          exact ⟨rfl, rfl⟩
        · try rw [nI_leI (by omega) (by omega)] at c14
          exfalso; omega -- CLOSED
      · have hn := r2 i (by omega)
        have nx := ih (i + 1) (by omega) (by omega)
        rw [lkF] at nx
        refine PW.iload hX dX3_numbersLacking_8 rfl ?_
        refine PW.aload_n hX dX3_numbersLacking_10 rfl rfl ?_
        refine PW.getfield hX fl_X3_15 dX3_numbersLacking_11 rfl rfl ?_
        refine PW.icmp_ge (tgt := 54) hX dX3_numbersLacking_14 (by decide) (fun c14 => ?_) (fun c14 => ?_)
        · try rw [nI_leI (by omega) (by omega)] at c14
          exfalso; omega -- CLOSED
        · try rw [nI_leI (by omega) (by omega)] at c14
          refine PW.aload_n hX dX3_numbersLacking_17 rfl rfl ?_
          refine PW.getfield hX fl_X3_9 dX3_numbersLacking_18 rfl rfl ?_
          refine PW.iload hX dX3_numbersLacking_21 rfl ?_
          refine PW.iaload hX dX3_numbersLacking_23 rfl rfl rfl (by omega) ?_
          refine PW.bipush (v := nI 10) hX dX3_numbersLacking_24 (by decide) ?_
          refine PW.idiv hX dX3_numbersLacking_26 (by decide) ?_
          refine PW.top (div10 (by omega)) ?_
          refine PW.iload_n hX dX3_numbersLacking_27 rfl rfl ?_
          refine PW.icmp_ne (tgt := 48) hX dX3_numbersLacking_28 (by decide) (fun c28 => ?_) (fun c28 => ?_)
          · first | rw [nI_eq (by omega) (by omega)] at c28 | rw [oI_eq9] at c28 | skip
            rw [if_neg c28] at nx
            first | refine PW.iinc hX dX3_numbersLacking_48 rfl (iincN _) ?_ | refine PW.iinc hX dX3_numbersLacking_48 rfl rfl ?_
            refine PW.goto (tgt := 8) hX dX3_numbersLacking_51 (by decide) ?_
            exact nx
          · first | rw [nI_eq (by omega) (by omega)] at c28 | rw [oI_eq9] at c28 | skip
            rw [if_pos c28] at nx
            refine PW.iload_n hX dX3_numbersLacking_31 rfl rfl ?_
            refine PW.iconst (v := nI 1) hX dX3_numbersLacking_32 (by decide) ?_
            refine PW.aload_n hX dX3_numbersLacking_33 rfl rfl ?_
            refine PW.getfield hX fl_X3_9 dX3_numbersLacking_34 rfl rfl ?_
            refine PW.iload hX dX3_numbersLacking_37 rfl ?_
            refine PW.iaload hX dX3_numbersLacking_39 rfl rfl rfl (by omega) ?_
            refine PW.bipush (v := nI 10) hX dX3_numbersLacking_40 (by decide) ?_
            refine PW.irem hX dX3_numbersLacking_42 (by decide) ?_
            refine PW.top (rem10 (by omega)) ?_
            refine PW.ishl hX dX3_numbersLacking_43 ?_
            refine PW.iconst (v := (-1)) hX dX3_numbersLacking_44 (by decide) ?_
            refine PW.ixor hX dX3_numbersLacking_45 ?_
            refine PW.iand hX dX3_numbersLacking_46 ?_
            refine PW.istore_n hX dX3_numbersLacking_47 rfl rfl ?_
            first | refine PW.iinc hX dX3_numbersLacking_48 rfl (iincN _) ?_ | refine PW.iinc hX dX3_numbersLacking_48 rfl rfl ?_
            refine PW.goto (tgt := 8) hX dX3_numbersLacking_51 (by decide) ?_
            exact nx
  refine PW.iload_n hX dX3_numbersLacking_0 rfl rfl ?_
  refine PW.nR hX ml_X3_47 (pm_bitsUpTo s (by omega)) dX3_numbersLacking_1 rfl rfl rfl rfl rfl rfl ?_
  refine PW.istore_n hX dX3_numbersLacking_4 rfl rfl ?_
  refine PW.iconst (v := nI 0) hX dX3_numbersLacking_5 (by decide) ?_
  refine PW.istore hX dX3_numbersLacking_6 rfl ?_
  exact loop (rwn R + 1) 0 (by omega) (by omega)
/-- first places, from the row's end on -/
def fpA (nu : Nat → Nat) (n : Nat) (fp : Nat → Option Nat) : Nat → Nat → Option Nat
  | 0 => fun j => if j < 100 then none else fp j
  | t + 1 => va_up (fpA nu n fp t) (nu (n - 1 - t)) (some (n - 1 - t))
/-- runs, and the place just gone through, behind v numbers -/
def rnF (fp : Nat → Option Nat) (n : Nat) : Nat → Nat × Nat
  | 0 => (0, n)
  | v + 1 => match fp v with
    | none => rnF fp n v
    | some p => ((rnF fp n v).1 + (if p < (rnF fp n v).2 then 1 else 0), p)
theorem fpA_lt (nu : Nat → Nat) (n : Nat) (fp : Nat → Option Nat) : ∀ t, t ≤ n → ∀ j p, j < 100 → fpA nu n fp t j = some p → p < n
  | 0, _, j, p, hj, h => by
    have h : (if j < 100 then none else fp j) = some p := h
    rw [if_pos hj] at h; cases h
  | t + 1, ht, j, p, hj, h => by
    have h : va_up (fpA nu n fp t) (nu (n - 1 - t)) (some (n - 1 - t)) j = some p := h
    by_cases e : j = nu (n - 1 - t)
    · rw [e, va_up_self] at h; cases h; omega
    · rw [va_up_ne _ _ e] at h; exact fpA_lt nu n fp t (by omega) j p hj h
theorem rnF_le (fp : Nat → Option Nat) (n : Nat) (hfp : ∀ j p, j < 100 → fp j = some p → p < n) : ∀ v, v ≤ 100 → (rnF fp n v).1 ≤ v ∧ (rnF fp n v).2 ≤ n
  | 0, _ => ⟨Nat.le_refl _, Nat.le_refl _⟩
  | v + 1, hv => by
    obtain ⟨h1, h2⟩ := rnF_le fp n hfp v (by omega)
    rw [rnF]
    cases hf : fp v with
    | none => exact ⟨Nat.le_succ_of_le h1, h2⟩
    | some p =>
      have := hfp v p (by omega) hf
      refine ⟨?_, by dsimp only; omega⟩
      dsimp only
      split <;> omega
def rwP (R : Rw) (fp : Nat → Option Nat) : Rw := (rwnu R, rwn R, rwwy R, rwlo R, fp)
theorem pm_runsBySize (R : Rw) (ro : RwOk R) : PM mu_X3_runsBySize 1 0 0 [.ref 0] (rwB 0 R) (eqP (some (.int (nI (rnF (fpA (rwnu R) (rwn R) (rwfp R) (rwn R)) (rwn R) 100).1))) (rwB 0 (rwP R (fpA (rwnu R) (rwn R) (rwfp R) (rwn R))))) := by
  obtain ⟨r1, r2⟩ := ro
  have hfp := fpA_lt (rwnu R) (rwn R) (rwfp R) (rwn R) (Nat.le_refl _)
  have hrn := rnF_le (fpA (rwnu R) (rwn R) (rwfp R) (rwn R)) (rwn R) hfp
  refine PM.start (Or.inl (by decide +kernel)) rfl rfl rfl ?_
  intro X hX hR hx hin
  have loop2 : ∀ n v : Nat, v ≤ 100 → 100 < v + n → ∀ Z, Z = rnF (fpA (rwnu R) (rwn R) (rwfp R) (rwn R)) (rwn R) v → PW X 47 [some (.ref 0), some (.int (nI Z.1)), some (.int (nI Z.2)), some (.int (nI v))] [] (rwB 0 (rwP R (fpA (rwnu R) (rwn R) (rwfp R) (rwn R)))) 0 0 := by
    intro n
    induction n with
    | zero => intro v h1 h2; exact absurd h2 (by omega)
    | succ n ih =>
      intro v h1 h2 Z hZ
      by_cases hv : v = 100
      · subst hv
        rw [← hZ] at hR
        generalize fpA (rwnu R) (rwn R) (rwfp R) (rwn R) = fp at hR ⊢
        refine PW.iload_n hX dX3_runsBySize_47 rfl rfl ?_
        refine PW.bipush (v := nI 100) hX dX3_runsBySize_48 (by decide) ?_
        refine PW.icmp_ge (tgt := 95) hX dX3_runsBySize_50 (by decide) (fun c50 => ?_) (fun c50 => ?_)
        · try rw [nI_leI (by omega) (by omega)] at c50
          refine PW.iload_n hX dX3_runsBySize_95 rfl rfl ?_
          refine PW.iret hX hR dX3_runsBySize_96 rfl rfl ?_
          exact ⟨rfl, rfl⟩
        · try rw [nI_leI (by omega) (by omega)] at c50
          exfalso; omega -- CLOSED
      · have nx := ih (v + 1) (by omega) (by omega) _ rfl
        obtain ⟨b1, b2⟩ := hrn v (by omega)
        rw [← hZ] at b1 b2
        rw [rnF, ← hZ] at nx
        generalize fpA (rwnu R) (rwn R) (rwfp R) (rwn R) = fp at nx hfp ⊢
        cases hf : fp v with
        | none =>
          rw [hf] at nx
          refine PW.iload_n hX dX3_runsBySize_47 rfl rfl ?_
          refine PW.bipush (v := nI 100) hX dX3_runsBySize_48 (by decide) ?_
          refine PW.icmp_ge (tgt := 95) hX dX3_runsBySize_50 (by decide) (fun c50 => ?_) (fun c50 => ?_)
          · try rw [nI_leI (by omega) (by omega)] at c50
            exfalso; omega -- CLOSED
          · try rw [nI_leI (by omega) (by omega)] at c50
            refine PW.aload_n hX dX3_runsBySize_53 rfl rfl ?_
            refine PW.getfield hX fl_X3_25 dX3_runsBySize_54 rfl rfl ?_
            refine PW.iload_n hX dX3_runsBySize_57 rfl rfl ?_
            refine PW.iaload hX dX3_runsBySize_58 rfl rfl rfl (by omega) ?_
            refine PW.top (show _ = oI none from congrArg oI hf) ?_
            refine PW.bipush (v := (-9)) hX dX3_runsBySize_59 (by decide) ?_
            refine PW.icmp_eq (tgt := 89) hX dX3_runsBySize_61 (by decide) (fun c61 => ?_) (fun c61 => ?_)
            · first | rw [nI_eq (by omega) (by omega)] at c61 | rw [oI_eq9] at c61 | skip
              first | refine PW.iinc hX dX3_runsBySize_89 rfl (iincN _) ?_ | refine PW.iinc hX dX3_runsBySize_89 rfl rfl ?_
              refine PW.goto (tgt := 47) hX dX3_runsBySize_92 (by decide) ?_
              exact nx
            · first | rw [nI_eq (by omega) (by omega)] at c61 | rw [oI_eq9] at c61 | skip
              exact absurd trivial c61 -- CLOSED
        | some p =>
          rw [hf] at nx
          have hp := hfp v p (by omega) hf
          refine PW.iload_n hX dX3_runsBySize_47 rfl rfl ?_
          refine PW.bipush (v := nI 100) hX dX3_runsBySize_48 (by decide) ?_
          refine PW.icmp_ge (tgt := 95) hX dX3_runsBySize_50 (by decide) (fun c50 => ?_) (fun c50 => ?_)
          · try rw [nI_leI (by omega) (by omega)] at c50
            exfalso; omega -- CLOSED
          · try rw [nI_leI (by omega) (by omega)] at c50
            refine PW.aload_n hX dX3_runsBySize_53 rfl rfl ?_
            refine PW.getfield hX fl_X3_25 dX3_runsBySize_54 rfl rfl ?_
            refine PW.iload_n hX dX3_runsBySize_57 rfl rfl ?_
            refine PW.iaload hX dX3_runsBySize_58 rfl rfl rfl (by omega) ?_
            refine PW.top (show _ = nI p from congrArg oI hf) ?_
            refine PW.bipush (v := (-9)) hX dX3_runsBySize_59 (by decide) ?_
            refine PW.icmp_eq (tgt := 89) hX dX3_runsBySize_61 (by decide) (fun c61 => ?_) (fun c61 => ?_)
            · first | rw [nI_eq (by omega) (by omega)] at c61 | rw [oI_eq9] at c61 | skip
              exact absurd c61 (nI_ne9 (by omega)) -- CLOSED
            · first | rw [nI_eq (by omega) (by omega)] at c61 | rw [oI_eq9] at c61 | skip
              refine PW.iload_n hX dX3_runsBySize_64 rfl rfl ?_
              refine PW.aload_n hX dX3_runsBySize_65 rfl rfl ?_
              refine PW.getfield hX fl_X3_25 dX3_runsBySize_66 rfl rfl ?_
              refine PW.iload_n hX dX3_runsBySize_69 rfl rfl ?_
              refine PW.iaload hX dX3_runsBySize_70 rfl rfl rfl (by omega) ?_
              refine PW.top (show _ = nI p from congrArg oI hf) ?_
              refine PW.iload_n hX dX3_runsBySize_71 rfl rfl ?_
              refine PW.icmp_ge (tgt := 79) hX dX3_runsBySize_72 (by decide) (fun c72 => ?_) (fun c72 => ?_)
              · try rw [nI_leI (by omega) (by omega)] at c72
                dsimp only at nx
                rw [if_neg (by omega)] at nx
                refine PW.iconst (v := nI 0) hX dX3_runsBySize_79 (by decide) ?_
                refine PW.iadd hX dX3_runsBySize_80 ?_
                refine PW.top (nI_add _ _) ?_
                refine PW.istore_n hX dX3_runsBySize_81 rfl rfl ?_
                refine PW.aload_n hX dX3_runsBySize_82 rfl rfl ?_
                refine PW.getfield hX fl_X3_25 dX3_runsBySize_83 rfl rfl ?_
                refine PW.iload_n hX dX3_runsBySize_86 rfl rfl ?_
                refine PW.iaload hX dX3_runsBySize_87 rfl rfl rfl (by omega) ?_
                refine PW.top (show _ = nI p from congrArg oI hf) ?_
                refine PW.istore_n hX dX3_runsBySize_88 rfl rfl ?_
                first | refine PW.iinc hX dX3_runsBySize_89 rfl (iincN _) ?_ | refine PW.iinc hX dX3_runsBySize_89 rfl rfl ?_
                refine PW.goto (tgt := 47) hX dX3_runsBySize_92 (by decide) ?_
                exact nx
              · try rw [nI_leI (by omega) (by omega)] at c72
                dsimp only at nx
                rw [if_pos (by omega)] at nx
                refine PW.iconst (v := nI 1) hX dX3_runsBySize_75 (by decide) ?_
                refine PW.goto (tgt := 80) hX dX3_runsBySize_76 (by decide) ?_
                refine PW.iadd hX dX3_runsBySize_80 ?_
                refine PW.top (nI_add _ _) ?_
                refine PW.istore_n hX dX3_runsBySize_81 rfl rfl ?_
                refine PW.aload_n hX dX3_runsBySize_82 rfl rfl ?_
                refine PW.getfield hX fl_X3_25 dX3_runsBySize_83 rfl rfl ?_
                refine PW.iload_n hX dX3_runsBySize_86 rfl rfl ?_
                refine PW.iaload hX dX3_runsBySize_87 rfl rfl rfl (by omega) ?_
                refine PW.top (show _ = nI p from congrArg oI hf) ?_
                refine PW.istore_n hX dX3_runsBySize_88 rfl rfl ?_
                first | refine PW.iinc hX dX3_runsBySize_89 rfl (iincN _) ?_ | refine PW.iinc hX dX3_runsBySize_89 rfl rfl ?_
                refine PW.goto (tgt := 47) hX dX3_runsBySize_92 (by decide) ?_
                exact nx
  have h38 : PW X 38 [some (.ref 0), none, none, none] [] (rwB 0 (rwP R (fpA (rwnu R) (rwn R) (rwfp R) (rwn R)))) 0 0 := by
    have l2 := loop2 101 0 (by omega) (by omega) _ rfl
    generalize fpA (rwnu R) (rwn R) (rwfp R) (rwn R) = fp at l2 ⊢
    refine PW.iconst (v := nI 0) hX dX3_runsBySize_38 (by decide) ?_
    refine PW.istore_n hX dX3_runsBySize_39 rfl rfl ?_
    refine PW.aload_n hX dX3_runsBySize_40 rfl rfl ?_
    refine PW.getfield hX fl_X3_15 dX3_runsBySize_41 rfl rfl ?_
    refine PW.istore_n hX dX3_runsBySize_44 rfl rfl ?_
    refine PW.iconst (v := nI 0) hX dX3_runsBySize_45 (by decide) ?_
    refine PW.istore_n hX dX3_runsBySize_46 rfl rfl ?_
    exact l2
  have loop1 : ∀ n t : Nat, t ≤ rwn R → rwn R < t + n → ∀ x, x = nI (rwn R - t) - 1 → PW X 16 [some (.ref 0), some (.int x), none, none] [] (rwB 0 (rwP R (fpA (rwnu R) (rwn R) (rwfp R) t))) 0 0 := by
    intro n
    induction n with
    | zero => intro t h1 h2; exact absurd h2 (by omega)
    | succ n ih =>
      intro t h1 h2 x hx
      by_cases ht : t = rwn R
      · subst ht
        have hx0 : x = -1 := by rw [hx, Nat.sub_self]; decide
        subst hx0
        refine PW.iload_n hX dX3_runsBySize_16 rfl rfl ?_
        refine PW.if_lt (tgt := 38) hX dX3_runsBySize_17 (by decide) (fun c17 => ?_) (fun c17 => ?_)
        · try rw [nI_lt0 (by omega)] at c17
          refine PW.clr 1 ?_
          exact h38
        · try rw [nI_lt0 (by omega)] at c17
          exact absurd (by decide) c17 -- CLOSED
      · have hx0 : x = nI (rwn R - 1 - t) := by rw [hx, show rwn R - t = (rwn R - 1 - t) + 1 by omega, nI_pred]
        subst hx0
        have hn := r2 (rwn R - 1 - t) (by omega)
        have nx := ih (t + 1) (by omega) (by omega) (nI (rwn R - 1 - t) + -1) (by
          rw [show rwn R - (t + 1) = rwn R - 1 - t by omega]
          rw [Int32.sub_eq_add_neg])
        rw [fpA] at nx
        generalize fpA (rwnu R) (rwn R) (rwfp R) t = fp at nx ⊢
        refine PW.iload_n hX dX3_runsBySize_16 rfl rfl ?_
        refine PW.if_lt (tgt := 38) hX dX3_runsBySize_17 (by decide) (fun c17 => ?_) (fun c17 => ?_)
        · try rw [nI_lt0 (by omega)] at c17
          exact c17.elim -- CLOSED
        · try rw [nI_lt0 (by omega)] at c17
          refine PW.aload_n hX dX3_runsBySize_20 rfl rfl ?_
          refine PW.getfield hX fl_X3_25 dX3_runsBySize_21 rfl rfl ?_
          refine PW.aload_n hX dX3_runsBySize_24 rfl rfl ?_
          refine PW.getfield hX fl_X3_9 dX3_runsBySize_25 rfl rfl ?_
          refine PW.iload_n hX dX3_runsBySize_28 rfl rfl ?_
          refine PW.iaload hX dX3_runsBySize_29 rfl rfl rfl (by omega) ?_
          refine PW.iload_n hX dX3_runsBySize_30 rfl rfl ?_
          refine PW.iastore (k := rwnu R (rwn R - 1 - t)) hX dX3_runsBySize_31 rfl rfl rfl (by omega) ?_
          refine PW.heap (h' := rwB 0 (rwP R (va_up fp (rwnu R (rwn R - 1 - t)) (some (rwn R - 1 - t))))) ((congrArg (fun f => (rwB 0 (rwP R fp)).set 4 (Sum.inl (0, 100, f))) (upd_oI fp (rwnu R (rwn R - 1 - t)) (rwn R - 1 - t))).trans rfl) ?_
          refine PW.iinc hX dX3_runsBySize_32 rfl rfl ?_
          refine PW.goto (tgt := 16) hX dX3_runsBySize_35 (by decide) ?_
          exact nx
  have h16 := loop1 (rwn R + 1) 0 (by omega) (by omega) _ rfl
  refine PW.aload_n hX dX3_runsBySize_0 rfl rfl ?_
  refine PW.getfield hX fl_X3_25 dX3_runsBySize_1 rfl rfl ?_
  refine PW.bipush (v := (-9)) hX dX3_runsBySize_4 (by decide) ?_
  refine PW.sV (h1 := (rwB 0 R).set 4 (.inl (0, 100, fun j => if j < 100 then -9 else oI (rwfp R j)))) hX ml_X3_35 (pm_fill 100 (by decide) (fun j => oI (rwfp R j)) (-9)) dX3_runsBySize_6 [4] rfl rfl rfl rfl rfl rfl rfl rfl rfl rfl rfl rfl ?_
  refine PW.heap (h' := rwB 0 (rwP R (fun j => if j < 100 then none else rwfp R j))) (by rw [fill_oI]; rfl) ?_
  refine PW.aload_n hX dX3_runsBySize_9 rfl rfl ?_
  refine PW.getfield hX fl_X3_15 dX3_runsBySize_10 rfl rfl ?_
  refine PW.iconst (v := nI 1) hX dX3_runsBySize_13 (by decide) ?_
  refine PW.isub hX dX3_runsBySize_14 ?_
  refine PW.istore_n hX dX3_runsBySize_15 rfl rfl ?_
  exact h16
def lpL (p r : Nat) : Nat → Nat → Nat → Nat
  | 0, _, l => l
  | n + 1, s, l => if s < r ∧ l < 20 then lpL p r n (s * p) (l + 1) else l
theorem pm_fewestLaps (R : Rw) (ro : RwOk R) (p : Nat) (hp : 2 ≤ p) (hp9 : p ≤ 9) : PM mu_X3_fewestLaps 2 0 0 [.ref 0, .int (nI p)] (rwB 0 R) (eqP (some (.int (nI (lpL p (rnF (fpA (rwnu R) (rwn R) (rwfp R) (rwn R)) (rwn R) 100).1 21 1 0)))) (rwB 0 (rwP R (fpA (rwnu R) (rwn R) (rwfp R) (rwn R))))) := by
  have hrn := (rnF_le (fpA (rwnu R) (rwn R) (rwfp R) (rwn R)) (rwn R) (fpA_lt (rwnu R) (rwn R) (rwfp R) (rwn R) (Nat.le_refl _)) 100 (Nat.le_refl _)).1
  have cM := pm_runsBySize R ro
  generalize (rnF (fpA (rwnu R) (rwn R) (rwfp R) (rwn R)) (rwn R) 100).1 = r at hrn cM ⊢
  generalize fpA (rwnu R) (rwn R) (rwfp R) (rwn R) = fp at cM ⊢
  refine PM.start (Or.inl (by decide +kernel)) rfl rfl rfl ?_
  intro X hX hR hx hin
  have loop : ∀ n s l : Nat, l + n = 21 → s < 10000 → lpL p r 21 1 0 = lpL p r n s l → PW X 10 [some (.ref 0), some (.int (nI p)), some (.int (nI r)), some (.int (nI l)), some (.int (nI s))] [] (rwB 0 (rwP R fp)) 0 0 := by
    intro n
    induction n with
    | zero =>
      intro s l h1 h2 h3
      rw [h3] at hR
      refine PW.iload hX dX3_fewestLaps_10 rfl ?_
      refine PW.iload_n hX dX3_fewestLaps_12 rfl rfl ?_
      refine PW.icmp_ge (tgt := 34) hX dX3_fewestLaps_13 (by decide) (fun c13 => ?_) (fun c13 => ?_)
      · try rw [nI_leI (by omega) (by omega)] at c13
        refine PW.iload_n hX dX3_fewestLaps_34 rfl rfl ?_
        refine PW.iret hX hR dX3_fewestLaps_35 rfl rfl ?_
        exact ⟨rfl, rfl⟩
      · try rw [nI_leI (by omega) (by omega)] at c13
        refine PW.iload_n hX dX3_fewestLaps_16 rfl rfl ?_
        refine PW.bipush (v := nI 20) hX dX3_fewestLaps_17 (by decide) ?_
        refine PW.icmp_ge (tgt := 34) hX dX3_fewestLaps_19 (by decide) (fun c19 => ?_) (fun c19 => ?_)
        · try rw [nI_leI (by omega) (by omega)] at c19
          refine PW.iload_n hX dX3_fewestLaps_34 rfl rfl ?_
          refine PW.iret hX hR dX3_fewestLaps_35 rfl rfl ?_
          exact ⟨rfl, rfl⟩
        · try rw [nI_leI (by omega) (by omega)] at c19
          exfalso; omega -- CLOSED
    | succ n ih =>
      intro s l h1 h2 h3
      rw [show lpL p r (n + 1) s l = if s < r ∧ l < 20 then lpL p r n (s * p) (l + 1) else l from rfl] at h3
      by_cases hc : s < r ∧ l < 20
      · rw [if_pos hc] at h3
        have hs : s * p < 10000 := by
          have : s * p ≤ 100 * 9 := Nat.mul_le_mul (by omega) hp9
          omega
        refine PW.iload hX dX3_fewestLaps_10 rfl ?_
        refine PW.iload_n hX dX3_fewestLaps_12 rfl rfl ?_
        refine PW.icmp_ge (tgt := 34) hX dX3_fewestLaps_13 (by decide) (fun c13 => ?_) (fun c13 => ?_)
        · try rw [nI_leI (by omega) (by omega)] at c13
          exfalso; omega -- CLOSED
        · try rw [nI_leI (by omega) (by omega)] at c13
          refine PW.iload_n hX dX3_fewestLaps_16 rfl rfl ?_
          refine PW.bipush (v := nI 20) hX dX3_fewestLaps_17 (by decide) ?_
          refine PW.icmp_ge (tgt := 34) hX dX3_fewestLaps_19 (by decide) (fun c19 => ?_) (fun c19 => ?_)
          · try rw [nI_leI (by omega) (by omega)] at c19
            exfalso; omega -- CLOSED
          · try rw [nI_leI (by omega) (by omega)] at c19
            refine PW.iload hX dX3_fewestLaps_22 rfl ?_
            refine PW.iload_n hX dX3_fewestLaps_24 rfl rfl ?_
            refine PW.imul hX dX3_fewestLaps_25 ?_
            refine PW.top (pk_mul _ _) ?_
            refine PW.istore hX dX3_fewestLaps_26 rfl ?_
            first | refine PW.iinc hX dX3_fewestLaps_28 rfl (iincN _) ?_ | refine PW.iinc hX dX3_fewestLaps_28 rfl rfl ?_
            refine PW.goto (tgt := 10) hX dX3_fewestLaps_31 (by decide) ?_
            exact ih (s * p) (l + 1) (by omega) hs h3
      · rw [if_neg hc] at h3
        rw [h3] at hR
        refine PW.iload hX dX3_fewestLaps_10 rfl ?_
        refine PW.iload_n hX dX3_fewestLaps_12 rfl rfl ?_
        refine PW.icmp_ge (tgt := 34) hX dX3_fewestLaps_13 (by decide) (fun c13 => ?_) (fun c13 => ?_)
        · try rw [nI_leI (by omega) (by omega)] at c13
          refine PW.iload_n hX dX3_fewestLaps_34 rfl rfl ?_
          refine PW.iret hX hR dX3_fewestLaps_35 rfl rfl ?_
          exact ⟨rfl, rfl⟩
        · try rw [nI_leI (by omega) (by omega)] at c13
          refine PW.iload_n hX dX3_fewestLaps_16 rfl rfl ?_
          refine PW.bipush (v := nI 20) hX dX3_fewestLaps_17 (by decide) ?_
          refine PW.icmp_ge (tgt := 34) hX dX3_fewestLaps_19 (by decide) (fun c19 => ?_) (fun c19 => ?_)
          · try rw [nI_leI (by omega) (by omega)] at c19
            refine PW.iload_n hX dX3_fewestLaps_34 rfl rfl ?_
            refine PW.iret hX hR dX3_fewestLaps_35 rfl rfl ?_
            exact ⟨rfl, rfl⟩
          · try rw [nI_leI (by omega) (by omega)] at c19
            exfalso; omega -- CLOSED
  refine PW.aload_n hX dX3_fewestLaps_0 rfl rfl ?_
  refine PW.vIi hX ml_X3_51 (id cM) dX3_fewestLaps_1 5 rfl rfl rfl rfl rfl rfl rfl rfl rfl rfl rfl rfl rfl rfl rfl ?_
  refine PW.istore_n hX dX3_fewestLaps_4 rfl rfl ?_
  refine PW.iconst (v := nI 0) hX dX3_fewestLaps_5 (by decide) ?_
  refine PW.istore_n hX dX3_fewestLaps_6 rfl rfl ?_
  refine PW.iconst (v := nI 1) hX dX3_fewestLaps_7 (by decide) ?_
  refine PW.istore hX dX3_fewestLaps_8 rfl ?_
  exact loop 21 1 0 rfl (by decide) rfl
