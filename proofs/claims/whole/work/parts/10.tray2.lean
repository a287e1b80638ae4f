/-- the numbers of job j that lie, as bits -/
def lyF (s : Nat → Nat) (j : Nat) : Nat → Nat := fun k => if s k / 10 = j then 2 ^ (s k % 10) else 0
def lyN (s nl : Nat → Nat) (n j : Nat) : Nat := if j < 6 then orN (lyF s j) n else nl j
def whF (P : Pl) (T : Ty) : Nat → Nat := fun j => if orN (lyF (tysh T) j) (tyn T) = upTo (plsh P j) then 2 ^ j else 0
def whB (P : Pl) (T : Ty) : Nat := orN (whF P T) (plnj P)
def tNl (T : Ty) : Ty := (tysh T, lyN (tysh T) (tynl T) (tyn T), tyn T)
theorem orN_lt {f : Nat → Nat} {b : Nat} (h : ∀ k, f k < 2 ^ b) : ∀ n, orN f n < 2 ^ b
  | 0 => Nat.two_pow_pos b
  | n + 1 => Nat.or_lt_two_pow (orN_lt h n) (h n)
theorem lyF_lt {P : Pl} (ok : PlOk P) {T : Ty} (to : TyOk P T) (j : Nat) : ∀ n, n ≤ tyn T → orN (lyF (tysh T) j) n < 2 ^ 10
  | 0, _ => by show 0 < 2 ^ 10; decide
  | n + 1, h => by
    refine Nat.or_lt_two_pow (lyF_lt ok to j n (by omega)) ?_
    unfold lyF
    have := isSh_lt ok (to.2 n (by omega))
    split
    · exact Nat.pow_lt_pow_right (by decide) (by omega)
    · decide
theorem pm_wholeJobs (P : Pl) (ok : PlOk P) (T : Ty) (to : TyOk P T) : PM mu_X5_wholeJobs 1 0 0 [.ref 0, .ref 3] (tyB 0 T ++ plB 3 P) (eqP (some (.int (nI (whB P T)))) (tyB 0 (tNl T) ++ plB 3 P)) := by
  have ok' := ok
  obtain ⟨o1, o2, o3, o4, o5, o6⟩ := ok
  obtain ⟨t1, t2⟩ := to
  refine PM.start (Or.inl (by decide +kernel)) rfl rfl rfl ?_
  intro X hX hR hx hin
  have loop2 : ∀ k i : Nat, i ≤ plnj P → plnj P < i + k → PW X 56 [some (.ref 0), some (.ref 3), some (.int (nI (orN (whF P T) i))), some (.int (nI i))] [] (tyB 0 (tNl T) ++ plB 3 P) 0 0 := by
    intro k
    induction k with
    | zero => intro i h1 h2; exact absurd h2 (by omega)
    | succ k ih =>
      intro i h1 h2
      by_cases hi : i = plnj P
      · subst hi
        refine PW.iload_n hX dX5_wholeJobs_56 rfl rfl ?_
        refine PW.aload_n hX dX5_wholeJobs_57 rfl rfl ?_
        refine PW.getfield hX fl_X5_70 dX5_wholeJobs_58 rfl rfl ?_
        refine PW.icmp_ge (tgt := 98) hX dX5_wholeJobs_61 (by decide) (fun c61 => ?_) (fun c61 => ?_)
        · try rw [nI_leI (by omega) (by omega)] at c61
          refine PW.iload_n hX dX5_wholeJobs_98 rfl rfl ?_
          refine PW.iret hX hR dX5_wholeJobs_99 rfl rfl ?_
          exact ⟨rfl, rfl⟩
        · try rw [nI_leI (by omega) (by omega)] at c61
          exfalso; omega -- CLOSED
      · have h5 := o5 i (by omega)
        have l1 := lyF_lt ok' ⟨t1, t2⟩ i (tyn T) (Nat.le_refl _)
        have e1 : lyN (tysh T) (tynl T) (tyn T) i = orN (lyF (tysh T) i) (tyn T) := by unfold lyN; rw [if_pos (by omega)]
        have l2 : upTo (plsh P i) < 2 ^ 10 := by
          have : 2 ^ (plsh P i + 1) ≤ 2 ^ 10 := Nat.pow_le_pow_right (by decide) (by omega)
          unfold upTo
          omega
        refine PW.iload_n hX dX5_wholeJobs_56 rfl rfl ?_
        refine PW.aload_n hX dX5_wholeJobs_57 rfl rfl ?_
        refine PW.getfield hX fl_X5_70 dX5_wholeJobs_58 rfl rfl ?_
        refine PW.icmp_ge (tgt := 98) hX dX5_wholeJobs_61 (by decide) (fun c61 => ?_) (fun c61 => ?_)
        · try rw [nI_leI (by omega) (by omega)] at c61
          exfalso; omega -- CLOSED
        · try rw [nI_leI (by omega) (by omega)] at c61
          refine PW.iload_n hX dX5_wholeJobs_64 rfl rfl ?_
          refine PW.aload_n hX dX5_wholeJobs_65 rfl rfl ?_
          refine PW.getfield hX fl_X5_15 dX5_wholeJobs_66 rfl rfl ?_
          refine PW.iload_n hX dX5_wholeJobs_69 rfl rfl ?_
          refine PW.iaload hX dX5_wholeJobs_70 rfl rfl rfl (by omega) ?_
          refine PW.top (show nI (lyN (tysh T) (tynl T) (tyn T) i) = nI (orN (lyF (tysh T) i) (tyn T)) by rw [e1]) ?_
          refine PW.aload_n hX dX5_wholeJobs_71 rfl rfl ?_
          refine PW.getfield hX fl_X5_73 dX5_wholeJobs_72 rfl rfl ?_
          refine PW.iload_n hX dX5_wholeJobs_75 rfl rfl ?_
          refine PW.iaload hX dX5_wholeJobs_76 rfl rfl rfl (by omega) ?_
          refine PW.nR hX ml_X5_76 (pm_bitsUpTo (plsh P i) (by omega)) dX5_wholeJobs_77 rfl rfl rfl rfl rfl rfl ?_
          refine PW.icmp_ne (tgt := 89) hX dX5_wholeJobs_80 (by decide) (fun c80 => ?_) (fun c80 => ?_)
          · first | rw [nI_eq (by omega) (by omega)] at c80 | rw [oI_eq9] at c80 | skip
            have e : whF P T i = 0 := by unfold whF; rw [if_neg c80]
            refine PW.iconst (v := nI 0) hX dX5_wholeJobs_89 (by decide) ?_
            refine PW.top (congrArg nI e.symm) ?_
            refine PW.ior hX dX5_wholeJobs_90 ?_
            refine PW.top (nI_or _ _) ?_
            refine PW.istore_n hX dX5_wholeJobs_91 rfl rfl ?_
            first | refine PW.iinc hX dX5_wholeJobs_92 rfl (iincN _) ?_ | refine PW.iinc hX dX5_wholeJobs_92 rfl rfl ?_
            refine PW.goto (tgt := 56) hX dX5_wholeJobs_95 (by decide) ?_
            exact ih (i + 1) (by omega) (by omega)
          · first | rw [nI_eq (by omega) (by omega)] at c80 | rw [oI_eq9] at c80 | skip
            have e : whF P T i = 2 ^ i := by unfold whF; rw [if_pos c80]
            refine PW.iconst (v := nI 1) hX dX5_wholeJobs_83 (by decide) ?_
            refine PW.iload_n hX dX5_wholeJobs_84 rfl rfl ?_
            refine PW.ishl hX dX5_wholeJobs_85 ?_
            refine PW.top (nI_shl1 (by omega)) ?_
            refine PW.goto (tgt := 90) hX dX5_wholeJobs_86 (by decide) ?_
            refine PW.top (congrArg nI e.symm) ?_
            refine PW.ior hX dX5_wholeJobs_90 ?_
            refine PW.top (nI_or _ _) ?_
            refine PW.istore_n hX dX5_wholeJobs_91 rfl rfl ?_
            first | refine PW.iinc hX dX5_wholeJobs_92 rfl (iincN _) ?_ | refine PW.iinc hX dX5_wholeJobs_92 rfl rfl ?_
            refine PW.goto (tgt := 56) hX dX5_wholeJobs_95 (by decide) ?_
            exact ih (i + 1) (by omega) (by omega)
  have loop1 : ∀ k i : Nat, i ≤ tyn T → tyn T < i + k → PW X 10 [some (.ref 0), some (.ref 3), some (.int (nI i)), none] [] (tyB 0 (tysh T, lyN (tysh T) (tynl T) i, tyn T) ++ plB 3 P) 0 0 := by
    intro k
    induction k with
    | zero => intro i h1 h2; exact absurd h2 (by omega)
    | succ k ih =>
      intro i h1 h2
      by_cases hi : i = tyn T
      · subst hi
        refine PW.iload_n hX dX5_wholeJobs_10 rfl rfl ?_
        refine PW.aload_n hX dX5_wholeJobs_11 rfl rfl ?_
        refine PW.getfield hX fl_X5_18 dX5_wholeJobs_12 rfl rfl ?_
        refine PW.top (show _ = nI (tyn T) from rfl) ?_
        refine PW.icmp_ge (tgt := 52) hX dX5_wholeJobs_15 (by decide) (fun c15 => ?_) (fun c15 => ?_)
        · try rw [nI_leI (by omega) (by omega)] at c15
          refine PW.iconst (v := nI 0) hX dX5_wholeJobs_52 (by decide) ?_
          refine PW.istore_n hX dX5_wholeJobs_53 rfl rfl ?_
          refine PW.iconst (v := nI 0) hX dX5_wholeJobs_54 (by decide) ?_
          refine PW.istore_n hX dX5_wholeJobs_55 rfl rfl ?_
          exact loop2 (plnj P + 1) 0 (by omega) (by omega)
        · try rw [nI_leI (by omega) (by omega)] at c15
          exfalso; omega -- CLOSED
      · have hs := isSh_lt ok' (t2 i (by omega))
        have e : upd (fun j => nI (lyN (tysh T) (tynl T) i j)) (tysh T i / 10) (nI (lyN (tysh T) (tynl T) i (tysh T i / 10) ||| 2 ^ (tysh T i % 10))) = fun j => nI (lyN (tysh T) (tynl T) (i + 1) j) := by
          rw [upd_nI]
          funext j
          congr 1
          simp only [va_up]
          by_cases h : j = tysh T i / 10
          · rw [if_pos h]
            subst h
            unfold lyN
            rw [if_pos (by omega), if_pos (by omega), orN]
            congr 1
            unfold lyF
            rw [if_pos rfl]
          · rw [if_neg h]
            unfold lyN
            by_cases h6 : j < 6
            · rw [if_pos h6, if_pos h6, orN]
              unfold lyF
              rw [if_neg (fun q => h q.symm), Nat.or_zero]
            · rw [if_neg h6, if_neg h6]
        refine PW.iload_n hX dX5_wholeJobs_10 rfl rfl ?_
        refine PW.aload_n hX dX5_wholeJobs_11 rfl rfl ?_
        refine PW.getfield hX fl_X5_18 dX5_wholeJobs_12 rfl rfl ?_
        refine PW.top (show _ = nI (tyn T) from rfl) ?_
        refine PW.icmp_ge (tgt := 52) hX dX5_wholeJobs_15 (by decide) (fun c15 => ?_) (fun c15 => ?_)
        · try rw [nI_leI (by omega) (by omega)] at c15
          exfalso; omega -- CLOSED
        · try rw [nI_leI (by omega) (by omega)] at c15
          refine PW.aload_n hX dX5_wholeJobs_18 rfl rfl ?_
          refine PW.getfield hX fl_X5_15 dX5_wholeJobs_19 rfl rfl ?_
          refine PW.aload_n hX dX5_wholeJobs_22 rfl rfl ?_
          refine PW.getfield hX fl_X5_9 dX5_wholeJobs_23 rfl rfl ?_
          refine PW.iload_n hX dX5_wholeJobs_26 rfl rfl ?_
          refine PW.iaload hX dX5_wholeJobs_27 rfl rfl rfl (by omega) ?_
          refine PW.bipush (v := nI 10) hX dX5_wholeJobs_28 (by decide) ?_
          refine PW.idiv hX dX5_wholeJobs_30 (by decide) ?_
          refine PW.top (div10 (show tysh T i < 2 ^ 31 by omega)) ?_
          refine PW.dup2 hX dX5_wholeJobs_31 rfl rfl ?_
          refine PW.iaload (k := tysh T i / 10) hX dX5_wholeJobs_32 rfl rfl rfl (by omega) ?_
          refine PW.iconst (v := nI 1) hX dX5_wholeJobs_33 (by decide) ?_
          refine PW.aload_n hX dX5_wholeJobs_34 rfl rfl ?_
          refine PW.getfield hX fl_X5_9 dX5_wholeJobs_35 rfl rfl ?_
          refine PW.iload_n hX dX5_wholeJobs_38 rfl rfl ?_
          refine PW.iaload hX dX5_wholeJobs_39 rfl rfl rfl (by omega) ?_
          refine PW.bipush (v := nI 10) hX dX5_wholeJobs_40 (by decide) ?_
          refine PW.irem hX dX5_wholeJobs_42 (by decide) ?_
          refine PW.top (rem10 (show tysh T i < 2 ^ 31 by omega)) ?_
          refine PW.ishl hX dX5_wholeJobs_43 ?_
          refine PW.top (nI_shl1 (by omega)) ?_
          refine PW.ior hX dX5_wholeJobs_44 ?_
          refine PW.top (nI_or _ _) ?_
          refine PW.iastore (k := tysh T i / 10) hX dX5_wholeJobs_45 rfl rfl rfl (by omega) ?_
          refine PW.heap (h' := tyB 0 (tysh T, lyN (tysh T) (tynl T) (i + 1), tyn T) ++ plB 3 P) ((congrArg (fun f => (tyB 0 (tysh T, lyN (tysh T) (tynl T) i, tyn T) ++ plB 3 P).set 2 (Sum.inl (0, 6, f))) e).trans rfl) ?_
          first | refine PW.iinc hX dX5_wholeJobs_46 rfl (iincN _) ?_ | refine PW.iinc hX dX5_wholeJobs_46 rfl rfl ?_
          refine PW.goto (tgt := 10) hX dX5_wholeJobs_49 (by decide) ?_
          exact ih (i + 1) (by omega) (by omega)
  have e0 : (fun j => if j < 6 then nI 0 else nI (tynl T j)) = fun j => nI (lyN (tysh T) (tynl T) 0 j) := by
    funext j
    unfold lyN
    split <;> rfl
  refine PW.aload_n hX dX5_wholeJobs_0 rfl rfl ?_
  refine PW.getfield hX fl_X5_15 dX5_wholeJobs_1 rfl rfl ?_
  refine PW.iconst (v := nI 0) hX dX5_wholeJobs_4 (by decide) ?_
  refine PW.sV (h1 := (tyB 0 T ++ plB 3 P).set 2 (.inl (0, 6, fun j => if j < 6 then nI 0 else nI (tynl T j)))) hX ml_X5_64 (pm_fill 6 (by decide) (fun j => nI (tynl T j)) (nI 0)) dX5_wholeJobs_5 [2] rfl rfl rfl rfl rfl rfl rfl rfl rfl rfl rfl rfl ?_
  refine PW.iconst (v := nI 0) hX dX5_wholeJobs_8 (by decide) ?_
  refine PW.istore_n hX dX5_wholeJobs_9 rfl rfl ?_
  refine PW.heap (h' := tyB 0 (tysh T, lyN (tysh T) (tynl T) 0, tyn T) ++ plB 3 P) ((congrArg (fun f => (tyB 0 T ++ plB 3 P).set 2 (Sum.inl (0, 6, f))) e0).trans rfl) ?_
  exact loop1 (tyn T + 1) 0 (by omega) (by omega)
/-- which jobs a taker takes of, as bits; the tray behind it -/
def jwB (P : Pl) (T : Ty) (k o : Nat) : Nat := if k = 1 then orN (ofB P o) (plnj P) else if k = 3 then (if whB P T &&& orN (ofB P o) (plnj P) = 0 then 0 else orN (ofB P o) (plnj P)) else if k = 5 then whB P T &&& orN (ofB P o) (plnj P) else 63
def jwT (T : Ty) (k : Nat) : Ty := if k = 3 ∨ k = 5 then tNl T else T
theorem ofB_lt (P : Pl) (hP : plnj P ≤ 6) (o : Nat) : orN (ofB P o) (plnj P) < 2 ^ 6 := by
  have : ∀ n, n ≤ 6 → orN (ofB P o) n < 2 ^ 6 := by
    intro n
    induction n with
    | zero => intro _; show 0 < 2 ^ 6; decide
    | succ n ih =>
      intro h
      refine Nat.or_lt_two_pow (ih (by omega)) ?_
      unfold ofB
      split
      · exact Nat.pow_lt_pow_right (by decide) (by omega)
      · decide
  exact this _ hP
theorem pm_jobsWanted (P : Pl) (ok : PlOk P) (T : Ty) (to : TyOk P T) (k o : Nat) (hk : k < 6) (ho : o < 4) : PM mu_X5_jobsWanted 2 0 0 [.ref 0, .ref 3, .int (nI k), .int (nI o)] (tyB 0 T ++ plB 3 P) (eqP (some (.int (nI (jwB P T k o)))) (tyB 0 (jwT T k) ++ plB 3 P)) := by
  have hb := ofB_lt P ok.1 o
  have ha : whB P T &&& orN (ofB P o) (plnj P) < 2 ^ 6 := Nat.and_lt_two_pow _ hb
  rcases (show k = 0 ∨ k = 1 ∨ k = 2 ∨ k = 3 ∨ k = 4 ∨ k = 5 by omega) with rfl | rfl | rfl | rfl | rfl | rfl
  · refine PM.start (Or.inl (by decide +kernel)) rfl rfl rfl ?_
    intro X hX hR hx hin
    refine PW.aload_n hX dX5_jobsWanted_0 rfl rfl ?_
    refine PW.iload_n hX dX5_jobsWanted_1 rfl rfl ?_
    refine PW.vR hX ml_X5_57 (pm_jobsOf P ok o ho) dX5_jobsWanted_2 [3, 4, 5, 6, 7, 8, 9, 10] rfl rfl rfl rfl rfl rfl rfl rfl rfl rfl rfl rfl rfl ?_
    refine PW.istore hX dX5_jobsWanted_5 rfl ?_
    refine PW.iload_n hX dX5_jobsWanted_7 rfl rfl ?_
    refine PW.tableOut (tgt := 74) hX dX5_jobsWanted_8 (by decide) (by decide) ?_
    refine PW.bipush (v := nI 63) hX dX5_jobsWanted_74 (by decide) ?_
    refine PW.iret hX hR dX5_jobsWanted_76 rfl rfl ?_
    exact ⟨rfl, rfl⟩
  · refine PM.start (Or.inl (by decide +kernel)) rfl rfl rfl ?_
    intro X hX hR hx hin
    refine PW.aload_n hX dX5_jobsWanted_0 rfl rfl ?_
    refine PW.iload_n hX dX5_jobsWanted_1 rfl rfl ?_
    refine PW.vR hX ml_X5_57 (pm_jobsOf P ok o ho) dX5_jobsWanted_2 [3, 4, 5, 6, 7, 8, 9, 10] rfl rfl rfl rfl rfl rfl rfl rfl rfl rfl rfl rfl rfl ?_
    refine PW.istore hX dX5_jobsWanted_5 rfl ?_
    refine PW.iload_n hX dX5_jobsWanted_7 rfl rfl ?_
    refine PW.tableIn (off := 36) (tgt := 44) hX dX5_jobsWanted_8 (by decide) (by decide) (by decide) (by decide) ?_
    refine PW.iload hX dX5_jobsWanted_44 rfl ?_
    refine PW.iret hX hR dX5_jobsWanted_46 rfl rfl ?_
    exact ⟨rfl, rfl⟩
  · refine PM.start (Or.inl (by decide +kernel)) rfl rfl rfl ?_
    intro X hX hR hx hin
    refine PW.aload_n hX dX5_jobsWanted_0 rfl rfl ?_
    refine PW.iload_n hX dX5_jobsWanted_1 rfl rfl ?_
    refine PW.vR hX ml_X5_57 (pm_jobsOf P ok o ho) dX5_jobsWanted_2 [3, 4, 5, 6, 7, 8, 9, 10] rfl rfl rfl rfl rfl rfl rfl rfl rfl rfl rfl rfl rfl ?_
    refine PW.istore hX dX5_jobsWanted_5 rfl ?_
    refine PW.iload_n hX dX5_jobsWanted_7 rfl rfl ?_
    refine PW.tableIn (off := 66) (tgt := 74) hX dX5_jobsWanted_8 (by decide) (by decide) (by decide) (by decide) ?_
    refine PW.bipush (v := nI 63) hX dX5_jobsWanted_74 (by decide) ?_
    refine PW.iret hX hR dX5_jobsWanted_76 rfl rfl ?_
    exact ⟨rfl, rfl⟩
  · refine PM.start (Or.inl (by decide +kernel)) rfl rfl rfl ?_
    intro X hX hR hx hin
    refine PW.aload_n hX dX5_jobsWanted_0 rfl rfl ?_
    refine PW.iload_n hX dX5_jobsWanted_1 rfl rfl ?_
    refine PW.vR hX ml_X5_57 (pm_jobsOf P ok o ho) dX5_jobsWanted_2 [3, 4, 5, 6, 7, 8, 9, 10] rfl rfl rfl rfl rfl rfl rfl rfl rfl rfl rfl rfl rfl ?_
    refine PW.istore hX dX5_jobsWanted_5 rfl ?_
    refine PW.iload_n hX dX5_jobsWanted_7 rfl rfl ?_
    refine PW.tableIn (off := 39) (tgt := 47) hX dX5_jobsWanted_8 (by decide) (by decide) (by decide) (by decide) ?_
    refine PW.aload_n hX dX5_jobsWanted_47 rfl rfl ?_
    refine PW.aload_n hX dX5_jobsWanted_48 rfl rfl ?_
    refine PW.vI (h1 := tyB 0 (tNl T) ++ plB 3 P) hX ml_X5_60 (pm_wholeJobs P ok T to) dX5_jobsWanted_49 [0, 1, 2, 3, 4, 5, 6, 7, 8, 9, 10] rfl rfl rfl rfl rfl rfl rfl rfl rfl rfl rfl rfl rfl rfl rfl ?_
    refine PW.iload hX dX5_jobsWanted_52 rfl ?_
    refine PW.iand hX dX5_jobsWanted_54 ?_
    refine PW.top (nI_and _ _) ?_
    refine PW.if_eq (tgt := 63) hX dX5_jobsWanted_55 (by decide) (fun c55 => ?_) (fun c55 => ?_)
    · first | rw [bI_d0] at c55 | rw [bI_eq0] at c55 | rw [nI_eq0 (by omega)] at c55 | skip
      refine PW.iconst (v := nI 0) hX dX5_jobsWanted_63 (by decide) ?_
      refine PW.iret hX hR dX5_jobsWanted_64 rfl rfl ?_
      have e : jwB P T 3 o = 0 := by simp [jwB, c55]
      rw [e]
      exact ⟨rfl, rfl⟩
    · first | rw [bI_d0] at c55 | rw [bI_eq0] at c55 | rw [nI_eq0 (by omega)] at c55 | skip
      refine PW.iload hX dX5_jobsWanted_58 rfl ?_
      refine PW.goto (tgt := 64) hX dX5_jobsWanted_60 (by decide) ?_
      refine PW.iret hX hR dX5_jobsWanted_64 rfl rfl ?_
      have e : jwB P T 3 o = orN (ofB P o) (plnj P) := by simp [jwB, c55]
      rw [e]
      exact ⟨rfl, rfl⟩
  · refine PM.start (Or.inl (by decide +kernel)) rfl rfl rfl ?_
    intro X hX hR hx hin
    refine PW.aload_n hX dX5_jobsWanted_0 rfl rfl ?_
    refine PW.iload_n hX dX5_jobsWanted_1 rfl rfl ?_
    refine PW.vR hX ml_X5_57 (pm_jobsOf P ok o ho) dX5_jobsWanted_2 [3, 4, 5, 6, 7, 8, 9, 10] rfl rfl rfl rfl rfl rfl rfl rfl rfl rfl rfl rfl rfl ?_
    refine PW.istore hX dX5_jobsWanted_5 rfl ?_
    refine PW.iload_n hX dX5_jobsWanted_7 rfl rfl ?_
    refine PW.tableIn (off := 66) (tgt := 74) hX dX5_jobsWanted_8 (by decide) (by decide) (by decide) (by decide) ?_
    refine PW.bipush (v := nI 63) hX dX5_jobsWanted_74 (by decide) ?_
    refine PW.iret hX hR dX5_jobsWanted_76 rfl rfl ?_
    exact ⟨rfl, rfl⟩
  · refine PM.start (Or.inl (by decide +kernel)) rfl rfl rfl ?_
    intro X hX hR hx hin
    refine PW.aload_n hX dX5_jobsWanted_0 rfl rfl ?_
    refine PW.iload_n hX dX5_jobsWanted_1 rfl rfl ?_
    refine PW.vR hX ml_X5_57 (pm_jobsOf P ok o ho) dX5_jobsWanted_2 [3, 4, 5, 6, 7, 8, 9, 10] rfl rfl rfl rfl rfl rfl rfl rfl rfl rfl rfl rfl rfl ?_
    refine PW.istore hX dX5_jobsWanted_5 rfl ?_
    refine PW.iload_n hX dX5_jobsWanted_7 rfl rfl ?_
    refine PW.tableIn (off := 57) (tgt := 65) hX dX5_jobsWanted_8 (by decide) (by decide) (by decide) (by decide) ?_
    refine PW.aload_n hX dX5_jobsWanted_65 rfl rfl ?_
    refine PW.aload_n hX dX5_jobsWanted_66 rfl rfl ?_
    refine PW.vI (h1 := tyB 0 (tNl T) ++ plB 3 P) hX ml_X5_60 (pm_wholeJobs P ok T to) dX5_jobsWanted_67 [0, 1, 2, 3, 4, 5, 6, 7, 8, 9, 10] rfl rfl rfl rfl rfl rfl rfl rfl rfl rfl rfl rfl rfl rfl rfl ?_
    refine PW.iload hX dX5_jobsWanted_70 rfl ?_
    refine PW.iand hX dX5_jobsWanted_72 ?_
    refine PW.top (nI_and _ _) ?_
    refine PW.iret hX hR dX5_jobsWanted_73 rfl rfl ?_
    exact ⟨rfl, rfl⟩
