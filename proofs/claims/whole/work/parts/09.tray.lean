theorem nI_and (a b : Nat) : nI a &&& nI b = nI (a &&& b) := by
  apply Int32.toBitVec_inj.mp
  show BitVec.ofNat 32 a &&& BitVec.ofNat 32 b = BitVec.ofNat 32 (a &&& b)
  apply BitVec.eq_of_getLsbD_eq
  intro i hi
  simp [BitVec.getLsbD_ofNat, hi]
theorem upd_oI (g : Nat → Option Nat) (k : Nat) (x : Nat) : upd (fun j => oI (g j)) k (nI x) = fun j => oI (va_up g k (some x) j) := by
  funext j
  simp only [upd, va_up]
  split <;> rfl
theorem nI_lt_sub {i a b : Nat} (hi : i < 2 ^ 30) (ha : a < 2 ^ 30) (hb : b < 2 ^ 30) : nI i < nI a - nI b ↔ i + b < a := by
  rw [Int32.lt_iff_toInt_lt, pk_sub_toInt ha hb, nI_toInt (by omega)]
  omega
/-! Arrays.fill -/
theorem pm_fill (n : Nat) (hn : n < 1000) (f : Nat → Int32) (v : Int32) : PM mu_J7_fill_53178 0 0 0 [.ref 0, .int v] [.inl (0, n, f)] (eqP none [.inl (0, n, fun j => if j < n then v else f j)]) := by
  refine PM.start (Or.inr (by decide +kernel)) rfl rfl rfl ?_
  intro X hX hR hx hin
  have loop : ∀ k i : Nat, i ≤ n → n < i + k → PW X 5 [some (.ref 0), some (.int v), some (.int (nI i)), some (.int (nI n))] [] [.inl (0, n, fun j => if j < i then v else f j)] 0 0 := by
    intro k
    induction k with
    | zero => intro i h1 h2; exact absurd h2 (by omega)
    | succ k ih =>
      intro i h1 h2
      by_cases hi : i = n
      · subst hi
        refine PW.iload_n hX dJ7_fill_53178_5 rfl rfl ?_
        refine PW.iload_n hX dJ7_fill_53178_6 rfl rfl ?_
        refine PW.icmp_ge (tgt := 20) hX dJ7_fill_53178_7 (by decide) (fun c7 => ?_) (fun c7 => ?_)
        · try rw [nI_leI (by omega) (by omega)] at c7
          refine PW.vret hX hR dJ7_fill_53178_20 rfl rfl ?_
          exact ⟨rfl, rfl⟩
        · try rw [nI_leI (by omega) (by omega)] at c7
          exfalso; omega -- CLOSED
      · have e : upd (fun j => if j < i then v else f j) i v = fun j => if j < i + 1 then v else f j := by
          funext j
          simp only [upd]
          by_cases h : j = i
          · subst h; simp
          · rw [if_neg h]
            by_cases h3 : j < i
            · rw [if_pos h3, if_pos (by omega)]
            · rw [if_neg h3, if_neg (by omega)]
        refine PW.iload_n hX dJ7_fill_53178_5 rfl rfl ?_
        refine PW.iload_n hX dJ7_fill_53178_6 rfl rfl ?_
        refine PW.icmp_ge (tgt := 20) hX dJ7_fill_53178_7 (by decide) (fun c7 => ?_) (fun c7 => ?_)
        · try rw [nI_leI (by omega) (by omega)] at c7
          exfalso; omega -- CLOSED
        · try rw [nI_leI (by omega) (by omega)] at c7
          refine PW.aload_n hX dJ7_fill_53178_10 rfl rfl ?_
          refine PW.iload_n hX dJ7_fill_53178_11 rfl rfl ?_
          refine PW.iload_n hX dJ7_fill_53178_12 rfl rfl ?_
          refine PW.iastore hX dJ7_fill_53178_13 rfl (by rw [Nat.blt_eq]; omega) rfl (by omega) ?_
          refine PW.heap (h' := [.inl (0, n, fun j => if j < i + 1 then v else f j)]) (congrArg (fun f => [(Sum.inl (0, n, f) : PCell)]) e) ?_
          first | refine PW.iinc hX dJ7_fill_53178_14 rfl (iincN _) ?_ | refine PW.iinc hX dJ7_fill_53178_14 rfl rfl ?_
          refine PW.goto (tgt := 5) hX dJ7_fill_53178_17 (by decide) ?_
          exact ih (i + 1) (by omega) (by omega)
  refine PW.iconst (v := nI 0) hX dJ7_fill_53178_0 (by decide) ?_
  refine PW.istore_n hX dJ7_fill_53178_1 rfl rfl ?_
  refine PW.aload_n hX dJ7_fill_53178_2 rfl rfl ?_
  refine PW.alen hX dJ7_fill_53178_3 rfl rfl ?_
  refine PW.istore_n hX dJ7_fill_53178_4 rfl rfl ?_
  refine PW.heap (h' := [.inl (0, n, fun j => if j < 0 then v else f j)]) (by simp only [Nat.not_lt_zero, if_false]) (loop (n + 1) 0 (by omega) (by omega))
/-! ===== the row and the tray ===== -/
abbrev Rw : Type := (Nat → Nat) × Nat × (Nat → Int32) × (Nat → Nat) × (Nat → Option Nat)
abbrev rwnu (R : Rw) : Nat → Nat := R.1
abbrev rwn (R : Rw) : Nat := R.2.1
abbrev rwwy (R : Rw) : Nat → Int32 := R.2.2.1
abbrev rwlo (R : Rw) : Nat → Nat := R.2.2.2.1
abbrev rwfp (R : Rw) : Nat → Option Nat := R.2.2.2.2
def rwB (b : Nat) (R : Rw) : List PCell := [.inr (3, [.ref (b + 1), .int (nI (rwn R)), .ref (b + 2), .ref (b + 3), .ref (b + 4)]), .inl (0, 20, fun j => nI (rwnu R j)), .inl (0, 1000, rwwy R), .inl (0, 10, fun j => nI (rwlo R j)), .inl (0, 100, fun j => oI (rwfp R j))]
def RwOk (R : Rw) : Prop := rwn R ≤ 20 ∧ ∀ i, i < rwn R → rwnu R i < 100
abbrev Ty : Type := (Nat → Nat) × (Nat → Nat) × Nat
abbrev tysh (T : Ty) : Nat → Nat := T.1
abbrev tynl (T : Ty) : Nat → Nat := T.2.1
abbrev tyn (T : Ty) : Nat := T.2.2
def tyB (b : Nat) (T : Ty) : List PCell := [.inr (5, [.ref (b + 1), .ref (b + 2), .int (nI (tyn T))]), .inl (0, 100, fun j => nI (tysh T j)), .inl (0, 6, fun j => nI (tynl T j))]
def TyOk (P : Pl) (T : Ty) : Prop := tyn T ≤ 100 ∧ ∀ i, i < tyn T → isSh P (tysh T i) = true
theorem isSh_lt {P : Pl} (ok : PlOk P) {k : Nat} (h : isSh P k = true) : k < 60 ∧ k / 10 < plnj P ∧ 1 ≤ k % 10 ∧ k % 10 ≤ 9 := by
  simp only [isSh, Bool.and_eq_true, decide_eq_true_eq] at h
  have := ok.1
  have := ok.2.2.2.2.1 (k / 10) h.1
  omega
def tUp (T : Ty) (k : Nat) : Ty := if tyn T < 100 then (va_up (tysh T) (tyn T) k, tynl T, tyn T + 1) else T
def tBen (T : Ty) (k : Nat) : Ty := if tyn T < 100 then (va_up (va_cpy (tysh T) (tysh T) 0 1 (tyn T)) 0 k, tynl T, tyn T + 1) else T
theorem pm_putUpon (T : Ty) (hT : tyn T ≤ 100) (k : Nat) : PM mu_X5_putUpon 0 0 0 [.ref 0, .int (nI k)] (tyB 0 T) (eqP none (tyB 0 (tUp T k))) := by
  refine PM.start (Or.inl (by decide +kernel)) rfl rfl rfl ?_
  intro X hX hR hx hin
  refine PW.aload_n hX dX5_putUpon_0 rfl rfl ?_
  refine PW.getfield hX fl_X5_18 dX5_putUpon_1 rfl rfl ?_
  refine PW.bipush (v := nI 100) hX dX5_putUpon_4 (by decide) ?_
  refine PW.icmp_ge (tgt := 29) hX dX5_putUpon_6 (by decide) (fun c6 => ?_) (fun c6 => ?_)
  · try rw [nI_leI (by omega) (by omega)] at c6
    refine PW.vret hX hR dX5_putUpon_29 rfl rfl ?_
    exact ⟨rfl, by unfold tUp; rw [if_neg (by omega)]⟩
  · try rw [nI_leI (by omega) (by omega)] at c6
    refine PW.aload_n hX dX5_putUpon_9 rfl rfl ?_
    refine PW.getfield hX fl_X5_9 dX5_putUpon_10 rfl rfl ?_
    refine PW.aload_n hX dX5_putUpon_13 rfl rfl ?_
    refine PW.getfield hX fl_X5_18 dX5_putUpon_14 rfl rfl ?_
    refine PW.iload_n hX dX5_putUpon_17 rfl rfl ?_
    refine PW.iastore hX dX5_putUpon_18 rfl rfl rfl (by omega) ?_
    refine PW.aload_n hX dX5_putUpon_19 rfl rfl ?_
    refine PW.dup hX dX5_putUpon_20 rfl ?_
    refine PW.getfield hX fl_X5_18 dX5_putUpon_21 rfl rfl ?_
    refine PW.iconst (v := nI 1) hX dX5_putUpon_24 (by decide) ?_
    refine PW.iadd hX dX5_putUpon_25 ?_
    refine PW.top (nI_add _ 1) ?_
    refine PW.putI hX fp_X5_18 dX5_putUpon_26 rfl rfl ?_
    refine PW.vret hX hR dX5_putUpon_29 rfl rfl ?_
    exact ⟨rfl, by unfold tUp; rw [if_pos (by omega)]; simp only [upd_nI]; rfl⟩
theorem pm_putBeneath (T : Ty) (hT : tyn T ≤ 100) (k : Nat) : PM mu_X5_putBeneath 1 0 0 [.ref 0, .int (nI k)] (tyB 0 T) (eqP none (tyB 0 (tBen T k))) := by
  refine PM.start (Or.inl (by decide +kernel)) rfl rfl rfl ?_
  intro X hX hR hx hin
  refine PW.aload_n hX dX5_putBeneath_0 rfl rfl ?_
  refine PW.getfield hX fl_X5_18 dX5_putBeneath_1 rfl rfl ?_
  refine PW.bipush (v := nI 100) hX dX5_putBeneath_4 (by decide) ?_
  refine PW.icmp_ge (tgt := 43) hX dX5_putBeneath_6 (by decide) (fun c6 => ?_) (fun c6 => ?_)
  · try rw [nI_leI (by omega) (by omega)] at c6
    refine PW.vret hX hR dX5_putBeneath_43 rfl rfl ?_
    exact ⟨rfl, by unfold tBen; rw [if_neg (by omega)]⟩
  · try rw [nI_leI (by omega) (by omega)] at c6
    refine PW.aload_n hX dX5_putBeneath_9 rfl rfl ?_
    refine PW.getfield hX fl_X5_9 dX5_putBeneath_10 rfl rfl ?_
    refine PW.iconst (v := nI 0) hX dX5_putBeneath_13 (by decide) ?_
    refine PW.aload_n hX dX5_putBeneath_14 rfl rfl ?_
    refine PW.getfield hX fl_X5_9 dX5_putBeneath_15 rfl rfl ?_
    refine PW.iconst (v := nI 1) hX dX5_putBeneath_18 (by decide) ?_
    refine PW.aload_n hX dX5_putBeneath_19 rfl rfl ?_
    refine PW.getfield hX fl_X5_18 dX5_putBeneath_20 rfl rfl ?_
    refine PW.acopy (sp := 0) (dp := 1) (n := tyn T) hX ac_X5_22 ac_nat ac_sta ac_ini dX5_putBeneath_23 rfl rfl rfl rfl rfl rfl rfl (by omega) (by omega) rfl rfl ?_
    refine PW.aload_n hX dX5_putBeneath_26 rfl rfl ?_
    refine PW.getfield hX fl_X5_9 dX5_putBeneath_27 rfl rfl ?_
    refine PW.iconst (v := nI 0) hX dX5_putBeneath_30 (by decide) ?_
    refine PW.iload_n hX dX5_putBeneath_31 rfl rfl ?_
    refine PW.iastore (k := 0) hX dX5_putBeneath_32 rfl rfl rfl (by omega) ?_
    refine PW.aload_n hX dX5_putBeneath_33 rfl rfl ?_
    refine PW.dup hX dX5_putBeneath_34 rfl ?_
    refine PW.getfield hX fl_X5_18 dX5_putBeneath_35 rfl rfl ?_
    refine PW.iconst (v := nI 1) hX dX5_putBeneath_38 (by decide) ?_
    refine PW.iadd hX dX5_putBeneath_39 ?_
    refine PW.top (nI_add _ 1) ?_
    refine PW.putI hX fp_X5_18 dX5_putBeneath_40 rfl rfl ?_
    refine PW.vret hX hR dX5_putBeneath_43 rfl rfl ?_
    exact ⟨rfl, by unfold tBen; rw [if_pos (by omega)]; simp only [cpy_nI, upd_nI]; rfl⟩
def fTop (T : Ty) (x : Int32) : Option Nat := bif inB (tyn T) x then some (tysh T (tyn T - 1 - x.toNatClampNeg)) else none
theorem pm_fromTop (T : Ty) (hT : tyn T ≤ 100) (x : Int32) : PM mu_X5_fromTop 0 0 0 [.ref 0, .int x] (tyB 0 T) (eqP (some (.int (oI (fTop T x)))) (tyB 0 T)) := by
  by_cases hb : inB (tyn T) x = true
  · obtain ⟨k, hk, rfl⟩ := inB_of (by omega) hb
    have e : fTop T (nI k) = some (tysh T (tyn T - 1 - k)) := by unfold fTop; rw [hb, nI_clamp (by omega)]; rfl
    rw [e]
    refine PM.start (Or.inl (by decide +kernel)) rfl rfl rfl ?_
    intro X hX hR hx hin
    refine PW.iload_n hX dX5_fromTop_0 rfl rfl ?_
    refine PW.if_lt (tgt := 28) hX dX5_fromTop_1 (by decide) (fun c1 => ?_) (fun c1 => ?_)
    · try rw [nI_lt0 (by omega)] at c1
      exact c1.elim -- CLOSED
    · try rw [nI_lt0 (by omega)] at c1
      refine PW.iload_n hX dX5_fromTop_4 rfl rfl ?_
      refine PW.aload_n hX dX5_fromTop_5 rfl rfl ?_
      refine PW.getfield hX fl_X5_18 dX5_fromTop_6 rfl rfl ?_
      refine PW.icmp_ge (tgt := 28) hX dX5_fromTop_9 (by decide) (fun c9 => ?_) (fun c9 => ?_)
      · try rw [nI_leI (by omega) (by omega)] at c9
        exfalso; omega -- CLOSED
      · try rw [nI_leI (by omega) (by omega)] at c9
        refine PW.aload_n hX dX5_fromTop_12 rfl rfl ?_
        refine PW.getfield hX fl_X5_9 dX5_fromTop_13 rfl rfl ?_
        refine PW.aload_n hX dX5_fromTop_16 rfl rfl ?_
        refine PW.getfield hX fl_X5_18 dX5_fromTop_17 rfl rfl ?_
        refine PW.iconst (v := nI 1) hX dX5_fromTop_20 (by decide) ?_
        refine PW.isub hX dX5_fromTop_21 ?_
        refine PW.iload_n hX dX5_fromTop_22 rfl rfl ?_
        refine PW.isub hX dX5_fromTop_23 ?_
        refine PW.top (show nI (tyn T) - nI 1 - nI k = nI (tyn T - 1 - k) by rw [pk_sub (by omega), pk_sub (by omega)]) ?_
        refine PW.iaload hX dX5_fromTop_24 rfl rfl rfl (by omega) ?_
        refine PW.goto (tgt := 30) hX dX5_fromTop_25 (by decide) ?_
        refine PW.iret hX hR dX5_fromTop_30 rfl rfl ?_
        exact ⟨rfl, rfl⟩
  · have e : fTop T x = none := by unfold fTop; rw [Bool.not_eq_true] at hb; rw [hb]; rfl
    rw [e]
    refine PM.start (Or.inl (by decide +kernel)) rfl rfl rfl ?_
    intro X hX hR hx hin
    refine PW.iload_n hX dX5_fromTop_0 rfl rfl ?_
    refine PW.if_lt (tgt := 28) hX dX5_fromTop_1 (by decide) (fun c1 => ?_) (fun c1 => ?_)
    · refine PW.bipush (v := (-9)) hX dX5_fromTop_28 (by decide) ?_
      refine PW.iret hX hR dX5_fromTop_30 rfl rfl ?_
      exact ⟨rfl, rfl⟩
    · refine PW.iload_n hX dX5_fromTop_4 rfl rfl ?_
      refine PW.aload_n hX dX5_fromTop_5 rfl rfl ?_
      refine PW.getfield hX fl_X5_18 dX5_fromTop_6 rfl rfl ?_
      refine PW.icmp_ge (tgt := 28) hX dX5_fromTop_9 (by decide) (fun c9 => ?_) (fun c9 => ?_)
      · refine PW.bipush (v := (-9)) hX dX5_fromTop_28 (by decide) ?_
        refine PW.iret hX hR dX5_fromTop_30 rfl rfl ?_
        exact ⟨rfl, rfl⟩
      · exact absurd (by simp only [inB, Bool.and_eq_true, Bool.not_eq_true', decide_eq_false_iff_not, decide_eq_true_eq]; exact ⟨c1, i32_nle.mp c9⟩) hb -- CLOSED
theorem pm_looksAs (T : Ty) (hT : tyn T ≤ 100) (hs : ∀ i, i < tyn T → tysh T i < 100) (R : Rw) (hR0 : RwOk R) : PM mu_X5_looksAs 1 0 0 [.ref 0, .ref 3] (tyB 0 T ++ rwB 3 R) (eqP (some (.int (bI (decide (rwn R = tyn T ∧ ∀ i, i < tyn T → tysh T (tyn T - 1 - i) = rwnu R i))))) (tyB 0 T ++ rwB 3 R)) := by
  obtain ⟨r1, r2⟩ := hR0
  refine PM.start (Or.inl (by decide +kernel)) rfl rfl rfl ?_
  intro X hX hR hx hin
  have loop : rwn R = tyn T → ∀ k i : Nat, i ≤ tyn T → tyn T < i + k → (∀ j, j < i → tysh T (tyn T - 1 - j) = rwnu R j) → PW X 15 [some (.ref 0), some (.ref 3), some (.int (nI i))] [] (tyB 0 T ++ rwB 3 R) 0 0 := by
    intro he k
    induction k with
    | zero => intro i h1 h2; exact absurd h2 (by omega)
    | succ k ih =>
      intro i h1 h2 h3
      by_cases hi : i = tyn T
      · subst hi
        refine PW.iload_n hX dX5_looksAs_15 rfl rfl ?_
        refine PW.aload_n hX dX5_looksAs_16 rfl rfl ?_
        refine PW.getfield hX fl_X5_18 dX5_looksAs_17 rfl rfl ?_
        refine PW.icmp_ge (tgt := 45) hX dX5_looksAs_20 (by decide) (fun c20 => ?_) (fun c20 => ?_)
        · try rw [nI_leI (by omega) (by omega)] at c20
          refine PW.iconst (v := nI 1) hX dX5_looksAs_45 (by decide) ?_
          refine PW.zret hX hR dX5_looksAs_46 (by first | exact Or.inl rfl | exact Or.inr rfl | assumption) rfl rfl ?_
          exact ⟨rT (decide_eq_true ⟨he, h3⟩), rfl⟩
        · try rw [nI_leI (by omega) (by omega)] at c20
          exfalso; omega -- CLOSED
      · have e : oI (fTop T (nI i)) = nI (tysh T (tyn T - 1 - i)) := by
          unfold fTop
          rw [inB_nI (by omega) (by omega), decide_eq_true (by omega), nI_clamp (by omega)]
          rfl
        have b1 := hs (tyn T - 1 - i) (by omega)
        have b2 := r2 i (by omega)
        refine PW.iload_n hX dX5_looksAs_15 rfl rfl ?_
        refine PW.aload_n hX dX5_looksAs_16 rfl rfl ?_
        refine PW.getfield hX fl_X5_18 dX5_looksAs_17 rfl rfl ?_
        refine PW.icmp_ge (tgt := 45) hX dX5_looksAs_20 (by decide) (fun c20 => ?_) (fun c20 => ?_)
        · try rw [nI_leI (by omega) (by omega)] at c20
          exfalso; omega -- CLOSED
        · try rw [nI_leI (by omega) (by omega)] at c20
          refine PW.aload_n hX dX5_looksAs_23 rfl rfl ?_
          refine PW.iload_n hX dX5_looksAs_24 rfl rfl ?_
          refine PW.vR hX ml_X5_31 (pm_fromTop T hT (nI i)) dX5_looksAs_25 [0, 1, 2] rfl rfl rfl rfl rfl rfl rfl rfl rfl rfl rfl rfl rfl ?_
          refine PW.top e ?_
          refine PW.aload_n hX dX5_looksAs_28 rfl rfl ?_
          refine PW.getfield hX fl_X5_35 dX5_looksAs_29 rfl rfl ?_
          refine PW.iload_n hX dX5_looksAs_32 rfl rfl ?_
          refine PW.iaload hX dX5_looksAs_33 rfl rfl rfl (by omega) ?_
          refine PW.icmp_eq (tgt := 39) hX dX5_looksAs_34 (by decide) (fun c34 => ?_) (fun c34 => ?_)
          · first | rw [nI_eq (by omega) (by omega)] at c34 | rw [oI_eq9] at c34 | skip
            first | refine PW.iinc hX dX5_looksAs_39 rfl (iincN _) ?_ | refine PW.iinc hX dX5_looksAs_39 rfl rfl ?_
            refine PW.goto (tgt := 15) hX dX5_looksAs_42 (by decide) ?_
            exact ih (i + 1) (by omega) (by omega) (fun j hj => by
              by_cases hj2 : j = i
              · subst hj2; exact c34
              · exact h3 j (by omega))
          · first | rw [nI_eq (by omega) (by omega)] at c34 | rw [oI_eq9] at c34 | skip
            refine PW.iconst (v := nI 0) hX dX5_looksAs_37 (by decide) ?_
            refine PW.zret hX hR dX5_looksAs_38 (by first | exact Or.inl rfl | exact Or.inr rfl | assumption) rfl rfl ?_
            exact ⟨rF (decide_eq_false (fun q => c34 (q.2 i (by omega)))), rfl⟩
  refine PW.aload_n hX dX5_looksAs_0 rfl rfl ?_
  refine PW.getfield hX fl_X5_28 dX5_looksAs_1 rfl rfl ?_
  refine PW.aload_n hX dX5_looksAs_4 rfl rfl ?_
  refine PW.getfield hX fl_X5_18 dX5_looksAs_5 rfl rfl ?_
  refine PW.icmp_eq (tgt := 13) hX dX5_looksAs_8 (by decide) (fun c8 => ?_) (fun c8 => ?_)
  · first | rw [nI_eq (by omega) (by omega)] at c8 | rw [oI_eq9] at c8 | skip
    refine PW.iconst (v := nI 0) hX dX5_looksAs_13 (by decide) ?_
    refine PW.istore_n hX dX5_looksAs_14 rfl rfl ?_
    exact loop c8 (tyn T + 1) 0 (by omega) (by omega) (fun j hj => absurd hj (by omega))
  · first | rw [nI_eq (by omega) (by omega)] at c8 | rw [oI_eq9] at c8 | skip
    refine PW.iconst (v := nI 0) hX dX5_looksAs_11 (by decide) ?_
    refine PW.zret hX hR dX5_looksAs_12 (by first | exact Or.inl rfl | exact Or.inr rfl | assumption) rfl rfl ?_
    exact ⟨rF (decide_eq_false (fun q => c8 q.1)), rfl⟩
