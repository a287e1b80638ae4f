/-! ===== the reference: one object, sixteen arrays ===== -/
abbrev MA : Type := (Nat → Nat) × (Nat → Nat) × (Nat → Nat) × Bool
abbrev MB' : Type := (Nat → Nat) × Nat × Nat × Bool × Nat × (Nat → Nat)
abbrev MC : Type := (Nat → Nat) × (Nat → Nat) × (Nat → Nat) × Nat × (Nat → Nat) × Nat × (Nat → Int32) × (Nat → Int32)
abbrev ME : Type := (Nat → Nat) × Nat × (Nat → Int32)
abbrev Md : Type := MA × MB' × MC × ME
abbrev mrf (M : Md) : Nat → Nat := M.1.1
abbrev mno (M : Md) : Nat → Nat := M.1.2.1
abbrev mth (M : Md) : Nat → Nat := M.1.2.2.1
abbrev mke (M : Md) : Bool := M.1.2.2.2
abbrev mta (M : Md) : Nat → Nat := M.2.1.1
abbrev mtn (M : Md) : Nat := M.2.1.2.1
abbrev mat' (M : Md) : Nat := M.2.1.2.2.1
abbrev mwe (M : Md) : Bool := M.2.1.2.2.2.1
abbrev mso (M : Md) : Nat := M.2.1.2.2.2.2.1
abbrev mfi (M : Md) : Nat → Nat := M.2.1.2.2.2.2.2
abbrev mle (M : Md) : Nat → Nat := M.2.2.1.1
abbrev mou (M : Md) : Nat → Nat := M.2.2.1.2.1
abbrev moa (M : Md) : Nat → Nat := M.2.2.1.2.2.1
abbrev mos (M : Md) : Nat := M.2.2.1.2.2.2.1
abbrev mtr (M : Md) : Nat → Nat := M.2.2.1.2.2.2.2.1
abbrev mly (M : Md) : Nat := M.2.2.1.2.2.2.2.2.1
abbrev mho (M : Md) : Nat → Int32 := M.2.2.1.2.2.2.2.2.2.1
abbrev mwh (M : Md) : Nat → Int32 := M.2.2.1.2.2.2.2.2.2.2
abbrev mli (M : Md) : Nat → Nat := M.2.2.2.1
abbrev mln (M : Md) : Nat := M.2.2.2.2.1
abbrev mwy (M : Md) : Nat → Int32 := M.2.2.2.2.2
def bgF : Nat → Int32 := upd (upd (upd (fun _ => 0) 0 (vp_nar .char (nI 106))) 1 (vp_nar .char (nI 109))) 2 (vp_nar .char (nI 116))
def maF : Nat → Int32 := upd (upd (upd (upd (upd (upd (fun _ => 0) 0 (vp_nar .char (nI 102))) 1 (vp_nar .char (nI 115))) 2 (vp_nar .char (nI 116))) 3 (vp_nar .char (nI 111))) 4 (vp_nar .char (nI 97))) 5 (vp_nar .char (nI 98))
def tkF : Nat → Int32 := upd (upd (upd (upd (upd (upd (fun _ => 0) 0 (vp_nar .char (nI 97))) 1 (vp_nar .char (nI 111))) 2 (vp_nar .char (nI 104))) 3 (vp_nar .char (nI 110))) 4 (vp_nar .char (nI 100))) 5 (vp_nar .char (nI 99))
def mdB (M : Md) : List PCell := [.inr (7, [.ref 1, .ref 2, .ref 3, .int (bI (mke M)), .ref 4, .int (nI (mtn M)), .int (nI (mat' M)), .int (bI (mwe M)), .ref 5, .ref 6, .ref 7, .int (nI (mso M)), .ref 8, .ref 9, .ref 10, .ref 11, .int (nI (mos M)), .ref 12, .int (nI (mly M)), .ref 13, .ref 14, .ref 15, .int (nI (mln M)), .ref 16]),
  .inl (0, 7, fun j => nI (mrf M j)), .inl (0, 80, fun j => nI (mno M j)), .inl (0, 80, fun j => nI (mth M j)), .inl (0, 80, fun j => nI (mta M j)), .inl (1, 3, bgF), .inl (1, 6, maF), .inl (1, 6, tkF), .inl (0, 4, fun j => nI (mfi M j)), .inl (0, 6, fun j => nI (mle M j)), .inl (0, 100, fun j => nI (mou M j)), .inl (0, 100, fun j => nI (moa M j)), .inl (0, 100, fun j => nI (mtr M j)), .inl (0, 60, mho M), .inl (2, 6, mwh M), .inl (0, 20, fun j => nI (mli M j)), .inl (0, 1000, mwy M)]
def sA (M : Md) (A : MA) : Md := (A, M.2)
def sB (M : Md) (B : MB') : Md := (M.1, B, M.2.2)
def sC (M : Md) (C : MC) : Md := (M.1, M.2.1, C, M.2.2.2)
def sE (M : Md) (E : ME) : Md := (M.1, M.2.1, M.2.2.1, E)
def mNo (M : Md) (k : Nat) : Md := sA M (va_up (mrf M) k (mrf M k + 1), mno M, mth M, mke M)
theorem pm_no (M : Md) (x : Int32) (k : Nat) (hng : -x = nI k) (h7 : k < 7) : PM mu_X7_no 0 0 0 [.ref 0, .int x] (mdB M) (eqP (some (.int x)) (mdB (mNo M k))) := by
  refine PM.start (Or.inl (by decide +kernel)) rfl rfl rfl ?_
  intro X hX hR hx hin
  refine PW.aload_n hX dX7_no_0 rfl rfl ?_
  refine PW.getfield hX fl_X7_1 dX7_no_1 rfl rfl ?_
  refine PW.iload_n hX dX7_no_4 rfl rfl ?_
  refine PW.ineg hX dX7_no_5 ?_
  refine PW.top hng ?_
  refine PW.dup2 hX dX7_no_6 rfl rfl ?_
  refine PW.iaload hX dX7_no_7 rfl rfl rfl (by omega) ?_
  refine PW.iconst (v := nI 1) hX dX7_no_8 (by decide) ?_
  refine PW.iadd hX dX7_no_9 ?_
  refine PW.top (nI_add _ 1) ?_
  refine PW.iastore hX dX7_no_10 rfl rfl rfl (by omega) ?_
  refine PW.iload_n hX dX7_no_11 rfl rfl ?_
  refine PW.iret hX hR dX7_no_12 rfl rfl ?_
  exact ⟨rfl, by simp only [upd_nI]; rfl⟩
def mImage (M : Md) : Int32 × Md := (nI (mno M 0), sA M (mrf M, mno M, (fun j => if j < 80 then mno M j else mth M j), true))
theorem cpyUp (f g : Nat → Nat) (i : Nat) : upd (fun j => nI (if j < i then f j else g j)) i (nI (f i)) = fun j => nI (if j < i + 1 then f j else g j) := by
  rw [upd_nI]
  funext j
  congr 1
  simp only [va_up]
  by_cases h : j = i
  · subst h; simp
  · rw [if_neg h]
    by_cases h3 : j < i
    · rw [if_pos h3, if_pos (by omega)]
    · rw [if_neg h3, if_neg (by omega)]
theorem pm_mimage (M : Md) : PM mu_X7_image 0 0 0 [.ref 0] (mdB M) (eqP (some (.int (mImage M).1)) (mdB (mImage M).2)) := by
  refine PM.start (Or.inl (by decide +kernel)) rfl rfl rfl ?_
  intro X hX hR hx hin
  have loop : ∀ n i : Nat, i + n = 80 → PW X 7 [some (.ref 0), some (.int (nI i))] [] (mdB (sA M (mrf M, mno M, (fun j => if j < i then mno M j else mth M j), true))) 0 0 := by
    intro n
    induction n with
    | zero =>
      intro i h1
      have e : i = 80 := by omega
      subst e
      refine PW.iload_n hX dX7_image_7 rfl rfl ?_
      refine PW.bipush (v := nI 80) hX dX7_image_8 (by decide) ?_
      refine PW.icmp_ge (tgt := 31) hX dX7_image_10 (by decide) (fun c10 => ?_) (fun c10 => ?_)
      · try rw [nI_leI (by omega) (by omega)] at c10
        refine PW.aload_n hX dX7_image_31 rfl rfl ?_
        refine PW.getfield hX fl_X7_13 dX7_image_32 rfl rfl ?_
        refine PW.iconst (v := nI 0) hX dX7_image_35 (by decide) ?_
        refine PW.iaload (k := 0) hX dX7_image_36 rfl rfl rfl (by omega) ?_
        refine PW.iret hX hR dX7_image_37 rfl rfl ?_
        exact ⟨rfl, rfl⟩
      · try rw [nI_leI (by omega) (by omega)] at c10
        exfalso; omega -- CLOSED
    | succ n ih =>
      intro i h1
      have nx := ih (i + 1) (by omega)
      refine PW.iload_n hX dX7_image_7 rfl rfl ?_
      refine PW.bipush (v := nI 80) hX dX7_image_8 (by decide) ?_
      refine PW.icmp_ge (tgt := 31) hX dX7_image_10 (by decide) (fun c10 => ?_) (fun c10 => ?_)
      · try rw [nI_leI (by omega) (by omega)] at c10
        exfalso; omega -- CLOSED
      · try rw [nI_leI (by omega) (by omega)] at c10
        refine PW.aload_n hX dX7_image_13 rfl rfl ?_
        refine PW.getfield hX fl_X7_16 dX7_image_14 rfl rfl ?_
        refine PW.iload_n hX dX7_image_17 rfl rfl ?_
        refine PW.aload_n hX dX7_image_18 rfl rfl ?_
        refine PW.getfield hX fl_X7_13 dX7_image_19 rfl rfl ?_
        refine PW.iload_n hX dX7_image_22 rfl rfl ?_
        refine PW.iaload hX dX7_image_23 rfl rfl rfl (by omega) ?_
        refine PW.iastore hX dX7_image_24 rfl rfl rfl (by omega) ?_
        refine PW.heap (h' := mdB (sA M (mrf M, mno M, (fun j => if j < i + 1 then mno M j else mth M j), true))) ((congrArg (fun f => (mdB (sA M (mrf M, mno M, (fun j => if j < i then mno M j else mth M j), true))).set 3 (Sum.inl (0, 80, f))) (cpyUp (mno M) (mth M) i)).trans rfl) ?_
        first | refine PW.iinc hX dX7_image_25 rfl (iincN _) ?_ | refine PW.iinc hX dX7_image_25 rfl rfl ?_
        refine PW.goto (tgt := 7) hX dX7_image_28 (by decide) ?_
        exact nx
  have h7 := loop 80 0 rfl
  simp only [Nat.not_lt_zero, if_false] at h7
  refine PW.aload_n hX dX7_image_0 rfl rfl ?_
  refine PW.iconst (v := nI 1) hX dX7_image_1 (by decide) ?_
  refine PW.putZ hX fp_X7_60 dX7_image_2 (by first | exact Or.inl rfl | exact Or.inr rfl | assumption) rfl rfl ?_
  refine PW.iconst (v := nI 0) hX dX7_image_5 (by decide) ?_
  refine PW.istore_n hX dX7_image_6 rfl rfl ?_
  exact h7
def mOn (M : Md) : Int32 × Md := bif mke M then (nI (mth M 0), sA M (mrf M, (fun j => if j < 80 then mth M j else mno M j), mth M, mke M)) else (-3, mNo M 3)
theorem pm_mon (M : Md) : PM mu_X7_on 1 0 0 [.ref 0] (mdB M) (eqP (some (.int (mOn M).1)) (mdB (mOn M).2)) := by
  cases hk : mke M with
  | false =>
    have e : mOn M = (-3, mNo M 3) := by unfold mOn; rw [hk]; rfl
    rw [e]
    refine PM.start (Or.inl (by decide +kernel)) rfl rfl rfl ?_
    intro X hX hR hx hin
    refine PW.aload_n hX dX7_on_0 rfl rfl ?_
    refine PW.getfield hX fl_X7_60 dX7_on_1 rfl rfl ?_
    refine PW.if_ne (tgt := 14) hX dX7_on_4 (by decide) (fun c4 => ?_) (fun c4 => ?_)
    · first | rw [bI_d0] at c4 | rw [bI_eq0] at c4 | rw [nI_eq0 (by omega)] at c4 | skip
      exact absurd hk c4 -- CLOSED
    · first | rw [bI_d0] at c4 | rw [bI_eq0] at c4 | rw [nI_eq0 (by omega)] at c4 | skip
      refine PW.aload_n hX dX7_on_7 rfl rfl ?_
      refine PW.bipush (v := (-3)) hX dX7_on_8 (by decide) ?_
      refine PW.vIi hX ml_X7_64 (pm_no M (-3) 3 (by decide) (by decide)) dX7_on_10 17 rfl rfl rfl rfl rfl rfl rfl rfl rfl rfl rfl rfl rfl rfl rfl ?_
      refine PW.iret hX hR dX7_on_13 rfl rfl ?_
      exact ⟨rfl, rfl⟩
  | true =>
    have e : mOn M = (nI (mth M 0), sA M (mrf M, (fun j => if j < 80 then mth M j else mno M j), mth M, mke M)) := by unfold mOn; rw [hk]; rfl
    rw [e]
    refine PM.start (Or.inl (by decide +kernel)) rfl rfl rfl ?_
    intro X hX hR hx hin
    have loop : ∀ n i : Nat, i + n = 80 → PW X 16 [some (.ref 0), some (.int (nI i))] [] (mdB (sA M (mrf M, (fun j => if j < i then mth M j else mno M j), mth M, mke M))) 0 0 := by
      intro n
      induction n with
      | zero =>
        intro i h1
        have e : i = 80 := by omega
        subst e
        refine PW.iload_n hX dX7_on_16 rfl rfl ?_
        refine PW.bipush (v := nI 80) hX dX7_on_17 (by decide) ?_
        refine PW.icmp_ge (tgt := 40) hX dX7_on_19 (by decide) (fun c19 => ?_) (fun c19 => ?_)
        · try rw [nI_leI (by omega) (by omega)] at c19
          refine PW.aload_n hX dX7_on_40 rfl rfl ?_
          refine PW.getfield hX fl_X7_13 dX7_on_41 rfl rfl ?_
          refine PW.iconst (v := nI 0) hX dX7_on_44 (by decide) ?_
          refine PW.iaload (k := 0) hX dX7_on_45 rfl rfl rfl (by omega) ?_
          refine PW.iret hX hR dX7_on_46 rfl rfl ?_
          exact ⟨rfl, rfl⟩
        · try rw [nI_leI (by omega) (by omega)] at c19
          exfalso; omega -- CLOSED
      | succ n ih =>
        intro i h1
        have nx := ih (i + 1) (by omega)
        refine PW.iload_n hX dX7_on_16 rfl rfl ?_
        refine PW.bipush (v := nI 80) hX dX7_on_17 (by decide) ?_
        refine PW.icmp_ge (tgt := 40) hX dX7_on_19 (by decide) (fun c19 => ?_) (fun c19 => ?_)
        · try rw [nI_leI (by omega) (by omega)] at c19
          exfalso; omega -- CLOSED
        · try rw [nI_leI (by omega) (by omega)] at c19
          refine PW.aload_n hX dX7_on_22 rfl rfl ?_
          refine PW.getfield hX fl_X7_13 dX7_on_23 rfl rfl ?_
          refine PW.iload_n hX dX7_on_26 rfl rfl ?_
          refine PW.aload_n hX dX7_on_27 rfl rfl ?_
          refine PW.getfield hX fl_X7_16 dX7_on_28 rfl rfl ?_
          refine PW.iload_n hX dX7_on_31 rfl rfl ?_
          refine PW.iaload hX dX7_on_32 rfl rfl rfl (by omega) ?_
          refine PW.iastore hX dX7_on_33 rfl rfl rfl (by omega) ?_
          refine PW.heap (h' := mdB (sA M (mrf M, (fun j => if j < i + 1 then mth M j else mno M j), mth M, mke M))) ((congrArg (fun f => (mdB (sA M (mrf M, (fun j => if j < i then mth M j else mno M j), mth M, mke M))).set 2 (Sum.inl (0, 80, f))) (cpyUp (mth M) (mno M) i)).trans rfl) ?_
          first | refine PW.iinc hX dX7_on_34 rfl (iincN _) ?_ | refine PW.iinc hX dX7_on_34 rfl rfl ?_
          refine PW.goto (tgt := 16) hX dX7_on_37 (by decide) ?_
          exact nx
    have h16 := loop 80 0 rfl
    simp only [Nat.not_lt_zero, if_false] at h16
    refine PW.aload_n hX dX7_on_0 rfl rfl ?_
    refine PW.getfield hX fl_X7_60 dX7_on_1 rfl rfl ?_
    refine PW.if_ne (tgt := 14) hX dX7_on_4 (by decide) (fun c4 => ?_) (fun c4 => ?_)
    · first | rw [bI_d0] at c4 | rw [bI_eq0] at c4 | rw [nI_eq0 (by omega)] at c4 | skip
      refine PW.iconst (v := nI 0) hX dX7_on_14 (by decide) ?_
      refine PW.istore_n hX dX7_on_15 rfl rfl ?_
      exact h16
    · first | rw [bI_d0] at c4 | rw [bI_eq0] at c4 | rw [nI_eq0 (by omega)] at c4 | skip
      exact absurd (hk.symm.trans c4) (by decide) -- CLOSED
def mLetter (M : Md) (x : Int32) : Int32 × Md := if x < 0 then (-4, mNo M 4) else if nI 255 < x ∨ mtn M = 80 then (-6, mNo M 6) else (nI (mtn M + 1), sB M (va_up (mta M) (mtn M) x.toNatClampNeg, mtn M + 1, mat' M, mwe M, mso M, mfi M))
theorem pm_mletter (M : Md) (hn : mtn M ≤ 80) (x : Int32) : PM mu_X7_letter 1 0 0 [.ref 0, .int x] (mdB M) (eqP (some (.int (mLetter M x).1)) (mdB (mLetter M x).2)) := by
  unfold mLetter
  by_cases h0 : x < 0
  · rw [if_pos h0]
    refine PM.start (Or.inl (by decide +kernel)) rfl rfl rfl ?_
    intro X hX hR hx hin
    refine PW.iload_n hX dX7_letter_0 rfl rfl ?_
    refine PW.if_ge (tgt := 11) hX dX7_letter_1 (by decide) (fun c1 => ?_) (fun c1 => ?_)
    · exact absurd h0 (i32_ge0 c1) -- CLOSED
    · refine PW.aload_n hX dX7_letter_4 rfl rfl ?_
      refine PW.bipush (v := (-4)) hX dX7_letter_5 (by decide) ?_
      refine PW.vIi hX ml_X7_64 (pm_no M (-4) 4 (by decide) (by decide)) dX7_letter_7 17 rfl rfl rfl rfl rfl rfl rfl rfl rfl rfl rfl rfl rfl rfl rfl ?_
      refine PW.iret hX hR dX7_letter_10 rfl rfl ?_
      exact ⟨rfl, rfl⟩
  · rw [if_neg h0]
    by_cases h1 : nI 255 < x ∨ mtn M = 80
    · rw [if_pos h1]
      refine PM.start (Or.inl (by decide +kernel)) rfl rfl rfl ?_
      intro X hX hR hx hin
      refine PW.iload_n hX dX7_letter_0 rfl rfl ?_
      refine PW.if_ge (tgt := 11) hX dX7_letter_1 (by decide) (fun c1 => ?_) (fun c1 => ?_)
      · refine PW.iload_n hX dX7_letter_11 rfl rfl ?_
        refine PW.sipush (v := nI 255) hX dX7_letter_12 (by decide) ?_
        refine PW.icmp_gt (tgt := 27) hX dX7_letter_15 (by decide) (fun c15 => ?_) (fun c15 => ?_)
        · refine PW.aload_n hX dX7_letter_27 rfl rfl ?_
          refine PW.bipush (v := (-6)) hX dX7_letter_28 (by decide) ?_
          refine PW.vIi hX ml_X7_64 (pm_no M (-6) 6 (by decide) (by decide)) dX7_letter_30 17 rfl rfl rfl rfl rfl rfl rfl rfl rfl rfl rfl rfl rfl rfl rfl ?_
          refine PW.iret hX hR dX7_letter_33 rfl rfl ?_
          exact ⟨rfl, rfl⟩
        · refine PW.aload_n hX dX7_letter_18 rfl rfl ?_
          refine PW.getfield hX fl_X7_68 dX7_letter_19 rfl rfl ?_
          refine PW.bipush (v := nI 80) hX dX7_letter_22 (by decide) ?_
          refine PW.icmp_ne (tgt := 34) hX dX7_letter_24 (by decide) (fun c24 => ?_) (fun c24 => ?_)
          · rw [nI_eq (by omega) (by omega)] at c24
            exact absurd h1 (fun q => q.elim c15 c24) -- CLOSED
          · refine PW.aload_n hX dX7_letter_27 rfl rfl ?_
            refine PW.bipush (v := (-6)) hX dX7_letter_28 (by decide) ?_
            refine PW.vIi hX ml_X7_64 (pm_no M (-6) 6 (by decide) (by decide)) dX7_letter_30 17 rfl rfl rfl rfl rfl rfl rfl rfl rfl rfl rfl rfl rfl rfl rfl ?_
            refine PW.iret hX hR dX7_letter_33 rfl rfl ?_
            exact ⟨rfl, rfl⟩
      · exact absurd (i32_lt0 c1) h0 -- CLOSED
    · rw [if_neg h1]
      obtain ⟨k, hk, rfl⟩ := nI_of h0
      rw [nI_clamp hk]
      refine PM.start (Or.inl (by decide +kernel)) rfl rfl rfl ?_
      intro X hX hR hx hin
      refine PW.iload_n hX dX7_letter_0 rfl rfl ?_
      refine PW.if_ge (tgt := 11) hX dX7_letter_1 (by decide) (fun c1 => ?_) (fun c1 => ?_)
      · refine PW.iload_n hX dX7_letter_11 rfl rfl ?_
        refine PW.sipush (v := nI 255) hX dX7_letter_12 (by decide) ?_
        refine PW.icmp_gt (tgt := 27) hX dX7_letter_15 (by decide) (fun c15 => ?_) (fun c15 => ?_)
        · exact absurd (Or.inl c15) h1 -- CLOSED
        · refine PW.aload_n hX dX7_letter_18 rfl rfl ?_
          refine PW.getfield hX fl_X7_68 dX7_letter_19 rfl rfl ?_
          refine PW.bipush (v := nI 80) hX dX7_letter_22 (by decide) ?_
          refine PW.icmp_ne (tgt := 34) hX dX7_letter_24 (by decide) (fun c24 => ?_) (fun c24 => ?_)
          · rw [nI_eq (by omega) (by omega)] at c24
            refine PW.aload_n hX dX7_letter_34 rfl rfl ?_
            refine PW.getfield hX fl_X7_19 dX7_letter_35 rfl rfl ?_
            refine PW.aload_n hX dX7_letter_38 rfl rfl ?_
            refine PW.getfield hX fl_X7_68 dX7_letter_39 rfl rfl ?_
            refine PW.iload_n hX dX7_letter_42 rfl rfl ?_
            refine PW.iastore hX dX7_letter_43 rfl rfl rfl (by omega) ?_
            refine PW.aload_n hX dX7_letter_44 rfl rfl ?_
            refine PW.dup hX dX7_letter_45 rfl ?_
            refine PW.getfield hX fl_X7_68 dX7_letter_46 rfl rfl ?_
            refine PW.iconst (v := nI 1) hX dX7_letter_49 (by decide) ?_
            refine PW.iadd hX dX7_letter_50 ?_
            refine PW.top (nI_add _ 1) ?_
            refine PW.putI hX fp_X7_68 dX7_letter_51 rfl rfl ?_
            refine PW.aload_n hX dX7_letter_54 rfl rfl ?_
            refine PW.getfield hX fl_X7_68 dX7_letter_55 rfl rfl ?_
            refine PW.iret hX hR dX7_letter_58 rfl rfl ?_
            exact ⟨rfl, by simp only [upd_nI]; rfl⟩
          · rw [nI_eq (by omega) (by omega)] at c24
            exact absurd (Or.inr c24) h1 -- CLOSED
      · exact absurd (i32_lt0 c1) h0 -- CLOSED
