/-! ===== the reference: job taker change sent comes machine ===== -/
def mNw (M : Md) (f : Nat → Nat) : Md := sA M (mrf M, f, mth M, mke M)
def mJob (M : Md) (x y : Int32) : Int32 × Md := bif inB (mno M 0) x then (bif inB 3 y then (nI (mno M (10 + 10 * y.toNatClampNeg + x.toNatClampNeg)), M) else (-2, mNo M 2)) else (-1, mNo M 1)
def mTak (M : Md) (x y : Int32) : Int32 × Md := bif inB (mno M 1) x then (bif inB 4 y then (nI (mno M (40 + 10 * y.toNatClampNeg + x.toNatClampNeg)), M) else (-2, mNo M 2)) else (-1, mNo M 1)
theorem inB_neg {n : Nat} {x : Int32} (h : inB n x = false) : x < 0 ∨ ¬ x < nI n := by
  by_cases h0 : x < 0
  · exact Or.inl h0
  · refine Or.inr (fun h1 => ?_)
    unfold inB at h
    rw [decide_eq_false h0, decide_eq_true h1] at h
    exact absurd h (by decide)
theorem mnI_nle {n : Nat} (hn : n < 1000) {y : Int32} (h : ¬ y < nI (n + 1)) : ¬ y ≤ nI n := by
  intro c
  refine h (Int32.lt_of_le_of_lt c ?_)
  exact (nI_ltI (by omega) (by omega)).mpr (by omega)
theorem pm_mjob (M : Md) (mr : MnR (mno M)) (x y : Int32) : PM mu_X7_job 1 0 0 [.ref 0, .int x, .int y] (mdB M) (eqP (some (.int (mJob M x y).1)) (mdB (mJob M x y).2)) := by
  unfold mJob
  have b0 := mr.1
  cases hj : inB (mno M 0) x with
  | false =>
    dsimp only [cond_false]
    refine PM.start (Or.inl (by decide +kernel)) rfl rfl rfl ?_
    intro X hX hR hx hin
    refine PW.aload_n hX dX7_job_0 rfl rfl ?_
    refine PW.iload_n hX dX7_job_1 rfl rfl ?_
    refine PW.vIi hX ml_X7_138 (pm_mnj M x) dX7_job_2 17 rfl rfl rfl rfl rfl rfl rfl rfl rfl rfl rfl rfl rfl rfl rfl ?_
    rw [hj]
    refine PW.if_eq (tgt := 14) hX dX7_job_5 (by decide) (fun c5 => ?_) (fun c5 => ?_)
    · first | rw [bI_d0] at c5 | rw [bI_eq0] at c5 | rw [nI_eq0 (by omega)] at c5 | skip
      exact absurd c5 (by decide) -- CLOSED
    · first | rw [bI_d0] at c5 | rw [bI_eq0] at c5 | rw [nI_eq0 (by omega)] at c5 | skip
      refine PW.aload_n hX dX7_job_8 rfl rfl ?_
      refine PW.iconst (v := (-1)) hX dX7_job_9 (by decide) ?_
      refine PW.vIi hX ml_X7_64 (pm_no M (-1) 1 (by decide) (by decide)) dX7_job_10 17 rfl rfl rfl rfl rfl rfl rfl rfl rfl rfl rfl rfl rfl rfl rfl ?_
      refine PW.iret hX hR dX7_job_13 rfl rfl ?_
      exact ⟨rfl, rfl⟩
  | true =>
    obtain ⟨j, hj2, rfl⟩ := inB_of (by omega) hj
    dsimp only [cond_true]
    cases hy : inB 3 y with
    | false =>
      dsimp only [cond_false]
      have hn := inB_neg hy
      refine PM.start (Or.inl (by decide +kernel)) rfl rfl rfl ?_
      intro X hX hR hx hin
      refine PW.aload_n hX dX7_job_0 rfl rfl ?_
      refine PW.iload_n hX dX7_job_1 rfl rfl ?_
      refine PW.vIi hX ml_X7_138 (pm_mnj M (nI j)) dX7_job_2 17 rfl rfl rfl rfl rfl rfl rfl rfl rfl rfl rfl rfl rfl rfl rfl ?_
      rw [hj]
      refine PW.if_eq (tgt := 14) hX dX7_job_5 (by decide) (fun c5 => ?_) (fun c5 => ?_)
      · refine PW.iload_n hX dX7_job_14 rfl rfl ?_
        refine PW.if_lt (tgt := 23) hX dX7_job_15 (by decide) (fun c15 => ?_) (fun c15 => ?_)
        · refine PW.aload_n hX dX7_job_23 rfl rfl ?_
          refine PW.bipush (v := (-2)) hX dX7_job_24 (by decide) ?_
          refine PW.vIi hX ml_X7_64 (pm_no M (-2) 2 (by decide) (by decide)) dX7_job_26 17 rfl rfl rfl rfl rfl rfl rfl rfl rfl rfl rfl rfl rfl rfl rfl ?_
          refine PW.goto (tgt := 46) hX dX7_job_29 (by decide) ?_
          refine PW.iret hX hR dX7_job_46 rfl rfl ?_
          exact ⟨rfl, rfl⟩
        · refine PW.iload_n hX dX7_job_18 rfl rfl ?_
          refine PW.iconst (v := nI 2) hX dX7_job_19 (by decide) ?_
          refine PW.icmp_le (tgt := 32) hX dX7_job_20 (by decide) (fun c20 => ?_) (fun c20 => ?_)
          · exact absurd c20 (mnI_nle (n := 2) (by decide) (hn.resolve_left c15)) -- CLOSED
          · refine PW.aload_n hX dX7_job_23 rfl rfl ?_
            refine PW.bipush (v := (-2)) hX dX7_job_24 (by decide) ?_
            refine PW.vIi hX ml_X7_64 (pm_no M (-2) 2 (by decide) (by decide)) dX7_job_26 17 rfl rfl rfl rfl rfl rfl rfl rfl rfl rfl rfl rfl rfl rfl rfl ?_
            refine PW.goto (tgt := 46) hX dX7_job_29 (by decide) ?_
            refine PW.iret hX hR dX7_job_46 rfl rfl ?_
            exact ⟨rfl, rfl⟩
      · exact absurd c5 (by decide) -- CLOSED
    | true =>
      obtain ⟨w, hw, rfl⟩ := inB_of (by decide) hy
      dsimp only [cond_true]
      rw [nI_clamp (by omega), nI_clamp (by omega)]
      refine PM.start (Or.inl (by decide +kernel)) rfl rfl rfl ?_
      intro X hX hR hx hin
      refine PW.aload_n hX dX7_job_0 rfl rfl ?_
      refine PW.iload_n hX dX7_job_1 rfl rfl ?_
      refine PW.vIi hX ml_X7_138 (pm_mnj M (nI j)) dX7_job_2 17 rfl rfl rfl rfl rfl rfl rfl rfl rfl rfl rfl rfl rfl rfl rfl ?_
      rw [hj]
      refine PW.if_eq (tgt := 14) hX dX7_job_5 (by decide) (fun c5 => ?_) (fun c5 => ?_)
      · first | rw [bI_d0] at c5 | rw [bI_eq0] at c5 | rw [nI_eq0 (by omega)] at c5 | skip
        refine PW.iload_n hX dX7_job_14 rfl rfl ?_
        refine PW.if_lt (tgt := 23) hX dX7_job_15 (by decide) (fun c15 => ?_) (fun c15 => ?_)
        · try rw [nI_lt0 (by omega)] at c15
          exfalso; omega -- CLOSED
        · try rw [nI_lt0 (by omega)] at c15
          refine PW.iload_n hX dX7_job_18 rfl rfl ?_
          refine PW.iconst (v := nI 2) hX dX7_job_19 (by decide) ?_
          refine PW.icmp_le (tgt := 32) hX dX7_job_20 (by decide) (fun c20 => ?_) (fun c20 => ?_)
          · try rw [nI_leI (by omega) (by omega)] at c20
            refine PW.aload_n hX dX7_job_32 rfl rfl ?_
            refine PW.getfield hX fl_X7_13 dX7_job_33 rfl rfl ?_
            refine PW.bipush (v := nI 10) hX dX7_job_36 (by decide) ?_
            refine PW.bipush (v := nI 10) hX dX7_job_38 (by decide) ?_
            refine PW.iload_n hX dX7_job_40 rfl rfl ?_
            refine PW.imul hX dX7_job_41 ?_
            refine PW.iadd hX dX7_job_42 ?_
            refine PW.iload_n hX dX7_job_43 rfl rfl ?_
            refine PW.iadd hX dX7_job_44 ?_
            refine PW.top (show nI 10 + nI 10 * nI w + nI j = nI (10 + 10 * w + j) by rw [pk_mul, nI_add, nI_add]) ?_
            refine PW.iaload (k := 10 + 10 * w + j) hX dX7_job_45 rfl rfl rfl (by omega) ?_
            refine PW.iret hX hR dX7_job_46 rfl rfl ?_
            exact ⟨rfl, rfl⟩
          · try rw [nI_leI (by omega) (by omega)] at c20
            exfalso; omega -- CLOSED
      · first | rw [bI_d0] at c5 | rw [bI_eq0] at c5 | rw [nI_eq0 (by omega)] at c5 | skip
        exact absurd c5 (by decide) -- CLOSED
theorem pm_mtaker (M : Md) (mr : MnR (mno M)) (x y : Int32) : PM mu_X7_taker 1 0 0 [.ref 0, .int x, .int y] (mdB M) (eqP (some (.int (mTak M x y).1)) (mdB (mTak M x y).2)) := by
  unfold mTak
  have b0 := mr.2.1
  cases hj : inB (mno M 1) x with
  | false =>
    dsimp only [cond_false]
    refine PM.start (Or.inl (by decide +kernel)) rfl rfl rfl ?_
    intro X hX hR hx hin
    refine PW.aload_n hX dX7_taker_0 rfl rfl ?_
    refine PW.iload_n hX dX7_taker_1 rfl rfl ?_
    refine PW.vIi hX ml_X7_141 (pm_mnt M x) dX7_taker_2 17 rfl rfl rfl rfl rfl rfl rfl rfl rfl rfl rfl rfl rfl rfl rfl ?_
    rw [hj]
    refine PW.if_eq (tgt := 14) hX dX7_taker_5 (by decide) (fun c5 => ?_) (fun c5 => ?_)
    · first | rw [bI_d0] at c5 | rw [bI_eq0] at c5 | rw [nI_eq0 (by omega)] at c5 | skip
      exact absurd c5 (by decide) -- CLOSED
    · first | rw [bI_d0] at c5 | rw [bI_eq0] at c5 | rw [nI_eq0 (by omega)] at c5 | skip
      refine PW.aload_n hX dX7_taker_8 rfl rfl ?_
      refine PW.iconst (v := (-1)) hX dX7_taker_9 (by decide) ?_
      refine PW.vIi hX ml_X7_64 (pm_no M (-1) 1 (by decide) (by decide)) dX7_taker_10 17 rfl rfl rfl rfl rfl rfl rfl rfl rfl rfl rfl rfl rfl rfl rfl ?_
      refine PW.iret hX hR dX7_taker_13 rfl rfl ?_
      exact ⟨rfl, rfl⟩
  | true =>
    obtain ⟨j, hj2, rfl⟩ := inB_of (by omega) hj
    dsimp only [cond_true]
    cases hy : inB 4 y with
    | false =>
      dsimp only [cond_false]
      have hn := inB_neg hy
      refine PM.start (Or.inl (by decide +kernel)) rfl rfl rfl ?_
      intro X hX hR hx hin
      refine PW.aload_n hX dX7_taker_0 rfl rfl ?_
      refine PW.iload_n hX dX7_taker_1 rfl rfl ?_
      refine PW.vIi hX ml_X7_141 (pm_mnt M (nI j)) dX7_taker_2 17 rfl rfl rfl rfl rfl rfl rfl rfl rfl rfl rfl rfl rfl rfl rfl ?_
      rw [hj]
      refine PW.if_eq (tgt := 14) hX dX7_taker_5 (by decide) (fun c5 => ?_) (fun c5 => ?_)
      · refine PW.iload_n hX dX7_taker_14 rfl rfl ?_
        refine PW.if_lt (tgt := 23) hX dX7_taker_15 (by decide) (fun c15 => ?_) (fun c15 => ?_)
        · refine PW.aload_n hX dX7_taker_23 rfl rfl ?_
          refine PW.bipush (v := (-2)) hX dX7_taker_24 (by decide) ?_
          refine PW.vIi hX ml_X7_64 (pm_no M (-2) 2 (by decide) (by decide)) dX7_taker_26 17 rfl rfl rfl rfl rfl rfl rfl rfl rfl rfl rfl rfl rfl rfl rfl ?_
          refine PW.goto (tgt := 46) hX dX7_taker_29 (by decide) ?_
          refine PW.iret hX hR dX7_taker_46 rfl rfl ?_
          exact ⟨rfl, rfl⟩
        · refine PW.iload_n hX dX7_taker_18 rfl rfl ?_
          refine PW.iconst (v := nI 3) hX dX7_taker_19 (by decide) ?_
          refine PW.icmp_le (tgt := 32) hX dX7_taker_20 (by decide) (fun c20 => ?_) (fun c20 => ?_)
          · exact absurd c20 (mnI_nle (n := 3) (by decide) (hn.resolve_left c15)) -- CLOSED
          · refine PW.aload_n hX dX7_taker_23 rfl rfl ?_
            refine PW.bipush (v := (-2)) hX dX7_taker_24 (by decide) ?_
            refine PW.vIi hX ml_X7_64 (pm_no M (-2) 2 (by decide) (by decide)) dX7_taker_26 17 rfl rfl rfl rfl rfl rfl rfl rfl rfl rfl rfl rfl rfl rfl rfl ?_
            refine PW.goto (tgt := 46) hX dX7_taker_29 (by decide) ?_
            refine PW.iret hX hR dX7_taker_46 rfl rfl ?_
            exact ⟨rfl, rfl⟩
      · exact absurd c5 (by decide) -- CLOSED
    | true =>
      obtain ⟨w, hw, rfl⟩ := inB_of (by decide) hy
      dsimp only [cond_true]
      rw [nI_clamp (by omega), nI_clamp (by omega)]
      refine PM.start (Or.inl (by decide +kernel)) rfl rfl rfl ?_
      intro X hX hR hx hin
      refine PW.aload_n hX dX7_taker_0 rfl rfl ?_
      refine PW.iload_n hX dX7_taker_1 rfl rfl ?_
      refine PW.vIi hX ml_X7_141 (pm_mnt M (nI j)) dX7_taker_2 17 rfl rfl rfl rfl rfl rfl rfl rfl rfl rfl rfl rfl rfl rfl rfl ?_
      rw [hj]
      refine PW.if_eq (tgt := 14) hX dX7_taker_5 (by decide) (fun c5 => ?_) (fun c5 => ?_)
      · first | rw [bI_d0] at c5 | rw [bI_eq0] at c5 | rw [nI_eq0 (by omega)] at c5 | skip
        refine PW.iload_n hX dX7_taker_14 rfl rfl ?_
        refine PW.if_lt (tgt := 23) hX dX7_taker_15 (by decide) (fun c15 => ?_) (fun c15 => ?_)
        · try rw [nI_lt0 (by omega)] at c15
          exfalso; omega -- CLOSED
        · try rw [nI_lt0 (by omega)] at c15
          refine PW.iload_n hX dX7_taker_18 rfl rfl ?_
          refine PW.iconst (v := nI 3) hX dX7_taker_19 (by decide) ?_
          refine PW.icmp_le (tgt := 32) hX dX7_taker_20 (by decide) (fun c20 => ?_) (fun c20 => ?_)
          · try rw [nI_leI (by omega) (by omega)] at c20
            refine PW.aload_n hX dX7_taker_32 rfl rfl ?_
            refine PW.getfield hX fl_X7_13 dX7_taker_33 rfl rfl ?_
            refine PW.bipush (v := nI 40) hX dX7_taker_36 (by decide) ?_
            refine PW.bipush (v := nI 10) hX dX7_taker_38 (by decide) ?_
            refine PW.iload_n hX dX7_taker_40 rfl rfl ?_
            refine PW.imul hX dX7_taker_41 ?_
            refine PW.iadd hX dX7_taker_42 ?_
            refine PW.iload_n hX dX7_taker_43 rfl rfl ?_
            refine PW.iadd hX dX7_taker_44 ?_
            refine PW.top (show nI 40 + nI 10 * nI w + nI j = nI (40 + 10 * w + j) by rw [pk_mul, nI_add, nI_add]) ?_
            refine PW.iaload (k := 40 + 10 * w + j) hX dX7_taker_45 rfl rfl rfl (by omega) ?_
            refine PW.iret hX hR dX7_taker_46 rfl rfl ?_
            exact ⟨rfl, rfl⟩
          · try rw [nI_leI (by omega) (by omega)] at c20
            exfalso; omega -- CLOSED
      · first | rw [bI_d0] at c5 | rw [bI_eq0] at c5 | rw [nI_eq0 (by omega)] at c5 | skip
        exact absurd c5 (by decide) -- CLOSED
def mChg (M : Md) (p : Nat) (v : Int32) (most : Nat) : Int32 × Md := if v < 0 then (-4, mNo M 4) else if nI most < v then (-6, mNo M 6) else (nI (mno M p), mNw M (va_up (mno M) p v.toNatClampNeg))
theorem pm_mchg (M : Md) (p : Nat) (hp : p < 80) (v : Int32) (most : Nat) : PM mu_X7_change 1 0 0 [.ref 0, .int (nI p), .int v, .int (nI most)] (mdB M) (eqP (some (.int (mChg M p v most).1)) (mdB (mChg M p v most).2)) := by
  unfold mChg
  by_cases h0 : v < 0
  · rw [if_pos h0]
    refine PM.start (Or.inl (by decide +kernel)) rfl rfl rfl ?_
    intro X hX hR hx hin
    refine PW.iload_n hX dX7_change_0 rfl rfl ?_
    refine PW.if_ge (tgt := 11) hX dX7_change_1 (by decide) (fun c1 => ?_) (fun c1 => ?_)
    · exact absurd h0 (i32_ge0 c1) -- CLOSED
    · refine PW.aload_n hX dX7_change_4 rfl rfl ?_
      refine PW.bipush (v := (-4)) hX dX7_change_5 (by decide) ?_
      refine PW.vIi hX ml_X7_64 (pm_no M (-4) 4 (by decide) (by decide)) dX7_change_7 17 rfl rfl rfl rfl rfl rfl rfl rfl rfl rfl rfl rfl rfl rfl rfl ?_
      refine PW.iret hX hR dX7_change_10 rfl rfl ?_
      exact ⟨rfl, rfl⟩
  · rw [if_neg h0]
    by_cases h1 : nI most < v
    · rw [if_pos h1]
      refine PM.start (Or.inl (by decide +kernel)) rfl rfl rfl ?_
      intro X hX hR hx hin
      refine PW.iload_n hX dX7_change_0 rfl rfl ?_
      refine PW.if_ge (tgt := 11) hX dX7_change_1 (by decide) (fun c1 => ?_) (fun c1 => ?_)
      · refine PW.iload_n hX dX7_change_11 rfl rfl ?_
        refine PW.iload_n hX dX7_change_12 rfl rfl ?_
        refine PW.icmp_le (tgt := 23) hX dX7_change_13 (by decide) (fun c13 => ?_) (fun c13 => ?_)
        · exact absurd c13 (i32_nle.mpr h1) -- CLOSED
        · refine PW.aload_n hX dX7_change_16 rfl rfl ?_
          refine PW.bipush (v := (-6)) hX dX7_change_17 (by decide) ?_
          refine PW.vIi hX ml_X7_64 (pm_no M (-6) 6 (by decide) (by decide)) dX7_change_19 17 rfl rfl rfl rfl rfl rfl rfl rfl rfl rfl rfl rfl rfl rfl rfl ?_
          refine PW.iret hX hR dX7_change_22 rfl rfl ?_
          exact ⟨rfl, rfl⟩
      · exact absurd (i32_lt0 c1) h0 -- CLOSED
    · rw [if_neg h1]
      obtain ⟨k, hk, rfl⟩ := nI_of h0
      rw [nI_clamp hk]
      refine PM.start (Or.inl (by decide +kernel)) rfl rfl rfl ?_
      intro X hX hR hx hin
      refine PW.iload_n hX dX7_change_0 rfl rfl ?_
      refine PW.if_ge (tgt := 11) hX dX7_change_1 (by decide) (fun c1 => ?_) (fun c1 => ?_)
      · refine PW.iload_n hX dX7_change_11 rfl rfl ?_
        refine PW.iload_n hX dX7_change_12 rfl rfl ?_
        refine PW.icmp_le (tgt := 23) hX dX7_change_13 (by decide) (fun c13 => ?_) (fun c13 => ?_)
        · refine PW.aload_n hX dX7_change_23 rfl rfl ?_
          refine PW.getfield hX fl_X7_13 dX7_change_24 rfl rfl ?_
          refine PW.iload_n hX dX7_change_27 rfl rfl ?_
          refine PW.iaload hX dX7_change_28 rfl rfl rfl (by omega) ?_
          refine PW.istore hX dX7_change_29 rfl ?_
          refine PW.aload_n hX dX7_change_31 rfl rfl ?_
          refine PW.getfield hX fl_X7_13 dX7_change_32 rfl rfl ?_
          refine PW.iload_n hX dX7_change_35 rfl rfl ?_
          refine PW.iload_n hX dX7_change_36 rfl rfl ?_
          refine PW.iastore hX dX7_change_37 rfl rfl rfl (by omega) ?_
          refine PW.iload hX dX7_change_38 rfl ?_
          refine PW.iret hX hR dX7_change_40 rfl rfl ?_
          exact ⟨rfl, by simp only [upd_nI]; rfl⟩
        · exact absurd (i32_nle.mp c13) h1 -- CLOSED
      · exact absurd (i32_lt0 c1) h0 -- CLOSED
def mSen (M : Md) (x v : Int32) : Int32 × Md := bif inB (mno M 0) x then mChg M (30 + x.toNatClampNeg) v 59 else (-1, mNo M 1)
def mCom (M : Md) (x v : Int32) : Int32 × Md := bif inB (mno M 1) x then mChg M (70 + x.toNatClampNeg) v 99 else (-1, mNo M 1)
theorem pm_msent (M : Md) (mr : MnR (mno M)) (x v : Int32) : PM mu_X7_sent 2 0 0 [.ref 0, .int x, .int v] (mdB M) (eqP (some (.int (mSen M x v).1)) (mdB (mSen M x v).2)) := by
  unfold mSen
  have b0 := mr.1
  cases hj : inB (mno M 0) x with
  | false =>
    dsimp only [cond_false]
    refine PM.start (Or.inl (by decide +kernel)) rfl rfl rfl ?_
    intro X hX hR hx hin
    refine PW.aload_n hX dX7_sent_0 rfl rfl ?_
    refine PW.iload_n hX dX7_sent_1 rfl rfl ?_
    refine PW.vIi hX ml_X7_138 (pm_mnj M x) dX7_sent_2 17 rfl rfl rfl rfl rfl rfl rfl rfl rfl rfl rfl rfl rfl rfl rfl ?_
    rw [hj]
    refine PW.if_eq (tgt := 16) hX dX7_sent_5 (by decide) (fun c5 => ?_) (fun c5 => ?_)
    · first | rw [bI_d0] at c5 | rw [bI_eq0] at c5 | rw [nI_eq0 (by omega)] at c5 | skip
      exact absurd c5 (by decide) -- CLOSED
    · first | rw [bI_d0] at c5 | rw [bI_eq0] at c5 | rw [nI_eq0 (by omega)] at c5 | skip
      refine PW.aload_n hX dX7_sent_8 rfl rfl ?_
      refine PW.iconst (v := (-1)) hX dX7_sent_9 (by decide) ?_
      refine PW.vIi hX ml_X7_64 (pm_no M (-1) 1 (by decide) (by decide)) dX7_sent_10 17 rfl rfl rfl rfl rfl rfl rfl rfl rfl rfl rfl rfl rfl rfl rfl ?_
      refine PW.goto (tgt := 27) hX dX7_sent_13 (by decide) ?_
      refine PW.iret hX hR dX7_sent_27 rfl rfl ?_
      exact ⟨rfl, rfl⟩
  | true =>
    obtain ⟨j, hj2, rfl⟩ := inB_of (by omega) hj
    dsimp only [cond_true]
    rw [nI_clamp (by omega)]
    refine PM.start (Or.inl (by decide +kernel)) rfl rfl rfl ?_
    intro X hX hR hx hin
    refine PW.aload_n hX dX7_sent_0 rfl rfl ?_
    refine PW.iload_n hX dX7_sent_1 rfl rfl ?_
    refine PW.vIi hX ml_X7_138 (pm_mnj M (nI j)) dX7_sent_2 17 rfl rfl rfl rfl rfl rfl rfl rfl rfl rfl rfl rfl rfl rfl rfl ?_
    rw [hj]
    refine PW.if_eq (tgt := 16) hX dX7_sent_5 (by decide) (fun c5 => ?_) (fun c5 => ?_)
    · first | rw [bI_d0] at c5 | rw [bI_eq0] at c5 | rw [nI_eq0 (by omega)] at c5 | skip
      refine PW.aload_n hX dX7_sent_16 rfl rfl ?_
      refine PW.bipush (v := nI 30) hX dX7_sent_17 (by decide) ?_
      refine PW.iload_n hX dX7_sent_19 rfl rfl ?_
      refine PW.iadd hX dX7_sent_20 ?_
      refine PW.top (nI_add 30 j) ?_
      refine PW.iload_n hX dX7_sent_21 rfl rfl ?_
      refine PW.bipush (v := nI 59) hX dX7_sent_22 (by decide) ?_
      refine PW.vIi hX ml_X7_144 (pm_mchg M (30 + j) (by omega) v 59) dX7_sent_24 17 rfl rfl rfl rfl rfl rfl rfl rfl rfl rfl rfl rfl rfl rfl rfl ?_
      refine PW.iret hX hR dX7_sent_27 rfl rfl ?_
      exact ⟨rfl, rfl⟩
    · first | rw [bI_d0] at c5 | rw [bI_eq0] at c5 | rw [nI_eq0 (by omega)] at c5 | skip
      exact absurd c5 (by decide) -- CLOSED
theorem pm_mcomes (M : Md) (mr : MnR (mno M)) (x v : Int32) : PM mu_X7_comes 2 0 0 [.ref 0, .int x, .int v] (mdB M) (eqP (some (.int (mCom M x v).1)) (mdB (mCom M x v).2)) := by
  unfold mCom
  have b0 := mr.2.1
  cases hj : inB (mno M 1) x with
  | false =>
    dsimp only [cond_false]
    refine PM.start (Or.inl (by decide +kernel)) rfl rfl rfl ?_
    intro X hX hR hx hin
    refine PW.aload_n hX dX7_comes_0 rfl rfl ?_
    refine PW.iload_n hX dX7_comes_1 rfl rfl ?_
    refine PW.vIi hX ml_X7_141 (pm_mnt M x) dX7_comes_2 17 rfl rfl rfl rfl rfl rfl rfl rfl rfl rfl rfl rfl rfl rfl rfl ?_
    rw [hj]
    refine PW.if_eq (tgt := 16) hX dX7_comes_5 (by decide) (fun c5 => ?_) (fun c5 => ?_)
    · first | rw [bI_d0] at c5 | rw [bI_eq0] at c5 | rw [nI_eq0 (by omega)] at c5 | skip
      exact absurd c5 (by decide) -- CLOSED
    · first | rw [bI_d0] at c5 | rw [bI_eq0] at c5 | rw [nI_eq0 (by omega)] at c5 | skip
      refine PW.aload_n hX dX7_comes_8 rfl rfl ?_
      refine PW.iconst (v := (-1)) hX dX7_comes_9 (by decide) ?_
      refine PW.vIi hX ml_X7_64 (pm_no M (-1) 1 (by decide) (by decide)) dX7_comes_10 17 rfl rfl rfl rfl rfl rfl rfl rfl rfl rfl rfl rfl rfl rfl rfl ?_
      refine PW.goto (tgt := 27) hX dX7_comes_13 (by decide) ?_
      refine PW.iret hX hR dX7_comes_27 rfl rfl ?_
      exact ⟨rfl, rfl⟩
  | true =>
    obtain ⟨j, hj2, rfl⟩ := inB_of (by omega) hj
    dsimp only [cond_true]
    rw [nI_clamp (by omega)]
    refine PM.start (Or.inl (by decide +kernel)) rfl rfl rfl ?_
    intro X hX hR hx hin
    refine PW.aload_n hX dX7_comes_0 rfl rfl ?_
    refine PW.iload_n hX dX7_comes_1 rfl rfl ?_
    refine PW.vIi hX ml_X7_141 (pm_mnt M (nI j)) dX7_comes_2 17 rfl rfl rfl rfl rfl rfl rfl rfl rfl rfl rfl rfl rfl rfl rfl ?_
    rw [hj]
    refine PW.if_eq (tgt := 16) hX dX7_comes_5 (by decide) (fun c5 => ?_) (fun c5 => ?_)
    · first | rw [bI_d0] at c5 | rw [bI_eq0] at c5 | rw [nI_eq0 (by omega)] at c5 | skip
      refine PW.aload_n hX dX7_comes_16 rfl rfl ?_
      refine PW.bipush (v := nI 70) hX dX7_comes_17 (by decide) ?_
      refine PW.iload_n hX dX7_comes_19 rfl rfl ?_
      refine PW.iadd hX dX7_comes_20 ?_
      refine PW.top (nI_add 70 j) ?_
      refine PW.iload_n hX dX7_comes_21 rfl rfl ?_
      refine PW.bipush (v := nI 99) hX dX7_comes_22 (by decide) ?_
      refine PW.vIi hX ml_X7_144 (pm_mchg M (70 + j) (by omega) v 99) dX7_comes_24 17 rfl rfl rfl rfl rfl rfl rfl rfl rfl rfl rfl rfl rfl rfl rfl ?_
      refine PW.iret hX hR dX7_comes_27 rfl rfl ?_
      exact ⟨rfl, rfl⟩
    · first | rw [bI_d0] at c5 | rw [bI_eq0] at c5 | rw [nI_eq0 (by omega)] at c5 | skip
      exact absurd c5 (by decide) -- CLOSED
def mMac (M : Md) (x v : Int32) : Int32 × Md := bif inB 6 x then (if v < 0 then (-4, mNo M 4) else if nI 9 < v then (-6, mNo M 6) else (nI (10 * mno M 2 + mno M 3), mNw M (va_up (va_up (mno M) 3 v.toNatClampNeg) 2 x.toNatClampNeg))) else (-2, mNo M 2)
theorem pm_mmachine (M : Md) (mr : MnR (mno M)) (x v : Int32) : PM mu_X7_machine 2 0 0 [.ref 0, .int x, .int v] (mdB M) (eqP (some (.int (mMac M x v).1)) (mdB (mMac M x v).2)) := by
  unfold mMac
  have b3 := mr.2.2.2.1
  cases hj : inB 6 x with
  | false =>
    dsimp only [cond_false]
    have hn := inB_neg hj
    refine PM.start (Or.inl (by decide +kernel)) rfl rfl rfl ?_
    intro X hX hR hx hin
    refine PW.iload_n hX dX7_machine_0 rfl rfl ?_
    refine PW.if_lt (tgt := 9) hX dX7_machine_1 (by decide) (fun c1 => ?_) (fun c1 => ?_)
    · refine PW.aload_n hX dX7_machine_9 rfl rfl ?_
      refine PW.bipush (v := (-2)) hX dX7_machine_10 (by decide) ?_
      refine PW.vIi hX ml_X7_64 (pm_no M (-2) 2 (by decide) (by decide)) dX7_machine_12 17 rfl rfl rfl rfl rfl rfl rfl rfl rfl rfl rfl rfl rfl rfl rfl ?_
      refine PW.iret hX hR dX7_machine_15 rfl rfl ?_
      exact ⟨rfl, rfl⟩
    · refine PW.iload_n hX dX7_machine_4 rfl rfl ?_
      refine PW.iconst (v := nI 5) hX dX7_machine_5 (by decide) ?_
      refine PW.icmp_le (tgt := 16) hX dX7_machine_6 (by decide) (fun c6 => ?_) (fun c6 => ?_)
      · exact absurd c6 (mnI_nle (n := 5) (by decide) (hn.resolve_left c1)) -- CLOSED
      · refine PW.aload_n hX dX7_machine_9 rfl rfl ?_
        refine PW.bipush (v := (-2)) hX dX7_machine_10 (by decide) ?_
        refine PW.vIi hX ml_X7_64 (pm_no M (-2) 2 (by decide) (by decide)) dX7_machine_12 17 rfl rfl rfl rfl rfl rfl rfl rfl rfl rfl rfl rfl rfl rfl rfl ?_
        refine PW.iret hX hR dX7_machine_15 rfl rfl ?_
        exact ⟨rfl, rfl⟩
  | true =>
    obtain ⟨j, hj2, rfl⟩ := inB_of (by decide) hj
    dsimp only [cond_true]
    rw [nI_clamp (by omega)]
    by_cases h0 : v < 0
    · rw [if_pos h0]
      have e : mChg M 3 v 9 = (-4, mNo M 4) := by unfold mChg; rw [if_pos h0]
      have pc := pm_mchg M 3 (by decide) v 9
      rw [e] at pc
      refine PM.start (Or.inl (by decide +kernel)) rfl rfl rfl ?_
      intro X hX hR hx hin
      refine PW.iload_n hX dX7_machine_0 rfl rfl ?_
      refine PW.if_lt (tgt := 9) hX dX7_machine_1 (by decide) (fun c1 => ?_) (fun c1 => ?_)
      · try rw [nI_lt0 (by omega)] at c1
        exfalso; omega -- CLOSED
      · try rw [nI_lt0 (by omega)] at c1
        refine PW.iload_n hX dX7_machine_4 rfl rfl ?_
        refine PW.iconst (v := nI 5) hX dX7_machine_5 (by decide) ?_
        refine PW.icmp_le (tgt := 16) hX dX7_machine_6 (by decide) (fun c6 => ?_) (fun c6 => ?_)
        · try rw [nI_leI (by omega) (by omega)] at c6
          refine PW.bipush (v := nI 10) hX dX7_machine_16 (by decide) ?_
          refine PW.aload_n hX dX7_machine_18 rfl rfl ?_
          refine PW.getfield hX fl_X7_13 dX7_machine_19 rfl rfl ?_
          refine PW.iconst (v := nI 2) hX dX7_machine_22 (by decide) ?_
          refine PW.iaload hX dX7_machine_23 rfl rfl rfl (by omega) ?_
          refine PW.imul hX dX7_machine_24 ?_
          refine PW.aload_n hX dX7_machine_25 rfl rfl ?_
          refine PW.getfield hX fl_X7_13 dX7_machine_26 rfl rfl ?_
          refine PW.iconst (v := nI 3) hX dX7_machine_29 (by decide) ?_
          refine PW.iaload hX dX7_machine_30 rfl rfl rfl (by omega) ?_
          refine PW.iadd hX dX7_machine_31 ?_
          refine PW.istore_n hX dX7_machine_32 rfl rfl ?_
          refine PW.aload_n hX dX7_machine_33 rfl rfl ?_
          refine PW.iconst (v := nI 3) hX dX7_machine_34 (by decide) ?_
          refine PW.iload_n hX dX7_machine_35 rfl rfl ?_
          refine PW.bipush (v := nI 9) hX dX7_machine_36 (by decide) ?_
          refine PW.vIi hX ml_X7_144 (pc) dX7_machine_38 17 rfl rfl rfl rfl rfl rfl rfl rfl rfl rfl rfl rfl rfl rfl rfl ?_
          refine PW.istore hX dX7_machine_41 rfl ?_
          refine PW.iload hX dX7_machine_43 rfl ?_
          refine PW.if_ge (tgt := 51) hX dX7_machine_45 (by decide) (fun c45 => ?_) (fun c45 => ?_)
          · try rw [nI_ge0 (by omega)] at c45
            exact absurd (show (0 : Int32) ≤ -4 from c45) (by decide) -- CLOSED
          · try rw [nI_ge0 (by omega)] at c45
            refine PW.iload hX dX7_machine_48 rfl ?_
            refine PW.iret hX hR dX7_machine_50 rfl rfl ?_
            exact ⟨rfl, rfl⟩
        · try rw [nI_leI (by omega) (by omega)] at c6
          exfalso; omega -- CLOSED
    · rw [if_neg h0]
      by_cases h1 : nI 9 < v
      · rw [if_pos h1]
        have e : mChg M 3 v 9 = (-6, mNo M 6) := by unfold mChg; rw [if_neg h0, if_pos h1]
        have pc := pm_mchg M 3 (by decide) v 9
        rw [e] at pc
        refine PM.start (Or.inl (by decide +kernel)) rfl rfl rfl ?_
        intro X hX hR hx hin
        refine PW.iload_n hX dX7_machine_0 rfl rfl ?_
        refine PW.if_lt (tgt := 9) hX dX7_machine_1 (by decide) (fun c1 => ?_) (fun c1 => ?_)
        · try rw [nI_lt0 (by omega)] at c1
          exfalso; omega -- CLOSED
        · try rw [nI_lt0 (by omega)] at c1
          refine PW.iload_n hX dX7_machine_4 rfl rfl ?_
          refine PW.iconst (v := nI 5) hX dX7_machine_5 (by decide) ?_
          refine PW.icmp_le (tgt := 16) hX dX7_machine_6 (by decide) (fun c6 => ?_) (fun c6 => ?_)
          · try rw [nI_leI (by omega) (by omega)] at c6
            refine PW.bipush (v := nI 10) hX dX7_machine_16 (by decide) ?_
            refine PW.aload_n hX dX7_machine_18 rfl rfl ?_
            refine PW.getfield hX fl_X7_13 dX7_machine_19 rfl rfl ?_
            refine PW.iconst (v := nI 2) hX dX7_machine_22 (by decide) ?_
            refine PW.iaload hX dX7_machine_23 rfl rfl rfl (by omega) ?_
            refine PW.imul hX dX7_machine_24 ?_
            refine PW.aload_n hX dX7_machine_25 rfl rfl ?_
            refine PW.getfield hX fl_X7_13 dX7_machine_26 rfl rfl ?_
            refine PW.iconst (v := nI 3) hX dX7_machine_29 (by decide) ?_
            refine PW.iaload hX dX7_machine_30 rfl rfl rfl (by omega) ?_
            refine PW.iadd hX dX7_machine_31 ?_
            refine PW.istore_n hX dX7_machine_32 rfl rfl ?_
            refine PW.aload_n hX dX7_machine_33 rfl rfl ?_
            refine PW.iconst (v := nI 3) hX dX7_machine_34 (by decide) ?_
            refine PW.iload_n hX dX7_machine_35 rfl rfl ?_
            refine PW.bipush (v := nI 9) hX dX7_machine_36 (by decide) ?_
            refine PW.vIi hX ml_X7_144 (pc) dX7_machine_38 17 rfl rfl rfl rfl rfl rfl rfl rfl rfl rfl rfl rfl rfl rfl rfl ?_
            refine PW.istore hX dX7_machine_41 rfl ?_
            refine PW.iload hX dX7_machine_43 rfl ?_
            refine PW.if_ge (tgt := 51) hX dX7_machine_45 (by decide) (fun c45 => ?_) (fun c45 => ?_)
            · try rw [nI_ge0 (by omega)] at c45
              exact absurd (show (0 : Int32) ≤ -6 from c45) (by decide) -- CLOSED
            · try rw [nI_ge0 (by omega)] at c45
              refine PW.iload hX dX7_machine_48 rfl ?_
              refine PW.iret hX hR dX7_machine_50 rfl rfl ?_
              exact ⟨rfl, rfl⟩
          · try rw [nI_leI (by omega) (by omega)] at c6
            exfalso; omega -- CLOSED
      · rw [if_neg h1]
        obtain ⟨k, hk, rfl⟩ := nI_of h0
        rw [nI_clamp hk]
        have e : mChg M 3 (nI k) 9 = (nI (mno M 3), mNw M (va_up (mno M) 3 k)) := by unfold mChg; rw [if_neg h0, if_neg h1, nI_clamp hk]
        have pc := pm_mchg M 3 (by decide) (nI k) 9
        rw [e] at pc
        dsimp only at pc
        refine PM.start (Or.inl (by decide +kernel)) rfl rfl rfl ?_
        intro X hX hR hx hin
        refine PW.iload_n hX dX7_machine_0 rfl rfl ?_
        refine PW.if_lt (tgt := 9) hX dX7_machine_1 (by decide) (fun c1 => ?_) (fun c1 => ?_)
        · try rw [nI_lt0 (by omega)] at c1
          exfalso; omega -- CLOSED
        · try rw [nI_lt0 (by omega)] at c1
          refine PW.iload_n hX dX7_machine_4 rfl rfl ?_
          refine PW.iconst (v := nI 5) hX dX7_machine_5 (by decide) ?_
          refine PW.icmp_le (tgt := 16) hX dX7_machine_6 (by decide) (fun c6 => ?_) (fun c6 => ?_)
          · try rw [nI_leI (by omega) (by omega)] at c6
            refine PW.bipush (v := nI 10) hX dX7_machine_16 (by decide) ?_
            refine PW.aload_n hX dX7_machine_18 rfl rfl ?_
            refine PW.getfield hX fl_X7_13 dX7_machine_19 rfl rfl ?_
            refine PW.iconst (v := nI 2) hX dX7_machine_22 (by decide) ?_
            refine PW.iaload hX dX7_machine_23 rfl rfl rfl (by omega) ?_
            refine PW.imul hX dX7_machine_24 ?_
            refine PW.aload_n hX dX7_machine_25 rfl rfl ?_
            refine PW.getfield hX fl_X7_13 dX7_machine_26 rfl rfl ?_
            refine PW.iconst (v := nI 3) hX dX7_machine_29 (by decide) ?_
            refine PW.iaload hX dX7_machine_30 rfl rfl rfl (by omega) ?_
            refine PW.iadd hX dX7_machine_31 ?_
            refine PW.top (show nI 10 * nI (mno M 2) + nI (mno M 3) = nI (10 * mno M 2 + mno M 3) by rw [pk_mul, nI_add]) ?_
            refine PW.istore_n hX dX7_machine_32 rfl rfl ?_
            refine PW.aload_n hX dX7_machine_33 rfl rfl ?_
            refine PW.iconst (v := nI 3) hX dX7_machine_34 (by decide) ?_
            refine PW.iload_n hX dX7_machine_35 rfl rfl ?_
            refine PW.bipush (v := nI 9) hX dX7_machine_36 (by decide) ?_
            refine PW.vIi hX ml_X7_144 (pc) dX7_machine_38 17 rfl rfl rfl rfl rfl rfl rfl rfl rfl rfl rfl rfl rfl rfl rfl ?_
            refine PW.istore hX dX7_machine_41 rfl ?_
            refine PW.iload hX dX7_machine_43 rfl ?_
            refine PW.if_ge (tgt := 51) hX dX7_machine_45 (by decide) (fun c45 => ?_) (fun c45 => ?_)
            · try rw [nI_ge0 (by omega)] at c45
              refine PW.aload_n hX dX7_machine_51 rfl rfl ?_
              refine PW.getfield hX fl_X7_13 dX7_machine_52 rfl rfl ?_
              refine PW.iconst (v := nI 2) hX dX7_machine_55 (by decide) ?_
              refine PW.iload_n hX dX7_machine_56 rfl rfl ?_
              refine PW.iastore hX dX7_machine_57 rfl rfl rfl (by omega) ?_
              refine PW.iload_n hX dX7_machine_58 rfl rfl ?_
              refine PW.iret hX hR dX7_machine_59 rfl rfl ?_
              exact ⟨rfl, by simp only [upd_nI]; rfl⟩
            · try rw [nI_ge0 (by omega)] at c45
              exact absurd trivial c45 -- CLOSED
          · try rw [nI_leI (by omega) (by omega)] at c6
            exfalso; omega -- CLOSED
