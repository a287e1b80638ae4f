/-! ===== the reference: whole, takers ===== -/
theorem shl2 : ∀ n, n < 10 → nI 2 <<< (nI n &&& 31) - nI 2 = nI (upTo n) := by decide
theorem upTo_lt : ∀ n, n < 10 → upTo n < 2048 := by decide
theorem lyF_l10 {s : Nat → Nat} (j : Nat) : ∀ k, lyF s j k < 2 ^ 10 := by
  intro k
  unfold lyF
  split
  · exact Nat.pow_lt_pow_right (by decide) (Nat.mod_lt _ (by decide))
  · decide
theorem pm_mwhole (M : Md) (C : MC) (j : Nat) (hj : j < 10) (hly : cly C ≤ 100) (htr : ∀ i, i < cly C → ctr C i < 60) (hsh : mno M (20 + j) < 10) : PM mu_X7_isWhole 0 0 0 [.ref 0, .int (nI j)] (mdB (sC M C)) (eqP (some (.int (bI (mWh (mno M) C j)))) (mdB (sC M C))) := by
  refine PM.start (Or.inl (by decide +kernel)) rfl rfl rfl ?_
  intro X hX hR hx hin
  have loop : ∀ n k : Nat, k ≤ cly C → cly C < k + n → PW X 4 [some (.ref 0), some (.int (nI j)), some (.int (nI (orN (lyF (ctr C) j) k))), some (.int (nI k))] [] (mdB (sC M C)) 0 0 := by
    intro n
    induction n with
    | zero => intro k h1 h2; exact absurd h2 (by omega)
    | succ n ih =>
      intro k h1 h2
      by_cases hk : k = cly C
      · subst hk
        have b1 := orN_lt (b := 10) (lyF_l10 (s := ctr C) j) (cly C)
        have b2 := upTo_lt _ hsh
        refine PW.iload_n hX dX7_isWhole_4 rfl rfl ?_
        refine PW.aload_n hX dX7_isWhole_5 rfl rfl ?_
        refine PW.getfield hX fl_X7_116 dX7_isWhole_6 rfl rfl ?_
        refine PW.top (show _ = nI (cly C) from rfl) ?_
        refine PW.icmp_ge (tgt := 49) hX dX7_isWhole_9 (by decide) (fun c9 => ?_) (fun c9 => ?_)
        · try rw [nI_leI (by omega) (by omega)] at c9
          refine PW.iload_n hX dX7_isWhole_49 rfl rfl ?_
          refine PW.iconst (v := nI 2) hX dX7_isWhole_50 (by decide) ?_
          refine PW.aload_n hX dX7_isWhole_51 rfl rfl ?_
          refine PW.getfield hX fl_X7_13 dX7_isWhole_52 rfl rfl ?_
          refine PW.bipush (v := nI 20) hX dX7_isWhole_55 (by decide) ?_
          refine PW.iload_n hX dX7_isWhole_57 rfl rfl ?_
          refine PW.iadd hX dX7_isWhole_58 ?_
          refine PW.top (nI_add 20 j) ?_
          refine PW.iaload hX dX7_isWhole_59 rfl rfl rfl (by omega) ?_
          refine PW.top (show _ = nI (mno M (20 + j)) from rfl) ?_
          refine PW.ishl hX dX7_isWhole_60 ?_
          refine PW.iconst (v := nI 2) hX dX7_isWhole_61 (by decide) ?_
          refine PW.isub hX dX7_isWhole_62 ?_
          refine PW.top (shl2 _ hsh) ?_
          refine PW.icmp_ne (tgt := 70) hX dX7_isWhole_63 (by decide) (fun c63 => ?_) (fun c63 => ?_)
          · first | rw [nI_eq (by omega) (by omega)] at c63 | rw [oI_eq9] at c63 | skip
            refine PW.iconst (v := nI 0) hX dX7_isWhole_70 (by decide) ?_
            refine PW.zret hX hR dX7_isWhole_71 (by first | exact Or.inl rfl | exact Or.inr rfl | assumption) rfl rfl ?_
            rw [show mWh (mno M) C j = false from decide_eq_false c63]
            exact ⟨rfl, rfl⟩
          · first | rw [nI_eq (by omega) (by omega)] at c63 | rw [oI_eq9] at c63 | skip
            refine PW.iconst (v := nI 1) hX dX7_isWhole_66 (by decide) ?_
            refine PW.goto (tgt := 71) hX dX7_isWhole_67 (by decide) ?_
            refine PW.zret hX hR dX7_isWhole_71 (by first | exact Or.inl rfl | exact Or.inr rfl | assumption) rfl rfl ?_
            rw [show mWh (mno M) C j = true from decide_eq_true c63]
            exact ⟨rfl, rfl⟩
        · try rw [nI_leI (by omega) (by omega)] at c9
          exfalso; omega -- CLOSED
      · have b := htr k (by omega)
        have nx := ih (k + 1) (by omega) (by omega)
        rw [orN] at nx
        have h41 : ∀ v : Int32, v = nI (lyF (ctr C) j k) → PW X 41 [some (.ref 0), some (.int (nI j)), some (.int (nI (orN (lyF (ctr C) j) k))), some (.int (nI k))] [.int v, .int (nI (orN (lyF (ctr C) j) k))] (mdB (sC M C)) 0 0 := by
          rintro v rfl
          refine PW.ior hX dX7_isWhole_41 ?_
          refine PW.top (nI_or _ _) ?_
          refine PW.istore_n hX dX7_isWhole_42 rfl rfl ?_
          first | refine PW.iinc hX dX7_isWhole_43 rfl (iincN _) ?_ | refine PW.iinc hX dX7_isWhole_43 rfl rfl ?_
          refine PW.goto (tgt := 4) hX dX7_isWhole_46 (by decide) ?_
          exact nx
        refine PW.iload_n hX dX7_isWhole_4 rfl rfl ?_
        refine PW.aload_n hX dX7_isWhole_5 rfl rfl ?_
        refine PW.getfield hX fl_X7_116 dX7_isWhole_6 rfl rfl ?_
        refine PW.top (show _ = nI (cly C) from rfl) ?_
        refine PW.icmp_ge (tgt := 49) hX dX7_isWhole_9 (by decide) (fun c9 => ?_) (fun c9 => ?_)
        · try rw [nI_leI (by omega) (by omega)] at c9
          exfalso; omega -- CLOSED
        · try rw [nI_leI (by omega) (by omega)] at c9
          refine PW.iload_n hX dX7_isWhole_12 rfl rfl ?_
          refine PW.aload_n hX dX7_isWhole_13 rfl rfl ?_
          refine PW.getfield hX fl_X7_44 dX7_isWhole_14 rfl rfl ?_
          refine PW.iload_n hX dX7_isWhole_17 rfl rfl ?_
          refine PW.iaload hX dX7_isWhole_18 rfl rfl rfl (by omega) ?_
          refine PW.top (show _ = nI (ctr C k) from rfl) ?_
          refine PW.bipush (v := nI 10) hX dX7_isWhole_19 (by decide) ?_
          refine PW.idiv hX dX7_isWhole_21 (by decide) ?_
          refine PW.top (div10 (show ctr C k < 2 ^ 31 by omega)) ?_
          refine PW.iload_n hX dX7_isWhole_22 rfl rfl ?_
          refine PW.icmp_ne (tgt := 40) hX dX7_isWhole_23 (by decide) (fun c23 => ?_) (fun c23 => ?_)
          · first | rw [nI_eq (by omega) (by omega)] at c23 | rw [oI_eq9] at c23 | skip
            refine PW.iconst (v := nI 0) hX dX7_isWhole_40 (by decide) ?_
            exact h41 _ (by unfold lyF; rw [if_neg c23])
          · first | rw [nI_eq (by omega) (by omega)] at c23 | rw [oI_eq9] at c23 | skip
            refine PW.iconst (v := nI 1) hX dX7_isWhole_26 (by decide) ?_
            refine PW.aload_n hX dX7_isWhole_27 rfl rfl ?_
            refine PW.getfield hX fl_X7_44 dX7_isWhole_28 rfl rfl ?_
            refine PW.iload_n hX dX7_isWhole_31 rfl rfl ?_
            refine PW.iaload hX dX7_isWhole_32 rfl rfl rfl (by omega) ?_
            refine PW.top (show _ = nI (ctr C k) from rfl) ?_
            refine PW.bipush (v := nI 10) hX dX7_isWhole_33 (by decide) ?_
            refine PW.irem hX dX7_isWhole_35 (by decide) ?_
            refine PW.top (rem10 (show ctr C k < 2 ^ 31 by omega)) ?_
            refine PW.ishl hX dX7_isWhole_36 ?_
            refine PW.top (nI_shl1 (by omega)) ?_
            refine PW.goto (tgt := 41) hX dX7_isWhole_37 (by decide) ?_
            exact h41 _ (by unfold lyF; rw [if_pos c23])
  have nx := loop (cly C + 1) 0 (by omega) (by omega)
  refine PW.iconst (v := nI 0) hX dX7_isWhole_0 (by decide) ?_
  refine PW.istore_n hX dX7_isWhole_1 rfl rfl ?_
  refine PW.iconst (v := nI 0) hX dX7_isWhole_2 (by decide) ?_
  refine PW.istore_n hX dX7_isWhole_3 rfl rfl ?_
  exact nx
theorem pm_msome (M : Md) (C : MC) (t : Nat) (ht : t < 6) (n6 : mno M 0 ≤ 6) (hly : cly C ≤ 100) (htr : ∀ i, i < cly C → ctr C i < 60) (hsh : ∀ j, j < mno M 0 → mno M (20 + j) < 10) (h3 : ∀ j, j < 80 → mno M j < 1000) : PM mu_X7_takesSome 1 0 0 [.ref 0, .int (nI t)] (mdB (sC M C)) (eqP (some (.int (bI (mSome (mno M) C (mno M (50 + t)) (mno M 0))))) (mdB (sC M C))) := by
  have bt := h3 (50 + t) (by omega)
  refine PM.start (Or.inl (by decide +kernel)) rfl rfl rfl ?_
  intro X hX hR hx hin
  have loop : ∀ n i : Nat, i ≤ mno M 0 → mno M 0 < i + n → mSome (mno M) C (mno M (50 + t)) i = false → PW X 2 [some (.ref 0), some (.int (nI t)), some (.int (nI i))] [] (mdB (sC M C)) 0 0 := by
    intro n
    induction n with
    | zero => intro k h1 h2; exact absurd h2 (by omega)
    | succ n ih =>
      intro i h1 h2 hf
      by_cases hi : i = mno M 0
      · rw [hi] at hf
        rw [hf] at hR
        subst hi
        refine PW.iload_n hX dX7_takesSome_2 rfl rfl ?_
        refine PW.aload_n hX dX7_takesSome_3 rfl rfl ?_
        refine PW.getfield hX fl_X7_13 dX7_takesSome_4 rfl rfl ?_
        refine PW.iconst (v := nI 0) hX dX7_takesSome_7 (by decide) ?_
        refine PW.iaload (k := 0) hX dX7_takesSome_8 rfl rfl rfl (by decide) ?_
        refine PW.top (show _ = nI (mno M 0) from rfl) ?_
        refine PW.icmp_ge (tgt := 49) hX dX7_takesSome_9 (by decide) (fun c9 => ?_) (fun c9 => ?_)
        · try rw [nI_leI (by omega) (by omega)] at c9
          refine PW.iconst (v := nI 0) hX dX7_takesSome_49 (by decide) ?_
          refine PW.zret hX hR dX7_takesSome_50 (by first | exact Or.inl rfl | exact Or.inr rfl | assumption) rfl rfl ?_
          exact ⟨rfl, rfl⟩
        · try rw [nI_leI (by omega) (by omega)] at c9
          exfalso; omega -- CLOSED
      · have bi := h3 (10 + i) (by omega)
        have cW := pm_mwhole M C i (by omega) hly htr (hsh i (by omega))
        have nx : (decide (mno M (10 + i) = mno M (50 + t)) && mWh (mno M) C i) = false → _ := fun e => ih (i + 1) (by omega) (by omega) (by rw [mSome, hf, e]; rfl)
        refine PW.iload_n hX dX7_takesSome_2 rfl rfl ?_
        refine PW.aload_n hX dX7_takesSome_3 rfl rfl ?_
        refine PW.getfield hX fl_X7_13 dX7_takesSome_4 rfl rfl ?_
        refine PW.iconst (v := nI 0) hX dX7_takesSome_7 (by decide) ?_
        refine PW.iaload (k := 0) hX dX7_takesSome_8 rfl rfl rfl (by decide) ?_
        refine PW.top (show _ = nI (mno M 0) from rfl) ?_
        refine PW.icmp_ge (tgt := 49) hX dX7_takesSome_9 (by decide) (fun c9 => ?_) (fun c9 => ?_)
        · try rw [nI_leI (by omega) (by omega)] at c9
          exfalso; omega -- CLOSED
        · try rw [nI_leI (by omega) (by omega)] at c9
          refine PW.aload_n hX dX7_takesSome_12 rfl rfl ?_
          refine PW.getfield hX fl_X7_13 dX7_takesSome_13 rfl rfl ?_
          refine PW.bipush (v := nI 10) hX dX7_takesSome_16 (by decide) ?_
          refine PW.iload_n hX dX7_takesSome_18 rfl rfl ?_
          refine PW.iadd hX dX7_takesSome_19 ?_
          refine PW.top (show nI 10 + nI i = nI (10 + i) from nI_add 10 i) ?_
          refine PW.iaload hX dX7_takesSome_20 rfl rfl rfl (by omega) ?_
          refine PW.top (show _ = nI (mno M (10 + i)) from rfl) ?_
          refine PW.aload_n hX dX7_takesSome_21 rfl rfl ?_
          refine PW.getfield hX fl_X7_13 dX7_takesSome_22 rfl rfl ?_
          refine PW.bipush (v := nI 50) hX dX7_takesSome_25 (by decide) ?_
          refine PW.iload_n hX dX7_takesSome_27 rfl rfl ?_
          refine PW.iadd hX dX7_takesSome_28 ?_
          refine PW.top (nI_add 50 t) ?_
          refine PW.iaload hX dX7_takesSome_29 rfl rfl rfl (by omega) ?_
          refine PW.top (show _ = nI (mno M (50 + t)) from rfl) ?_
          refine PW.icmp_ne (tgt := 43) hX dX7_takesSome_30 (by decide) (fun c30 => ?_) (fun c30 => ?_)
          · first | rw [nI_eq (by omega) (by omega)] at c30 | rw [oI_eq9] at c30 | skip
            first | refine PW.iinc hX dX7_takesSome_43 rfl (iincN _) ?_ | refine PW.iinc hX dX7_takesSome_43 rfl rfl ?_
            refine PW.goto (tgt := 2) hX dX7_takesSome_46 (by decide) ?_
            exact nx (by rw [decide_eq_false c30]; rfl)
          · first | rw [nI_eq (by omega) (by omega)] at c30 | rw [oI_eq9] at c30 | skip
            refine PW.aload_n hX dX7_takesSome_33 rfl rfl ?_
            refine PW.iload_n hX dX7_takesSome_34 rfl rfl ?_
            refine PW.vIi hX ml_X7_119 (cW) dX7_takesSome_35 17 rfl rfl rfl rfl rfl rfl rfl rfl rfl rfl rfl rfl rfl rfl rfl ?_
            refine PW.if_eq (tgt := 43) hX dX7_takesSome_38 (by decide) (fun c38 => ?_) (fun c38 => ?_)
            · first | rw [bI_d0] at c38 | rw [bI_eq0] at c38 | rw [nI_eq0 (by omega)] at c38 | skip
              first | refine PW.iinc hX dX7_takesSome_43 rfl (iincN _) ?_ | refine PW.iinc hX dX7_takesSome_43 rfl rfl ?_
              refine PW.goto (tgt := 2) hX dX7_takesSome_46 (by decide) ?_
              exact nx (by rw [c38, Bool.and_false])
            · first | rw [bI_d0] at c38 | rw [bI_eq0] at c38 | rw [nI_eq0 (by omega)] at c38 | skip
              refine PW.iconst (v := nI 1) hX dX7_takesSome_41 (by decide) ?_
              refine PW.zret hX hR dX7_takesSome_42 (by first | exact Or.inl rfl | exact Or.inr rfl | assumption) rfl rfl ?_
              rw [show mSome (mno M) C (mno M (50 + t)) (mno M 0) = true from (mSome_iff _ _ _ _).mpr ⟨i, by omega, c30, (Bool.not_eq_false _).mp c38⟩]
              exact ⟨rfl, rfl⟩
  have nx := loop (mno M 0 + 1) 0 (by omega) (by omega) rfl
  refine PW.iconst (v := nI 0) hX dX7_takesSome_0 (by decide) ?_
  refine PW.istore_n hX dX7_takesSome_1 rfl rfl ?_
  exact nx
