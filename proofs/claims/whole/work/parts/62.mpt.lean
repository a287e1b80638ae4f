/-! ===== the reference: parts ===== -/
def itK (nu ls : Nat → Nat) (k : Nat) : Nat → Nat
  | 0 => 1
  | i + 1 => if nu k % 10 ≤ nu i % 10 then maxN (itK nu ls k i) (ls i + 1) else itK nu ls k i
def ltS (nu : Nat → Nat) : Nat → (Nat → Nat) × Nat
  | 0 => (fun _ => 0, 0)
  | k + 1 => (va_up (ltS nu k).1 k (itK nu (ltS nu k).1 k k), maxN (ltS nu k).2 (itK nu (ltS nu k).1 k k))
theorem itK_le (nu ls : Nat → Nat) (k c : Nat) (hc : 1 ≤ c) : ∀ i, (∀ j, j < i → ls j + 1 ≤ c) → itK nu ls k i ≤ c
  | 0, _ => hc
  | i + 1, h => by
    have ih := itK_le nu ls k c hc i (fun j hj => h j (by omega))
    rw [itK]
    split
    · exact maxN_le ih (h i (by omega))
    · exact ih
theorem ltS_le (nu : Nat → Nat) : ∀ k, (∀ j, j < k → (ltS nu k).1 j ≤ k) ∧ (ltS nu k).2 ≤ k
  | 0 => ⟨fun j hj => absurd hj (Nat.not_lt_zero _), Nat.le_refl _⟩
  | k + 1 => by
    obtain ⟨h1, h2⟩ := ltS_le nu k
    have h3 := itK_le nu (ltS nu k).1 k (k + 1) (by omega) k (fun j hj => by have := h1 j hj; omega)
    refine ⟨fun j hj => ?_, ?_⟩
    · show va_up (ltS nu k).1 k _ j ≤ k + 1
      by_cases e : j = k
      · rw [e, va_up_self]; exact h3
      · rw [va_up_ne _ _ e]
        have := h1 j (by omega)
        omega
    · exact maxN_le (by omega) h3
theorem maxN_l (a b : Nat) : a ≤ maxN a b := by unfold maxN; split <;> omega
theorem maxN_r (a b : Nat) : b ≤ maxN a b := by unfold maxN; split <;> omega
theorem itK_ge1 (nu ls : Nat → Nat) (k : Nat) : ∀ i, 1 ≤ itK nu ls k i
  | 0 => Nat.le_refl _
  | i + 1 => by
    have ih := itK_ge1 nu ls k i
    rw [itK]
    split
    · exact Nat.le_trans ih (maxN_l _ _)
    · exact ih
theorem itK_ge (nu ls : Nat → Nat) (k : Nat) : ∀ i j, j < i → nu k % 10 ≤ nu j % 10 → ls j + 1 ≤ itK nu ls k i
  | 0, j, hj, _ => absurd hj (Nat.not_lt_zero _)
  | i + 1, j, hj, hd => by
    rw [itK]
    by_cases e : j = i
    · subst e
      rw [if_pos hd]
      exact maxN_r _ _
    · have ih := itK_ge nu ls k i j (by omega) hd
      split
      · exact Nat.le_trans ih (maxN_l _ _)
      · exact ih
theorem itK_up (nu ls : Nat → Nat) (k c : Nat) (hc : 1 ≤ c) : ∀ i, (∀ j, j < i → nu k % 10 ≤ nu j % 10 → ls j + 1 ≤ c) → itK nu ls k i ≤ c
  | 0, _ => hc
  | i + 1, h => by
    have ih := itK_up nu ls k c hc i (fun j hj => h j (by omega))
    rw [itK]
    split
    · rename_i hd
      exact maxN_le ih (h i (by omega) hd)
    · exact ih
theorem mxF_ge {lo : Nat → Nat} {d : Nat} : ∀ q j, j < q → lo (d + j) ≤ mxF lo d q
  | 0, j, h => absurd h (Nat.not_lt_zero _)
  | q + 1, j, h => by
    rw [mxF]
    by_cases e : j = q
    · subst e; exact maxN_r _ _
    · exact Nat.le_trans (mxF_ge q j (by omega)) (maxN_l _ _)
theorem mxF_up {lo : Nat → Nat} {d c : Nat} : ∀ q, (∀ j, j < q → lo (d + j) ≤ c) → mxF lo d q ≤ c
  | 0, _ => Nat.zero_le _
  | q + 1, h => maxN_le (mxF_up q (fun j hj => h j (by omega))) (h q (by omega))
theorem fp_lt (nu lo : Nat → Nat) : ∀ k, (fpS nu lo k).2 = (ltS nu k).2 ∧ (∀ i, i < k → (ltS nu k).1 i ≤ (fpS nu lo k).1 (nu i % 10)) ∧ (∀ d, d < 10 → (fpS nu lo k).1 d = 0 ∨ ∃ i, i < k ∧ nu i % 10 = d ∧ (ltS nu k).1 i = (fpS nu lo k).1 d)
  | 0 => ⟨rfl, fun i hi => absurd hi (Nat.not_lt_zero _), fun d hd => Or.inl (if_pos hd)⟩
  | k + 1 => by
    obtain ⟨h1, h2, h3⟩ := fp_lt nu lo k
    have e : mxF (fpS nu lo k).1 (nu k % 10) (10 - nu k % 10) + 1 = itK nu (ltS nu k).1 k k := by
      apply Nat.le_antisymm
      · have : mxF (fpS nu lo k).1 (nu k % 10) (10 - nu k % 10) ≤ itK nu (ltS nu k).1 k k - 1 := mxF_up _ (fun j hj => by
          rcases h3 (nu k % 10 + j) (by omega) with q | ⟨i, i1, i2, i3⟩
          · rw [q]; omega
          · have := itK_ge nu (ltS nu k).1 k k i i1 (by omega)
            omega)
        have := itK_ge1 nu (ltS nu k).1 k k
        omega
      · refine itK_up nu (ltS nu k).1 k _ (by omega) k (fun j hj hd => ?_)
        have a := h2 j hj
        have b := mxF_ge (lo := (fpS nu lo k).1) (d := nu k % 10) (10 - nu k % 10) (nu j % 10 - nu k % 10) (by omega)
        rw [show nu k % 10 + (nu j % 10 - nu k % 10) = nu j % 10 by omega] at b
        omega
    rw [fpS, ltS, e, h1]
    refine ⟨rfl, fun i hi => ?_, fun d hd => ?_⟩
    · show va_up (ltS nu k).1 k _ i ≤ va_up (fpS nu lo k).1 (nu k % 10) _ (nu i % 10)
      by_cases ei : i = k
      · rw [ei, va_up_self, va_up_self]; exact Nat.le_refl _
      · rw [va_up_ne _ _ ei]
        by_cases ed : nu i % 10 = nu k % 10
        · rw [ed, va_up_self]
          have := itK_ge nu (ltS nu k).1 k k i (by omega) (by omega)
          omega
        · rw [va_up_ne _ _ ed]; exact h2 i (by omega)
    · show va_up (fpS nu lo k).1 (nu k % 10) _ d = 0 ∨ ∃ i, i < k + 1 ∧ nu i % 10 = d ∧ va_up (ltS nu k).1 k _ i = va_up (fpS nu lo k).1 (nu k % 10) _ d
      by_cases ed : d = nu k % 10
      · rw [ed, va_up_self]
        exact Or.inr ⟨k, Nat.lt_succ_self k, rfl, va_up_self _ _ _⟩
      · rw [va_up_ne _ _ ed]
        rcases h3 d hd with q | ⟨i, i1, i2, i3⟩
        · exact Or.inl q
        · exact Or.inr ⟨i, by omega, i2, by rw [va_up_ne _ _ (by omega)]; exact i3⟩
theorem pm_mparts (M : Md) (hn : mln M ≤ 20) (hv : ∀ i, i < mln M → mli M i < 100) : PM mu_X7_parts 1 1 20 [.ref 0] (mdB M) (eqP (some (.int (nI (ltS (mli M) (mln M)).2))) (mdB M)) := by
  refine PM.start (Or.inl (by decide +kernel)) rfl rfl rfl ?_
  intro X hX hR hx hin
  have loop : ∀ n k : Nat, k ≤ mln M → mln M < k + n → ∀ Z, ltS (mli M) k = Z → ∀ z4, PW X 9 [some (.ref 0), some (.int (nI Z.2)), some (.ref 17), some (.int (nI k)), z4] [] (mdB M ++ [.inl (0, 20, fun j => nI (Z.1 j))]) 1 20 := by
    intro n
    induction n with
    | zero => intro k h1 h2; omega
    | succ n ih =>
      intro k h1 h2 Z hZ z4
      refine PW.clr 4 ?_
      obtain ⟨l1, l2⟩ := ltS_le (mli M) k
      rw [hZ] at l1 l2
      by_cases hk : k = mln M
      · rw [← hk, hZ] at hR
        refine PW.iload_n hX dX7_parts_9 rfl rfl ?_
        refine PW.aload_n hX dX7_parts_10 rfl rfl ?_
        refine PW.getfield hX fl_X7_166 dX7_parts_11 rfl rfl ?_
        refine PW.icmp_ge (tgt := 87) hX dX7_parts_14 (by decide) (fun c14 => ?_) (fun c14 => ?_)
        · try rw [nI_leI (by omega) (by omega)] at c14
          refine PW.forget 17 ?_
          refine PW.iload_n hX dX7_parts_87 rfl rfl ?_
          refine PW.iret hX hR dX7_parts_88 rfl rfl ?_
          exact ⟨rfl, rfl⟩
        · try rw [nI_leI (by omega) (by omega)] at c14
          exfalso; omega -- CLOSED
      · have nx := fun z => ih (k + 1) (by omega) (by omega) _ rfl z
        rw [ltS, hZ] at nx
        have bk := hv k (by omega)
        have h3 := itK_le (mli M) Z.1 k (k + 1) (by omega) k (fun j hj => by have := l1 j hj; omega)
        have inner : ∀ n i : Nat, i + n = k → PW X 24 [some (.ref 0), some (.int (nI Z.2)), some (.ref 17), some (.int (nI k)), some (.int (nI i))] [] (mdB M ++ [.inl (0, 20, fun j => nI (va_up Z.1 k (itK (mli M) Z.1 k i) j))]) 1 20 := by
          intro n
          induction n with
          | zero =>
            intro i hi
            have e : i = k := by omega
            subst e
            have n2 := nx (some (.int (nI i)))
            dsimp only at n2
            generalize itK (mli M) Z.1 i i = v at n2 h3
            refine PW.iload hX dX7_parts_24 rfl ?_
            refine PW.iload_n hX dX7_parts_26 rfl rfl ?_
            refine PW.icmp_ge (tgt := 73) hX dX7_parts_27 (by decide) (fun c27 => ?_) (fun c27 => ?_)
            · try rw [nI_leI (by omega) (by omega)] at c27
              refine PW.iload_n hX dX7_parts_73 rfl rfl ?_
              refine PW.aload_n hX dX7_parts_74 rfl rfl ?_
              refine PW.iload_n hX dX7_parts_75 rfl rfl ?_
              refine PW.iaload (k := i) hX dX7_parts_76 rfl rfl rfl (by omega) ?_
              refine PW.top (show nI (va_up Z.1 i v i) = nI v by rw [va_up_self]) ?_
              refine PW.mmax hX ml_X7_172 dX7_parts_77 rfl rfl rfl rfl ?_
              refine PW.top (maxI (a := Z.2) (b := v) (by omega) (by omega)) ?_
              refine PW.istore_n hX dX7_parts_80 rfl rfl ?_
              first | refine PW.iinc hX dX7_parts_81 rfl (iincN _) ?_ | refine PW.iinc hX dX7_parts_81 rfl rfl ?_
              refine PW.goto (tgt := 9) hX dX7_parts_84 (by decide) ?_
              exact n2
            · try rw [nI_leI (by omega) (by omega)] at c27
              exfalso; omega -- CLOSED
          | succ n ihi =>
            intro i hi
            have n2 := ihi (i + 1) (by omega)
            have bi := hv i (by omega)
            have h4 := itK_le (mli M) Z.1 k (k + 1) (by omega) i (fun j hj => by have := l1 j (by omega); omega)
            have li := l1 i (by omega)
            rw [itK] at n2
            by_cases hd : mli M k % 10 ≤ mli M i % 10
            · rw [if_pos hd] at n2
              generalize itK (mli M) Z.1 k i = v at n2 h4 ⊢
              have eh : (mdB M ++ [(.inl (0, 20, fun j => nI (va_up Z.1 k v j)) : PCell)]).set 17 (.inl (0, 20, upd (fun j => nI (va_up Z.1 k v j)) k (nI (maxN v (Z.1 i + 1))))) = mdB M ++ [.inl (0, 20, fun j => nI (va_up Z.1 k (maxN v (Z.1 i + 1)) j))] := by
                rw [upd_nI, show va_up (va_up Z.1 k v) k (maxN v (Z.1 i + 1)) = va_up Z.1 k (maxN v (Z.1 i + 1)) from by
                  funext j
                  by_cases e : j = k
                  · rw [e, va_up_self, va_up_self]
                  · rw [va_up_ne _ _ e, va_up_ne _ _ e, va_up_ne _ _ e]]
                rfl
              refine PW.iload hX dX7_parts_24 rfl ?_
              refine PW.iload_n hX dX7_parts_26 rfl rfl ?_
              refine PW.icmp_ge (tgt := 73) hX dX7_parts_27 (by decide) (fun c27 => ?_) (fun c27 => ?_)
              · try rw [nI_leI (by omega) (by omega)] at c27
                exfalso; omega -- CLOSED
              · try rw [nI_leI (by omega) (by omega)] at c27
                refine PW.aload_n hX dX7_parts_30 rfl rfl ?_
                refine PW.getfield hX fl_X7_54 dX7_parts_31 rfl rfl ?_
                refine PW.iload hX dX7_parts_34 rfl ?_
                refine PW.iaload (k := i) hX dX7_parts_36 rfl rfl rfl (by omega) ?_
                refine PW.top (show _ = nI (mli M i) from rfl) ?_
                refine PW.bipush (v := nI 10) hX dX7_parts_37 (by decide) ?_
                refine PW.irem hX dX7_parts_39 (by decide) ?_
                refine PW.top (rem10 (show mli M i < 2 ^ 31 by omega)) ?_
                refine PW.aload_n hX dX7_parts_40 rfl rfl ?_
                refine PW.getfield hX fl_X7_54 dX7_parts_41 rfl rfl ?_
                refine PW.iload_n hX dX7_parts_44 rfl rfl ?_
                refine PW.iaload (k := k) hX dX7_parts_45 rfl rfl rfl (by omega) ?_
                refine PW.top (show _ = nI (mli M k) from rfl) ?_
                refine PW.bipush (v := nI 10) hX dX7_parts_46 (by decide) ?_
                refine PW.irem hX dX7_parts_48 (by decide) ?_
                refine PW.top (rem10 (show mli M k < 2 ^ 31 by omega)) ?_
                refine PW.icmp_lt (tgt := 67) hX dX7_parts_49 (by decide) (fun c49 => ?_) (fun c49 => ?_)
                · try rw [nI_ltI (by omega) (by omega)] at c49
                  exfalso; omega -- CLOSED
                · try rw [nI_ltI (by omega) (by omega)] at c49
                  refine PW.aload_n hX dX7_parts_52 rfl rfl ?_
                  refine PW.iload_n hX dX7_parts_53 rfl rfl ?_
                  refine PW.aload_n hX dX7_parts_54 rfl rfl ?_
                  refine PW.iload_n hX dX7_parts_55 rfl rfl ?_
                  refine PW.iaload (k := k) hX dX7_parts_56 rfl rfl rfl (by omega) ?_
                  refine PW.top (show nI (va_up Z.1 k v k) = nI v by rw [va_up_self]) ?_
                  refine PW.aload_n hX dX7_parts_57 rfl rfl ?_
                  refine PW.iload hX dX7_parts_58 rfl ?_
                  refine PW.iaload (k := i) hX dX7_parts_60 rfl rfl rfl (by omega) ?_
                  refine PW.top (show nI (va_up Z.1 k v i) = nI (Z.1 i) by rw [va_up_ne _ _ (by omega)]) ?_
                  refine PW.iconst (v := nI 1) hX dX7_parts_61 (by decide) ?_
                  refine PW.iadd hX dX7_parts_62 ?_
                  refine PW.top (nI_add _ 1) ?_
                  refine PW.mmax hX ml_X7_172 dX7_parts_63 rfl rfl rfl rfl ?_
                  refine PW.top (maxI (a := v) (b := Z.1 i + 1) (by omega) (by omega)) ?_
                  refine PW.iastore (k := k) hX dX7_parts_66 rfl rfl rfl (by omega) ?_
                  refine PW.heap eh ?_
                  first | refine PW.iinc hX dX7_parts_67 rfl (iincN _) ?_ | refine PW.iinc hX dX7_parts_67 rfl rfl ?_
                  refine PW.goto (tgt := 24) hX dX7_parts_70 (by decide) ?_
                  exact n2
            · rw [if_neg hd] at n2
              refine PW.iload hX dX7_parts_24 rfl ?_
              refine PW.iload_n hX dX7_parts_26 rfl rfl ?_
              refine PW.icmp_ge (tgt := 73) hX dX7_parts_27 (by decide) (fun c27 => ?_) (fun c27 => ?_)
              · try rw [nI_leI (by omega) (by omega)] at c27
                exfalso; omega -- CLOSED
              · try rw [nI_leI (by omega) (by omega)] at c27
                refine PW.aload_n hX dX7_parts_30 rfl rfl ?_
                refine PW.getfield hX fl_X7_54 dX7_parts_31 rfl rfl ?_
                refine PW.iload hX dX7_parts_34 rfl ?_
                refine PW.iaload (k := i) hX dX7_parts_36 rfl rfl rfl (by omega) ?_
                refine PW.top (show _ = nI (mli M i) from rfl) ?_
                refine PW.bipush (v := nI 10) hX dX7_parts_37 (by decide) ?_
                refine PW.irem hX dX7_parts_39 (by decide) ?_
                refine PW.top (rem10 (show mli M i < 2 ^ 31 by omega)) ?_
                refine PW.aload_n hX dX7_parts_40 rfl rfl ?_
                refine PW.getfield hX fl_X7_54 dX7_parts_41 rfl rfl ?_
                refine PW.iload_n hX dX7_parts_44 rfl rfl ?_
                refine PW.iaload (k := k) hX dX7_parts_45 rfl rfl rfl (by omega) ?_
                refine PW.top (show _ = nI (mli M k) from rfl) ?_
                refine PW.bipush (v := nI 10) hX dX7_parts_46 (by decide) ?_
                refine PW.irem hX dX7_parts_48 (by decide) ?_
                refine PW.top (rem10 (show mli M k < 2 ^ 31 by omega)) ?_
                refine PW.icmp_lt (tgt := 67) hX dX7_parts_49 (by decide) (fun c49 => ?_) (fun c49 => ?_)
                · try rw [nI_ltI (by omega) (by omega)] at c49
                  first | refine PW.iinc hX dX7_parts_67 rfl (iincN _) ?_ | refine PW.iinc hX dX7_parts_67 rfl rfl ?_
                  refine PW.goto (tgt := 24) hX dX7_parts_70 (by decide) ?_
                  exact n2
                · try rw [nI_ltI (by omega) (by omega)] at c49
                  exfalso; omega -- CLOSED
        have n0 := inner k 0 (by omega)
        rw [itK] at n0
        have eh : (mdB M ++ [(.inl (0, 20, fun j => nI (Z.1 j)) : PCell)]).set 17 (.inl (0, 20, upd (fun j => nI (Z.1 j)) k (nI 1))) = mdB M ++ [.inl (0, 20, fun j => nI (va_up Z.1 k 1 j))] := by
          rw [upd_nI]; rfl
        refine PW.iload_n hX dX7_parts_9 rfl rfl ?_
        refine PW.aload_n hX dX7_parts_10 rfl rfl ?_
        refine PW.getfield hX fl_X7_166 dX7_parts_11 rfl rfl ?_
        refine PW.icmp_ge (tgt := 87) hX dX7_parts_14 (by decide) (fun c14 => ?_) (fun c14 => ?_)
        · try rw [nI_leI (by omega) (by omega)] at c14
          exfalso; omega -- CLOSED
        · try rw [nI_leI (by omega) (by omega)] at c14
          refine PW.aload_n hX dX7_parts_17 rfl rfl ?_
          refine PW.iload_n hX dX7_parts_18 rfl rfl ?_
          refine PW.iconst (v := nI 1) hX dX7_parts_19 (by decide) ?_
          refine PW.iastore (k := k) hX dX7_parts_20 rfl rfl rfl (by omega) ?_
          refine PW.heap eh ?_
          refine PW.iconst (v := nI 0) hX dX7_parts_21 (by decide) ?_
          refine PW.istore hX dX7_parts_22 rfl ?_
          exact n0
  have nx := loop (mln M + 1) 0 (by omega) (by omega) _ rfl none
  refine PW.iconst (v := nI 0) hX dX7_parts_0 (by decide) ?_
  refine PW.istore_n hX dX7_parts_1 rfl rfl ?_
  refine PW.bipush (v := nI 20) hX dX7_parts_2 (by decide) ?_
  refine PW.newarr (t := 0) (ty := .int) hX acl_int rfl (fun _ => rfl) rfl (by decide) dX7_parts_4 rfl (by rw [hx]; exact Nat.le_of_ble_eq_true rfl) rfl rfl rfl rfl rfl ?_
  refine PW.astore_n hX dX7_parts_6 rfl rfl ?_
  refine PW.iconst (v := nI 0) hX dX7_parts_7 (by decide) ?_
  refine PW.istore_n hX dX7_parts_8 rfl rfl ?_
  exact nx
