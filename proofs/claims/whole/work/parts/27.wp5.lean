theorem lfo_lt (P : Pl) (D : Dy) (o : Nat) (dfo : ∀ k x, k < 60 → dyfo D k = some x → x < 100) (x : Nat) (h : lfo P D o = some x) : x < 100 := by
  unfold lfo at h
  cases hq : lfF P D o 60 with
  | none => rw [hq] at h; cases h
  | some l => rw [hq] at h; exact lfF_lt P D o dfo 60 (Nat.le_refl _) l x hq h
def mx0 (z : Int32) : Int32 := if nI 0 < z then z else nI 0
def wWaits (W : Wp) (x y u : Int32) : Int32 × Wp := bif inB 4 x then (if y < 0 ∨ u < 0 then (-4, rfu W 4) else if nI 100 ≤ y ∨ nI 30 < u then (-6, rfu W 6) else ((match lfo (wpP W) (dAll W) x.toNatClampNeg with | none => -9 | some r => mx0 (nI r - y - u)), swY W (dAll W))) else (-1, rfu W 1)
theorem pm_waits (W : Wp) (wk : WpOk W) (x y u : Int32) : PM mu_X6_waits 9 0 0 [.ref 0, .int x, .int y, .int u] (wpB W) (eqP (some (.int (wWaits W x y u).1)) (wpB (wWaits W x y u).2)) := by
  cases hb : inB 4 x with
  | false =>
    have e : wWaits W x y u = (-1, rfu W 1) := by unfold wWaits; rw [hb]; rfl
    rw [e]
    refine PM.start (Or.inl (by decide +kernel)) rfl rfl rfl ?_
    intro X hX hR hx hin
    refine PW.iload_n hX dX6_waits_0 rfl rfl ?_
    refine PW.sR hX ml_X6_150 (pm_isOwner x) dX6_waits_1 rfl rfl rfl rfl rfl rfl ?_
    refine PW.if_ne (tgt := 13) hX dX6_waits_4 (by decide) (fun c4 => ?_) (fun c4 => ?_)
    · first | rw [bI_d0] at c4 | rw [bI_eq0] at c4 | rw [nI_eq0 (by omega)] at c4 | skip
      exact absurd hb c4 -- CLOSED
    · first | rw [bI_d0] at c4 | rw [bI_eq0] at c4 | rw [nI_eq0 (by omega)] at c4 | skip
      refine PW.aload_n hX dX6_waits_7 rfl rfl ?_
      refine PW.iconst (v := (-1)) hX dX6_waits_8 (by decide) ?_
      refine PW.vIi hX ml_X6_58 (pm_refuse W (-1) 1 (by decide) (by decide) (by decide)) dX6_waits_9 45 rfl rfl rfl rfl rfl rfl rfl rfl rfl rfl rfl rfl rfl rfl rfl ?_
      refine PW.iret hX hR dX6_waits_12 rfl rfl ?_
      exact ⟨rfl, rfl⟩
  | true =>
    obtain ⟨k, hk, rfl⟩ := inB_of (by omega) hb
    have e : wWaits W (nI k) y u = (if y < 0 ∨ u < 0 then (-4, rfu W 4) else if nI 100 ≤ y ∨ nI 30 < u then (-6, rfu W 6) else ((match lfo (wpP W) (dAll W) k with | none => -9 | some r => mx0 (nI r - y - u)), swY W (dAll W))) := by unfold wWaits; rw [hb, nI_clamp (by omega)]; rfl
    rw [e]
    by_cases h1 : y < 0 ∨ u < 0
    · rw [if_pos h1]
      refine PM.start (Or.inl (by decide +kernel)) rfl rfl rfl ?_
      intro X hX hR hx hin
      refine PW.iload_n hX dX6_waits_0 rfl rfl ?_
      refine PW.sR hX ml_X6_150 (pm_isOwner (nI k)) dX6_waits_1 rfl rfl rfl rfl rfl rfl ?_
      refine PW.if_ne (tgt := 13) hX dX6_waits_4 (by decide) (fun c4 => ?_) (fun c4 => ?_)
      · refine PW.iload_n hX dX6_waits_13 rfl rfl ?_
        refine PW.if_lt (tgt := 21) hX dX6_waits_14 (by decide) (fun c14 => ?_) (fun c14 => ?_)
        · refine PW.aload_n hX dX6_waits_21 rfl rfl ?_
          refine PW.bipush (v := (-4)) hX dX6_waits_22 (by decide) ?_
          refine PW.vIi hX ml_X6_58 (pm_refuse W (-4) 4 (by decide) (by decide) (by decide)) dX6_waits_24 45 rfl rfl rfl rfl rfl rfl rfl rfl rfl rfl rfl rfl rfl rfl rfl ?_
          refine PW.iret hX hR dX6_waits_27 rfl rfl ?_
          exact ⟨rfl, rfl⟩
        · refine PW.iload_n hX dX6_waits_17 rfl rfl ?_
          refine PW.if_ge (tgt := 28) hX dX6_waits_18 (by decide) (fun c18 => ?_) (fun c18 => ?_)
          · exact absurd h1 (fun q => q.elim c14 (i32_ge0 c18)) -- CLOSED
          · refine PW.aload_n hX dX6_waits_21 rfl rfl ?_
            refine PW.bipush (v := (-4)) hX dX6_waits_22 (by decide) ?_
            refine PW.vIi hX ml_X6_58 (pm_refuse W (-4) 4 (by decide) (by decide) (by decide)) dX6_waits_24 45 rfl rfl rfl rfl rfl rfl rfl rfl rfl rfl rfl rfl rfl rfl rfl ?_
            refine PW.iret hX hR dX6_waits_27 rfl rfl ?_
            exact ⟨rfl, rfl⟩
      · exact absurd ((congrArg bI hb).symm.trans c4) (by decide) -- CLOSED
    · rw [if_neg h1]
      by_cases h2 : nI 100 ≤ y ∨ nI 30 < u
      · rw [if_pos h2]
        refine PM.start (Or.inl (by decide +kernel)) rfl rfl rfl ?_
        intro X hX hR hx hin
        refine PW.iload_n hX dX6_waits_0 rfl rfl ?_
        refine PW.sR hX ml_X6_150 (pm_isOwner (nI k)) dX6_waits_1 rfl rfl rfl rfl rfl rfl ?_
        refine PW.if_ne (tgt := 13) hX dX6_waits_4 (by decide) (fun c4 => ?_) (fun c4 => ?_)
        · refine PW.iload_n hX dX6_waits_13 rfl rfl ?_
          refine PW.if_lt (tgt := 21) hX dX6_waits_14 (by decide) (fun c14 => ?_) (fun c14 => ?_)
          · exact absurd (Or.inl c14) h1 -- CLOSED
          · refine PW.iload_n hX dX6_waits_17 rfl rfl ?_
            refine PW.if_ge (tgt := 28) hX dX6_waits_18 (by decide) (fun c18 => ?_) (fun c18 => ?_)
            · refine PW.iload_n hX dX6_waits_28 rfl rfl ?_
              refine PW.bipush (v := nI 100) hX dX6_waits_29 (by decide) ?_
              refine PW.icmp_ge (tgt := 40) hX dX6_waits_31 (by decide) (fun c31 => ?_) (fun c31 => ?_)
              · refine PW.aload_n hX dX6_waits_40 rfl rfl ?_
                refine PW.bipush (v := (-6)) hX dX6_waits_41 (by decide) ?_
                refine PW.vIi hX ml_X6_58 (pm_refuse W (-6) 6 (by decide) (by decide) (by decide)) dX6_waits_43 45 rfl rfl rfl rfl rfl rfl rfl rfl rfl rfl rfl rfl rfl rfl rfl ?_
                refine PW.iret hX hR dX6_waits_46 rfl rfl ?_
                exact ⟨rfl, rfl⟩
              · refine PW.iload_n hX dX6_waits_34 rfl rfl ?_
                refine PW.bipush (v := nI 30) hX dX6_waits_35 (by decide) ?_
                refine PW.icmp_le (tgt := 47) hX dX6_waits_37 (by decide) (fun c37 => ?_) (fun c37 => ?_)
                · exact absurd h2 (fun q => q.elim c31 (i32_nlt.mpr c37)) -- CLOSED
                · refine PW.aload_n hX dX6_waits_40 rfl rfl ?_
                  refine PW.bipush (v := (-6)) hX dX6_waits_41 (by decide) ?_
                  refine PW.vIi hX ml_X6_58 (pm_refuse W (-6) 6 (by decide) (by decide) (by decide)) dX6_waits_43 45 rfl rfl rfl rfl rfl rfl rfl rfl rfl rfl rfl rfl rfl rfl rfl ?_
                  refine PW.iret hX hR dX6_waits_46 rfl rfl ?_
                  exact ⟨rfl, rfl⟩
            · exact absurd (Or.inr (i32_lt0 c18)) h1 -- CLOSED
        · exact absurd ((congrArg bI hb).symm.trans c4) (by decide) -- CLOSED
      · rw [if_neg h2]
        have cM := pm_pw W wk
        have cL := pm_lastFirstOut (wpP W) wk.1 (dAll W) (dAll_ok W wk).2.2.2.2.1 k hk
        have hl := lfo_lt (wpP W) (dAll W) k (dAll_ok W wk).2.2.2.2.1
        generalize dAll W = Z at cM cL hl ⊢
        cases hr0 : lfo (wpP W) Z k with
        | none =>
          rw [hr0] at cL
          refine PM.start (Or.inl (by decide +kernel)) rfl rfl rfl ?_
          intro X hX hR hx hin
          refine PW.iload_n hX dX6_waits_0 rfl rfl ?_
          refine PW.sR hX ml_X6_150 (pm_isOwner (nI k)) dX6_waits_1 rfl rfl rfl rfl rfl rfl ?_
          refine PW.if_ne (tgt := 13) hX dX6_waits_4 (by decide) (fun c4 => ?_) (fun c4 => ?_)
          · refine PW.iload_n hX dX6_waits_13 rfl rfl ?_
            refine PW.if_lt (tgt := 21) hX dX6_waits_14 (by decide) (fun c14 => ?_) (fun c14 => ?_)
            · exact absurd (Or.inl c14) h1 -- CLOSED
            · refine PW.iload_n hX dX6_waits_17 rfl rfl ?_
              refine PW.if_ge (tgt := 28) hX dX6_waits_18 (by decide) (fun c18 => ?_) (fun c18 => ?_)
              · refine PW.iload_n hX dX6_waits_28 rfl rfl ?_
                refine PW.bipush (v := nI 100) hX dX6_waits_29 (by decide) ?_
                refine PW.icmp_ge (tgt := 40) hX dX6_waits_31 (by decide) (fun c31 => ?_) (fun c31 => ?_)
                · exact absurd (Or.inl c31) h2 -- CLOSED
                · refine PW.iload_n hX dX6_waits_34 rfl rfl ?_
                  refine PW.bipush (v := nI 30) hX dX6_waits_35 (by decide) ?_
                  refine PW.icmp_le (tgt := 47) hX dX6_waits_37 (by decide) (fun c37 => ?_) (fun c37 => ?_)
                  · refine PW.aload_n hX dX6_waits_47 rfl rfl ?_
                    refine PW.getfield hX fl_X6_39 dX6_waits_48 rfl rfl ?_
                    refine PW.aload_n hX dX6_waits_51 rfl rfl ?_
                    refine PW.getfield hX fl_X6_12 dX6_waits_52 rfl rfl ?_
                    refine PW.bipush (v := nI 99) hX dX6_waits_55 (by decide) ?_
                    refine PW.vV hX ml_X6_127 (id cM) dX6_waits_57 [29, 30, 31, 32, 33, 34, 35, 36, 37, 38, 1, 2, 3, 4, 5, 6, 7, 8] (e1_YP W) rfl rfl rfl rfl rfl rfl rfl rfl rfl rfl rfl rfl rfl (eh_YP W _) ?_
                    refine PW.aload_n hX dX6_waits_60 rfl rfl ?_
                    refine PW.getfield hX fl_X6_39 dX6_waits_61 rfl rfl ?_
                    refine PW.aload_n hX dX6_waits_64 rfl rfl ?_
                    refine PW.getfield hX fl_X6_12 dX6_waits_65 rfl rfl ?_
                    refine PW.iload_n hX dX6_waits_68 rfl rfl ?_
                    refine PW.vR hX ml_X6_170 (id cL) dX6_waits_69 [29, 30, 31, 32, 33, 34, 35, 36, 37, 38, 1, 2, 3, 4, 5, 6, 7, 8] (e1_YP (swY W Z)) rfl rfl rfl rfl rfl rfl rfl rfl rfl rfl rfl rfl ?_
                    refine PW.istore hX dX6_waits_72 rfl ?_
                    refine PW.iload hX dX6_waits_74 rfl ?_
                    refine PW.if_ge (tgt := 84) hX dX6_waits_76 (by decide) (fun c76 => ?_) (fun c76 => ?_)
                    · exact absurd (show (0 : Int32) ≤ -9 from c76) (by decide) -- CLOSED
                    · refine PW.bipush (v := (-9)) hX dX6_waits_79 (by decide) ?_
                      refine PW.goto (tgt := 94) hX dX6_waits_81 (by decide) ?_
                      refine PW.iret hX hR dX6_waits_94 rfl rfl ?_
                      exact ⟨rfl, rfl⟩
                  · exact absurd (Or.inr (i32_nle.mp c37)) h2 -- CLOSED
              · exact absurd (Or.inr (i32_lt0 c18)) h1 -- CLOSED
          · exact absurd ((congrArg bI hb).symm.trans c4) (by decide) -- CLOSED
        | some r =>
          rw [hr0] at cL
          have hr1 := hl r hr0
          refine PM.start (Or.inl (by decide +kernel)) rfl rfl rfl ?_
          intro X hX hR hx hin
          refine PW.iload_n hX dX6_waits_0 rfl rfl ?_
          refine PW.sR hX ml_X6_150 (pm_isOwner (nI k)) dX6_waits_1 rfl rfl rfl rfl rfl rfl ?_
          refine PW.if_ne (tgt := 13) hX dX6_waits_4 (by decide) (fun c4 => ?_) (fun c4 => ?_)
          · refine PW.iload_n hX dX6_waits_13 rfl rfl ?_
            refine PW.if_lt (tgt := 21) hX dX6_waits_14 (by decide) (fun c14 => ?_) (fun c14 => ?_)
            · exact absurd (Or.inl c14) h1 -- CLOSED
            · refine PW.iload_n hX dX6_waits_17 rfl rfl ?_
              refine PW.if_ge (tgt := 28) hX dX6_waits_18 (by decide) (fun c18 => ?_) (fun c18 => ?_)
              · refine PW.iload_n hX dX6_waits_28 rfl rfl ?_
                refine PW.bipush (v := nI 100) hX dX6_waits_29 (by decide) ?_
                refine PW.icmp_ge (tgt := 40) hX dX6_waits_31 (by decide) (fun c31 => ?_) (fun c31 => ?_)
                · exact absurd (Or.inl c31) h2 -- CLOSED
                · refine PW.iload_n hX dX6_waits_34 rfl rfl ?_
                  refine PW.bipush (v := nI 30) hX dX6_waits_35 (by decide) ?_
                  refine PW.icmp_le (tgt := 47) hX dX6_waits_37 (by decide) (fun c37 => ?_) (fun c37 => ?_)
                  · refine PW.aload_n hX dX6_waits_47 rfl rfl ?_
                    refine PW.getfield hX fl_X6_39 dX6_waits_48 rfl rfl ?_
                    refine PW.aload_n hX dX6_waits_51 rfl rfl ?_
                    refine PW.getfield hX fl_X6_12 dX6_waits_52 rfl rfl ?_
                    refine PW.bipush (v := nI 99) hX dX6_waits_55 (by decide) ?_
                    refine PW.vV hX ml_X6_127 (id cM) dX6_waits_57 [29, 30, 31, 32, 33, 34, 35, 36, 37, 38, 1, 2, 3, 4, 5, 6, 7, 8] (e1_YP W) rfl rfl rfl rfl rfl rfl rfl rfl rfl rfl rfl rfl rfl (eh_YP W _) ?_
                    refine PW.aload_n hX dX6_waits_60 rfl rfl ?_
                    refine PW.getfield hX fl_X6_39 dX6_waits_61 rfl rfl ?_
                    refine PW.aload_n hX dX6_waits_64 rfl rfl ?_
                    refine PW.getfield hX fl_X6_12 dX6_waits_65 rfl rfl ?_
                    refine PW.iload_n hX dX6_waits_68 rfl rfl ?_
                    refine PW.vR hX ml_X6_170 (id cL) dX6_waits_69 [29, 30, 31, 32, 33, 34, 35, 36, 37, 38, 1, 2, 3, 4, 5, 6, 7, 8] (e1_YP (swY W Z)) rfl rfl rfl rfl rfl rfl rfl rfl rfl rfl rfl rfl ?_
                    refine PW.top (show _ = nI r from rfl) ?_
                    refine PW.istore hX dX6_waits_72 rfl ?_
                    refine PW.iload hX dX6_waits_74 rfl ?_
                    refine PW.if_ge (tgt := 84) hX dX6_waits_76 (by decide) (fun c76 => ?_) (fun c76 => ?_)
                    · refine PW.iconst (v := nI 0) hX dX6_waits_84 (by decide) ?_
                      refine PW.iload hX dX6_waits_85 rfl ?_
                      refine PW.iload_n hX dX6_waits_87 rfl rfl ?_
                      refine PW.isub hX dX6_waits_88 ?_
                      refine PW.iload_n hX dX6_waits_89 rfl rfl ?_
                      refine PW.isub hX dX6_waits_90 ?_
                      refine PW.mmax hX ml_X6_199 dX6_waits_91 rfl rfl rfl rfl ?_
                      refine PW.iret hX hR dX6_waits_94 rfl rfl ?_
                      exact ⟨rfl, rfl⟩
                    · exact absurd (nI_pos' (show r < 2 ^ 31 by omega)) c76 -- CLOSED
                  · exact absurd (Or.inr (i32_nle.mp c37)) h2 -- CLOSED
              · exact absurd (Or.inr (i32_lt0 c18)) h1 -- CLOSED
          · exact absurd ((congrArg bI hb).symm.trans c4) (by decide) -- CLOSED
/-- walks in vain -/
def vnL (r e : Nat) : Nat → Nat → Nat → Nat
  | 0, _, w => w
  | n + 1, c, w => if c < r then vnL r e n (c + e) (w + 1) else w
theorem vnL_div {r e : Nat} (he : 1 ≤ e) : ∀ n c w, r < c + n → vnL r e n c w = w + (if c < r then (r - c - 1) / e + 1 else 0)
  | 0, c, w, h => by
    rw [if_neg (by omega)]
    rfl
  | n + 1, c, w, h => by
    rw [show vnL r e (n + 1) c w = if c < r then vnL r e n (c + e) (w + 1) else w from rfl]
    by_cases hc : c < r
    · rw [if_pos hc, if_pos hc, vnL_div he n (c + e) (w + 1) (by omega)]
      by_cases hd : c + e < r
      · rw [if_pos hd, Nat.div_eq_sub_div (show 0 < e by omega) (show e ≤ r - c - 1 by omega), show r - c - 1 - e = r - (c + e) - 1 by omega]
        omega
      · rw [if_neg hd, Nat.div_eq_of_lt (show r - c - 1 < e by omega)]
    · rw [if_neg hc, if_neg hc, Nat.add_zero]
theorem vnI_t {r m z : Nat} (h : m < r) (hr : r < 100) (h1 : 1 ≤ z) (h2 : z ≤ 30) : (nI r - nI m - nI 1) / nI z + nI 1 = nI (vnL r z 101 m 0) := by
  rw [vnL_div h1 101 m 0 (by omega), if_pos h, pk_sub (by omega), pk_sub (by omega), pk_div (by omega) (by omega) (by omega), nI_add, Nat.zero_add]
theorem vnI_f {r m z : Nat} (h : ¬ m < r) (hr : r < 100) (h1 : 1 ≤ z) : nI 0 = nI (vnL r z 101 m 0) := by
  rw [vnL_div h1 101 m 0 (by omega), if_neg h]
def wVain (W : Wp) (x y u : Int32) : Int32 × Wp := bif inB 4 x then (if y < 0 ∨ u < nI 1 then (-4, rfu W 4) else if nI 100 ≤ y ∨ nI 30 < u then (-6, rfu W 6) else ((match lfo (wpP W) (dAll W) x.toNatClampNeg with | none => -9 | some r => nI (vnL r u.toNatClampNeg 101 y.toNatClampNeg 0)), swY W (dAll W))) else (-1, rfu W 1)
theorem pm_vain (W : Wp) (wk : WpOk W) (x y u : Int32) : PM mu_X6_vain 9 0 0 [.ref 0, .int x, .int y, .int u] (wpB W) (eqP (some (.int (wVain W x y u).1)) (wpB (wVain W x y u).2)) := by
  cases hb : inB 4 x with
  | false =>
    have e : wVain W x y u = (-1, rfu W 1) := by unfold wVain; rw [hb]; rfl
    rw [e]
    refine PM.start (Or.inl (by decide +kernel)) rfl rfl rfl ?_
    intro X hX hR hx hin
    refine PW.iload_n hX dX6_vain_0 rfl rfl ?_
    refine PW.sR hX ml_X6_150 (pm_isOwner x) dX6_vain_1 rfl rfl rfl rfl rfl rfl ?_
    refine PW.if_ne (tgt := 13) hX dX6_vain_4 (by decide) (fun c4 => ?_) (fun c4 => ?_)
    · first | rw [bI_d0] at c4 | rw [bI_eq0] at c4 | rw [nI_eq0 (by omega)] at c4 | skip
      exact absurd hb c4 -- CLOSED
    · first | rw [bI_d0] at c4 | rw [bI_eq0] at c4 | rw [nI_eq0 (by omega)] at c4 | skip
      refine PW.aload_n hX dX6_vain_7 rfl rfl ?_
      refine PW.iconst (v := (-1)) hX dX6_vain_8 (by decide) ?_
      refine PW.vIi hX ml_X6_58 (pm_refuse W (-1) 1 (by decide) (by decide) (by decide)) dX6_vain_9 45 rfl rfl rfl rfl rfl rfl rfl rfl rfl rfl rfl rfl rfl rfl rfl ?_
      refine PW.iret hX hR dX6_vain_12 rfl rfl ?_
      exact ⟨rfl, rfl⟩
  | true =>
    obtain ⟨k, hk, rfl⟩ := inB_of (by omega) hb
    have e : wVain W (nI k) y u = (if y < 0 ∨ u < nI 1 then (-4, rfu W 4) else if nI 100 ≤ y ∨ nI 30 < u then (-6, rfu W 6) else ((match lfo (wpP W) (dAll W) k with | none => -9 | some r => nI (vnL r u.toNatClampNeg 101 y.toNatClampNeg 0)), swY W (dAll W))) := by unfold wVain; rw [hb, nI_clamp (by omega)]; rfl
    rw [e]
    by_cases h1 : y < 0 ∨ u < nI 1
    · rw [if_pos h1]
      refine PM.start (Or.inl (by decide +kernel)) rfl rfl rfl ?_
      intro X hX hR hx hin
      refine PW.iload_n hX dX6_vain_0 rfl rfl ?_
      refine PW.sR hX ml_X6_150 (pm_isOwner (nI k)) dX6_vain_1 rfl rfl rfl rfl rfl rfl ?_
      refine PW.if_ne (tgt := 13) hX dX6_vain_4 (by decide) (fun c4 => ?_) (fun c4 => ?_)
      · refine PW.iload_n hX dX6_vain_13 rfl rfl ?_
        refine PW.if_lt (tgt := 22) hX dX6_vain_14 (by decide) (fun c14 => ?_) (fun c14 => ?_)
        · refine PW.aload_n hX dX6_vain_22 rfl rfl ?_
          refine PW.bipush (v := (-4)) hX dX6_vain_23 (by decide) ?_
          refine PW.vIi hX ml_X6_58 (pm_refuse W (-4) 4 (by decide) (by decide) (by decide)) dX6_vain_25 45 rfl rfl rfl rfl rfl rfl rfl rfl rfl rfl rfl rfl rfl rfl rfl ?_
          refine PW.iret hX hR dX6_vain_28 rfl rfl ?_
          exact ⟨rfl, rfl⟩
        · refine PW.iload_n hX dX6_vain_17 rfl rfl ?_
          refine PW.iconst (v := nI 1) hX dX6_vain_18 (by decide) ?_
          refine PW.icmp_ge (tgt := 29) hX dX6_vain_19 (by decide) (fun c19 => ?_) (fun c19 => ?_)
          · exact absurd h1 (fun q => q.elim c14 (i32_nlt.mpr c19)) -- CLOSED
          · refine PW.aload_n hX dX6_vain_22 rfl rfl ?_
            refine PW.bipush (v := (-4)) hX dX6_vain_23 (by decide) ?_
            refine PW.vIi hX ml_X6_58 (pm_refuse W (-4) 4 (by decide) (by decide) (by decide)) dX6_vain_25 45 rfl rfl rfl rfl rfl rfl rfl rfl rfl rfl rfl rfl rfl rfl rfl ?_
            refine PW.iret hX hR dX6_vain_28 rfl rfl ?_
            exact ⟨rfl, rfl⟩
      · exact absurd ((congrArg bI hb).symm.trans c4) (by decide) -- CLOSED
    · rw [if_neg h1]
      by_cases h2 : nI 100 ≤ y ∨ nI 30 < u
      · rw [if_pos h2]
        refine PM.start (Or.inl (by decide +kernel)) rfl rfl rfl ?_
        intro X hX hR hx hin
        refine PW.iload_n hX dX6_vain_0 rfl rfl ?_
        refine PW.sR hX ml_X6_150 (pm_isOwner (nI k)) dX6_vain_1 rfl rfl rfl rfl rfl rfl ?_
        refine PW.if_ne (tgt := 13) hX dX6_vain_4 (by decide) (fun c4 => ?_) (fun c4 => ?_)
        · refine PW.iload_n hX dX6_vain_13 rfl rfl ?_
          refine PW.if_lt (tgt := 22) hX dX6_vain_14 (by decide) (fun c14 => ?_) (fun c14 => ?_)
          · exact absurd (Or.inl c14) h1 -- CLOSED
          · refine PW.iload_n hX dX6_vain_17 rfl rfl ?_
            refine PW.iconst (v := nI 1) hX dX6_vain_18 (by decide) ?_
            refine PW.icmp_ge (tgt := 29) hX dX6_vain_19 (by decide) (fun c19 => ?_) (fun c19 => ?_)
            · refine PW.iload_n hX dX6_vain_29 rfl rfl ?_
              refine PW.bipush (v := nI 100) hX dX6_vain_30 (by decide) ?_
              refine PW.icmp_ge (tgt := 41) hX dX6_vain_32 (by decide) (fun c32 => ?_) (fun c32 => ?_)
              · refine PW.aload_n hX dX6_vain_41 rfl rfl ?_
                refine PW.bipush (v := (-6)) hX dX6_vain_42 (by decide) ?_
                refine PW.vIi hX ml_X6_58 (pm_refuse W (-6) 6 (by decide) (by decide) (by decide)) dX6_vain_44 45 rfl rfl rfl rfl rfl rfl rfl rfl rfl rfl rfl rfl rfl rfl rfl ?_
                refine PW.iret hX hR dX6_vain_47 rfl rfl ?_
                exact ⟨rfl, rfl⟩
              · refine PW.iload_n hX dX6_vain_35 rfl rfl ?_
                refine PW.bipush (v := nI 30) hX dX6_vain_36 (by decide) ?_
                refine PW.icmp_le (tgt := 48) hX dX6_vain_38 (by decide) (fun c38 => ?_) (fun c38 => ?_)
                · exact absurd h2 (fun q => q.elim c32 (i32_nlt.mpr c38)) -- CLOSED
                · refine PW.aload_n hX dX6_vain_41 rfl rfl ?_
                  refine PW.bipush (v := (-6)) hX dX6_vain_42 (by decide) ?_
                  refine PW.vIi hX ml_X6_58 (pm_refuse W (-6) 6 (by decide) (by decide) (by decide)) dX6_vain_44 45 rfl rfl rfl rfl rfl rfl rfl rfl rfl rfl rfl rfl rfl rfl rfl ?_
                  refine PW.iret hX hR dX6_vain_47 rfl rfl ?_
                  exact ⟨rfl, rfl⟩
            · exact absurd (Or.inr (i32_nle.mp c19)) h1 -- CLOSED
        · exact absurd ((congrArg bI hb).symm.trans c4) (by decide) -- CLOSED
      · rw [if_neg h2]
        obtain ⟨m, hm, rfl⟩ := nI_of (fun q => h1 (Or.inl q))
        obtain ⟨z, hz, rfl⟩ := nI_of (x := u) (fun q => h1 (Or.inr (Int32.lt_of_lt_of_le q (by decide))))
        rw [nI_clamp hm, nI_clamp hz]
        have m1 : m < 100 := by
          by_cases q : m < 100
          · exact q
          · exact absurd (Or.inl ((nI_leI (by omega) hm).mpr (by omega))) h2
        have z1 : 1 ≤ z := by
          by_cases q : 1 ≤ z
          · exact q
          · exact absurd (Or.inr ((nI_ltI hz (by omega)).mpr (by omega))) h1
        have z2 : z ≤ 30 := by
          by_cases q : z ≤ 30
          · exact q
          · exact absurd (Or.inr ((nI_ltI (by omega) hz).mpr (by omega))) h2
        have cM := pm_pw W wk
        have cL := pm_lastFirstOut (wpP W) wk.1 (dAll W) (dAll_ok W wk).2.2.2.2.1 k hk
        have hl := lfo_lt (wpP W) (dAll W) k (dAll_ok W wk).2.2.2.2.1
        generalize dAll W = Z at cM cL hl ⊢
        cases hr0 : lfo (wpP W) Z k with
        | none =>
          rw [hr0] at cL
          refine PM.start (Or.inl (by decide +kernel)) rfl rfl rfl ?_
          intro X hX hR hx hin
          refine PW.iload_n hX dX6_vain_0 rfl rfl ?_
          refine PW.sR hX ml_X6_150 (pm_isOwner (nI k)) dX6_vain_1 rfl rfl rfl rfl rfl rfl ?_
          refine PW.if_ne (tgt := 13) hX dX6_vain_4 (by decide) (fun c4 => ?_) (fun c4 => ?_)
          · refine PW.iload_n hX dX6_vain_13 rfl rfl ?_
            refine PW.if_lt (tgt := 22) hX dX6_vain_14 (by decide) (fun c14 => ?_) (fun c14 => ?_)
            · exact absurd (Or.inl c14) h1 -- CLOSED
            · refine PW.iload_n hX dX6_vain_17 rfl rfl ?_
              refine PW.iconst (v := nI 1) hX dX6_vain_18 (by decide) ?_
              refine PW.icmp_ge (tgt := 29) hX dX6_vain_19 (by decide) (fun c19 => ?_) (fun c19 => ?_)
              · refine PW.iload_n hX dX6_vain_29 rfl rfl ?_
                refine PW.bipush (v := nI 100) hX dX6_vain_30 (by decide) ?_
                refine PW.icmp_ge (tgt := 41) hX dX6_vain_32 (by decide) (fun c32 => ?_) (fun c32 => ?_)
                · exact absurd (Or.inl c32) h2 -- CLOSED
                · refine PW.iload_n hX dX6_vain_35 rfl rfl ?_
                  refine PW.bipush (v := nI 30) hX dX6_vain_36 (by decide) ?_
                  refine PW.icmp_le (tgt := 48) hX dX6_vain_38 (by decide) (fun c38 => ?_) (fun c38 => ?_)
                  · refine PW.aload_n hX dX6_vain_48 rfl rfl ?_
                    refine PW.getfield hX fl_X6_39 dX6_vain_49 rfl rfl ?_
                    refine PW.aload_n hX dX6_vain_52 rfl rfl ?_
                    refine PW.getfield hX fl_X6_12 dX6_vain_53 rfl rfl ?_
                    refine PW.bipush (v := nI 99) hX dX6_vain_56 (by decide) ?_
                    refine PW.vV hX ml_X6_127 (id cM) dX6_vain_58 [29, 30, 31, 32, 33, 34, 35, 36, 37, 38, 1, 2, 3, 4, 5, 6, 7, 8] (e1_YP W) rfl rfl rfl rfl rfl rfl rfl rfl rfl rfl rfl rfl rfl (eh_YP W _) ?_
                    refine PW.aload_n hX dX6_vain_61 rfl rfl ?_
                    refine PW.getfield hX fl_X6_39 dX6_vain_62 rfl rfl ?_
                    refine PW.aload_n hX dX6_vain_65 rfl rfl ?_
                    refine PW.getfield hX fl_X6_12 dX6_vain_66 rfl rfl ?_
                    refine PW.iload_n hX dX6_vain_69 rfl rfl ?_
                    refine PW.vR hX ml_X6_170 (id cL) dX6_vain_70 [29, 30, 31, 32, 33, 34, 35, 36, 37, 38, 1, 2, 3, 4, 5, 6, 7, 8] (e1_YP (swY W Z)) rfl rfl rfl rfl rfl rfl rfl rfl rfl rfl rfl rfl ?_
                    refine PW.istore hX dX6_vain_73 rfl ?_
                    refine PW.iload hX dX6_vain_75 rfl ?_
                    refine PW.if_ge (tgt := 83) hX dX6_vain_77 (by decide) (fun c77 => ?_) (fun c77 => ?_)
                    · exact absurd (show (0 : Int32) ≤ -9 from c77) (by decide) -- CLOSED
                    · refine PW.bipush (v := (-9)) hX dX6_vain_80 (by decide) ?_
                      refine PW.iret hX hR dX6_vain_82 rfl rfl ?_
                      exact ⟨rfl, rfl⟩
                  · exact absurd (Or.inr (i32_nle.mp c38)) h2 -- CLOSED
              · exact absurd (Or.inr (i32_nle.mp c19)) h1 -- CLOSED
          · exact absurd ((congrArg bI hb).symm.trans c4) (by decide) -- CLOSED
        | some r =>
          rw [hr0] at cL
          have hr1 := hl r hr0
          dsimp only
          refine PM.start (Or.inl (by decide +kernel)) rfl rfl rfl ?_
          intro X hX hR hx hin
          refine PW.iload_n hX dX6_vain_0 rfl rfl ?_
          refine PW.sR hX ml_X6_150 (pm_isOwner (nI k)) dX6_vain_1 rfl rfl rfl rfl rfl rfl ?_
          refine PW.if_ne (tgt := 13) hX dX6_vain_4 (by decide) (fun c4 => ?_) (fun c4 => ?_)
          · refine PW.iload_n hX dX6_vain_13 rfl rfl ?_
            refine PW.if_lt (tgt := 22) hX dX6_vain_14 (by decide) (fun c14 => ?_) (fun c14 => ?_)
            · exact absurd (Or.inl c14) h1 -- CLOSED
            · refine PW.iload_n hX dX6_vain_17 rfl rfl ?_
              refine PW.iconst (v := nI 1) hX dX6_vain_18 (by decide) ?_
              refine PW.icmp_ge (tgt := 29) hX dX6_vain_19 (by decide) (fun c19 => ?_) (fun c19 => ?_)
              · refine PW.iload_n hX dX6_vain_29 rfl rfl ?_
                refine PW.bipush (v := nI 100) hX dX6_vain_30 (by decide) ?_
                refine PW.icmp_ge (tgt := 41) hX dX6_vain_32 (by decide) (fun c32 => ?_) (fun c32 => ?_)
                · exact absurd (Or.inl c32) h2 -- CLOSED
                · refine PW.iload_n hX dX6_vain_35 rfl rfl ?_
                  refine PW.bipush (v := nI 30) hX dX6_vain_36 (by decide) ?_
                  refine PW.icmp_le (tgt := 48) hX dX6_vain_38 (by decide) (fun c38 => ?_) (fun c38 => ?_)
                  · refine PW.aload_n hX dX6_vain_48 rfl rfl ?_
                    refine PW.getfield hX fl_X6_39 dX6_vain_49 rfl rfl ?_
                    refine PW.aload_n hX dX6_vain_52 rfl rfl ?_
                    refine PW.getfield hX fl_X6_12 dX6_vain_53 rfl rfl ?_
                    refine PW.bipush (v := nI 99) hX dX6_vain_56 (by decide) ?_
                    refine PW.vV hX ml_X6_127 (id cM) dX6_vain_58 [29, 30, 31, 32, 33, 34, 35, 36, 37, 38, 1, 2, 3, 4, 5, 6, 7, 8] (e1_YP W) rfl rfl rfl rfl rfl rfl rfl rfl rfl rfl rfl rfl rfl (eh_YP W _) ?_
                    refine PW.aload_n hX dX6_vain_61 rfl rfl ?_
                    refine PW.getfield hX fl_X6_39 dX6_vain_62 rfl rfl ?_
                    refine PW.aload_n hX dX6_vain_65 rfl rfl ?_
                    refine PW.getfield hX fl_X6_12 dX6_vain_66 rfl rfl ?_
                    refine PW.iload_n hX dX6_vain_69 rfl rfl ?_
                    refine PW.vR hX ml_X6_170 (id cL) dX6_vain_70 [29, 30, 31, 32, 33, 34, 35, 36, 37, 38, 1, 2, 3, 4, 5, 6, 7, 8] (e1_YP (swY W Z)) rfl rfl rfl rfl rfl rfl rfl rfl rfl rfl rfl rfl ?_
                    refine PW.top (show _ = nI r from rfl) ?_
                    refine PW.istore hX dX6_vain_73 rfl ?_
                    refine PW.iload hX dX6_vain_75 rfl ?_
                    refine PW.if_ge (tgt := 83) hX dX6_vain_77 (by decide) (fun c77 => ?_) (fun c77 => ?_)
                    · refine PW.iload_n hX dX6_vain_83 rfl rfl ?_
                      refine PW.iload hX dX6_vain_84 rfl ?_
                      refine PW.icmp_lt (tgt := 93) hX dX6_vain_86 (by decide) (fun c86 => ?_) (fun c86 => ?_)
                      · rw [nI_ltI (by omega) (by omega)] at c86
                        refine PW.iload hX dX6_vain_93 rfl ?_
                        refine PW.iload_n hX dX6_vain_95 rfl rfl ?_
                        refine PW.isub hX dX6_vain_96 ?_
                        refine PW.iconst (v := nI 1) hX dX6_vain_97 (by decide) ?_
                        refine PW.isub hX dX6_vain_98 ?_
                        refine PW.iload_n hX dX6_vain_99 rfl rfl ?_
                        refine PW.idiv hX dX6_vain_100 (fun q => by rw [nI_eq0 (by omega)] at q; omega) ?_
                        refine PW.iconst (v := nI 1) hX dX6_vain_101 (by decide) ?_
                        refine PW.iadd hX dX6_vain_102 ?_
                        refine PW.iret hX hR dX6_vain_103 rfl rfl ?_
                        exact ⟨congrArg (fun z => some (Value.int z)) (vnI_t c86 hr1 z1 z2), rfl⟩
                      · rw [nI_ltI (by omega) (by omega)] at c86
                        refine PW.iconst (v := nI 0) hX dX6_vain_89 (by decide) ?_
                        refine PW.goto (tgt := 103) hX dX6_vain_90 (by decide) ?_
                        refine PW.iret hX hR dX6_vain_103 rfl rfl ?_
                        exact ⟨congrArg (fun z => some (Value.int z)) (vnI_f c86 hr1 z1), rfl⟩
                    · exact absurd (nI_pos' (show r < 2 ^ 31 by omega)) c77 -- CLOSED
                  · exact absurd (Or.inr (i32_nle.mp c38)) h2 -- CLOSED
              · exact absurd (Or.inr (i32_nle.mp c19)) h1 -- CLOSED
          · exact absurd ((congrArg bI hb).symm.trans c4) (by decide) -- CLOSED
/-- the first of the row that is not as what came out -/
def jdL (Z : Dy) (nu : Nat → Nat) : Nat → Nat → Option Nat
  | 0, _ => none
  | n + 1, i => if sOut Z (dyos Z) (nI i) = some (nu i) then jdL Z nu n (i + 1) else some i
def wJudge (W : Wp) : Int32 × Wp := (oI (jdL (dAll W) (rwnu (wpR W)) (rwn (wpR W)) 0), swR (swY W (dAll W)) (rwnu (wpR W), 0, rwwy (wpR W), rwlo (wpR W), rwfp (wpR W)))
theorem jdL_lt (Z : Dy) (nu : Nat → Nat) : ∀ n i x, jdL Z nu n i = some x → x < i + n
  | 0, i, x, h => by cases h
  | n + 1, i, x, h => by
    rw [jdL] at h
    split at h
    · have := jdL_lt Z nu n (i + 1) x h; omega
    · cases h; omega
theorem pm_judge (W : Wp) (wk : WpOk W) : PM mu_X6_judge 8 0 0 [.ref 0] (wpB W) (eqP (some (.int (wJudge W).1)) (wpB (wJudge W).2)) := by
  have cM := pm_pw W wk
  have dk := dAll_ok W wk
  have r1 : rwn (wpR W) ≤ 20 := wk.2.2.2.1
  have r2 : ∀ i, i < rwn (wpR W) → rwnu (wpR W) i < 100 := wk.2.2.2.2
  unfold wJudge
  generalize dAll W = Z at cM dk ⊢
  have hn : dyn Z ≤ 100 := dk.2.2.1
  have hso : ∀ i x, sOut Z (dyos Z) (nI i) = some x → i < 1000 → x < 1000 := by
    intro i x h hi
    unfold sOut at h
    cases hb : inB (dyn Z) (nI i) with
    | false => rw [hb] at h; cases h
    | true =>
      rw [hb, nI_clamp (by omega)] at h
      have h : some (dyos Z i) = some x := h
      cases h
      rw [inB_nI (by omega) (by omega)] at hb
      have := (dk.2.2.2.1 i (by simpa using hb)).1
      have := isSh_lt wk.1 this
      omega
  refine PM.start (Or.inl (by decide +kernel)) rfl rfl rfl ?_
  intro X hX hR hx hin
  have h61 : ∀ a i : Option Nat, a = jdL Z (rwnu (wpR W)) (rwn (wpR W)) 0 → PW X 63 [some (.ref 0), some (.int (oI a)), none] [] (wpB (swY W Z)) 0 0 := by
    intro a i ha
    rw [← ha] at hR
    refine PW.aload_n hX dX6_judge_63 rfl rfl ?_
    refine PW.getfield hX fl_X6_46 dX6_judge_64 rfl rfl ?_
    refine PW.vV hX ml_X6_219 (pm_rowClear (wpR W)) dX6_judge_67 [39, 40, 41, 42, 43] (e1_R (swY W Z)) rfl rfl rfl rfl rfl rfl rfl rfl rfl rfl rfl rfl rfl (eh_R (swY W Z) _) ?_
    refine PW.iload_n hX dX6_judge_70 rfl rfl ?_
    refine PW.iret hX hR dX6_judge_71 rfl rfl ?_
    exact ⟨rfl, rfl⟩
  have loop : ∀ n i : Nat, i + n = rwn (wpR W) → jdL Z (rwnu (wpR W)) (rwn (wpR W)) 0 = jdL Z (rwnu (wpR W)) n i → PW X 18 [some (.ref 0), some (.int (oI none)), some (.int (nI i))] [] (wpB (swY W Z)) 0 0 := by
    intro n
    induction n with
    | zero =>
      intro i h1 h2
      have h9 := h61 none none h2.symm
      refine PW.iload_n hX dX6_judge_18 rfl rfl ?_
      refine PW.aload_n hX dX6_judge_19 rfl rfl ?_
      refine PW.getfield hX fl_X6_46 dX6_judge_20 rfl rfl ?_
      refine PW.getfield hX fl_X6_214 dX6_judge_23 rfl rfl ?_
      refine PW.top (show _ = nI (rwn (wpR W)) from rfl) ?_
      refine PW.icmp_ge (tgt := 63) hX dX6_judge_26 (by decide) (fun c26 => ?_) (fun c26 => ?_)
      · try rw [nI_leI (by omega) (by omega)] at c26
        refine PW.clr 2 ?_
        exact h9
      · try rw [nI_leI (by omega) (by omega)] at c26
        exfalso; omega -- CLOSED
    | succ n ih =>
      intro i h1 h2
      rw [show jdL Z (rwnu (wpR W)) (n + 1) i = if sOut Z (dyos Z) (nI i) = some (rwnu (wpR W) i) then jdL Z (rwnu (wpR W)) n (i + 1) else some i from rfl] at h2
      have b := r2 i (by omega)
      have cS := pm_sheetOut Z hn (nI i)
      have hz := fun x h => hso i x h (by omega)
      generalize sOut Z (dyos Z) (nI i) = so at h2 cS hz
      refine PW.iload_n hX dX6_judge_18 rfl rfl ?_
      refine PW.aload_n hX dX6_judge_19 rfl rfl ?_
      refine PW.getfield hX fl_X6_46 dX6_judge_20 rfl rfl ?_
      refine PW.getfield hX fl_X6_214 dX6_judge_23 rfl rfl ?_
      refine PW.top (show _ = nI (rwn (wpR W)) from rfl) ?_
      refine PW.icmp_ge (tgt := 63) hX dX6_judge_26 (by decide) (fun c26 => ?_) (fun c26 => ?_)
      · try rw [nI_leI (by omega) (by omega)] at c26
        exfalso; omega -- CLOSED
      · try rw [nI_leI (by omega) (by omega)] at c26
        refine PW.iload_n hX dX6_judge_29 rfl rfl ?_
        refine PW.bipush (v := (-9)) hX dX6_judge_30 (by decide) ?_
        refine PW.icmp_ne (tgt := 63) hX dX6_judge_32 (by decide) (fun c32 => ?_) (fun c32 => ?_)
        · first | rw [nI_eq (by omega) (by omega)] at c32 | rw [oI_eq9] at c32 | skip
          exact absurd trivial c32 -- CLOSED
        · first | rw [nI_eq (by omega) (by omega)] at c32 | rw [oI_eq9] at c32 | skip
          refine PW.aload_n hX dX6_judge_35 rfl rfl ?_
          refine PW.getfield hX fl_X6_39 dX6_judge_36 rfl rfl ?_
          refine PW.iload_n hX dX6_judge_39 rfl rfl ?_
          refine PW.vR hX ml_X6_131 (id cS) dX6_judge_40 [29, 30, 31, 32, 33, 34, 35, 36, 37, 38] (e1_Y (swY W Z)) rfl rfl rfl rfl rfl rfl rfl rfl rfl rfl rfl rfl ?_
          refine PW.aload_n hX dX6_judge_43 rfl rfl ?_
          refine PW.getfield hX fl_X6_46 dX6_judge_44 rfl rfl ?_
          refine PW.getfield hX fl_X6_216 dX6_judge_47 rfl rfl ?_
          refine PW.iload_n hX dX6_judge_50 rfl rfl ?_
          refine PW.iaload hX dX6_judge_51 rfl rfl rfl (by omega) ?_
          refine PW.top (show _ = nI (rwnu (wpR W) i) from rfl) ?_
          refine PW.icmp_eq (tgt := 57) hX dX6_judge_52 (by decide) (fun c52 => ?_) (fun c52 => ?_)
          · first | rw [nI_eq (by omega) (by omega)] at c52 | rw [oI_eq9] at c52 | skip
            rw [oI_nI hz (by omega)] at c52
            rw [if_pos c52] at h2
            skip
            first | refine PW.iinc hX dX6_judge_57 rfl (iincN _) ?_ | refine PW.iinc hX dX6_judge_57 rfl rfl ?_
            refine PW.goto (tgt := 18) hX dX6_judge_60 (by decide) ?_
            exact ih (i + 1) (by omega) h2
          · first | rw [nI_eq (by omega) (by omega)] at c52 | rw [oI_eq9] at c52 | skip
            rw [oI_nI hz (by omega)] at c52
            rw [if_neg c52] at h2
            have h9 := h61 (some i) none h2.symm
            refine PW.iload_n hX dX6_judge_55 rfl rfl ?_
            refine PW.istore_n hX dX6_judge_56 rfl rfl ?_
            skip
            first | refine PW.iinc hX dX6_judge_57 rfl (iincN _) ?_ | refine PW.iinc hX dX6_judge_57 rfl rfl ?_
            refine PW.goto (tgt := 18) hX dX6_judge_60 (by decide) ?_
            refine PW.iload_n hX dX6_judge_18 rfl rfl ?_
            refine PW.aload_n hX dX6_judge_19 rfl rfl ?_
            refine PW.getfield hX fl_X6_46 dX6_judge_20 rfl rfl ?_
            refine PW.getfield hX fl_X6_214 dX6_judge_23 rfl rfl ?_
            refine PW.icmp_ge (tgt := 63) hX dX6_judge_26 (by decide) (fun _ => ?_) (fun _ => ?_)
            · refine PW.clr 2 ?_
              exact h9
            · refine PW.iload_n hX dX6_judge_29 rfl rfl ?_
              refine PW.bipush (v := (-9)) hX dX6_judge_30 (by decide) ?_
              refine PW.icmp_ne (tgt := 63) hX dX6_judge_32 (by decide) (fun _ => ?_) (fun q => ?_)
              · refine PW.clr 2 ?_
                exact h9
              · exact absurd q (nI_ne9 (by omega))
  have h16 := loop (rwn (wpR W)) 0 (by omega) rfl
  refine PW.aload_n hX dX6_judge_0 rfl rfl ?_
  refine PW.getfield hX fl_X6_39 dX6_judge_1 rfl rfl ?_
  refine PW.aload_n hX dX6_judge_4 rfl rfl ?_
  refine PW.getfield hX fl_X6_12 dX6_judge_5 rfl rfl ?_
  refine PW.bipush (v := nI 99) hX dX6_judge_8 (by decide) ?_
  refine PW.vV hX ml_X6_127 (id cM) dX6_judge_10 [29, 30, 31, 32, 33, 34, 35, 36, 37, 38, 1, 2, 3, 4, 5, 6, 7, 8] (e1_YP W) rfl rfl rfl rfl rfl rfl rfl rfl rfl rfl rfl rfl rfl (eh_YP W _) ?_
  refine PW.bipush (v := (-9)) hX dX6_judge_13 (by decide) ?_
  refine PW.istore_n hX dX6_judge_15 rfl rfl ?_
  refine PW.iconst (v := nI 0) hX dX6_judge_16 (by decide) ?_
  refine PW.istore_n hX dX6_judge_17 rfl rfl ?_
  exact h16
