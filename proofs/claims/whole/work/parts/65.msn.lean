/-! ===== the reference: seen, its constructor ===== -/
def lkB (li : Nat → Nat) (ln : Nat) (T : Ty) : Bool := decide (ln = tyn T ∧ ∀ i, i < tyn T → tysh T (tyn T - 1 - i) = li i)
def snC (M : Md) : Nat → MC
  | 0 => M.2.2.1
  | s + 1 => (zRun (mno M) (snC M s) (100 - s)).1
def snG (M : Md) (P : Pl) (D : Dy) (m : Nat) : Bool := lkB (mli M) (mln M) (dyty (dRun P D (m + 1)))
def snR (g : Nat → Bool) : Nat → Nat × Option Nat
  | 0 => (0, none)
  | s + 1 => bif g (99 - s) then ((snR g s).1 + 1, some (99 - s)) else snR g s
theorem snR_lt (g : Nat → Bool) : ∀ s, (snR g s).1 ≤ s ∧ ∀ x, (snR g s).2 = some x → x < 100
  | 0 => ⟨Nat.le_refl _, fun x h => by cases h⟩
  | s + 1 => by
    obtain ⟨h1, h2⟩ := snR_lt g s
    rw [snR]
    cases g (99 - s) with
    | true => exact ⟨Nat.succ_le_succ h1, fun x h => by cases h; omega⟩
    | false => exact ⟨Nat.le_succ_of_le h1, h2⟩
def qSeen (M : Md) (P : Pl) (D : Dy) (y : Int32) : Int32 × Md := if y = nI 0 then (nI (snR (snG M P D) 100).1, sC M (snC M 100)) else if y = nI 1 then (oI (snR (snG M P D) 100).2, sC M (snC M 100)) else (-2, mNo M 2)
theorem pm_mseen (M : Md) (P : Pl) (D : Dy) (pr : PR P (mno M)) (ok : PlOk P) (h3 : ∀ j, j < 80 → mno M j < 100) (hn : mln M ≤ 20) (hv : ∀ i, i < mln M → mli M i < 100) (y : Int32) : PM mu_X7_seen 4 0 0 [.ref 0, .int y] (mdB M) (eqP (some (.int (qSeen M P D y).1)) (mdB (qSeen M P D y).2)) := by
  unfold qSeen
  cases hy : inB 2 y with
  | false =>
    have hn := inB_neg hy
    obtain ⟨y0, y1⟩ := inB2_f hy
    rw [if_neg y0, if_neg y1]
    refine PM.start (Or.inl (by decide +kernel)) rfl rfl rfl ?_
    intro X hX hR hx hin
    refine PW.iload_n hX dX7_seen_0 rfl rfl ?_
    refine PW.if_lt (tgt := 9) hX dX7_seen_1 (by decide) (fun c1 => ?_) (fun c1 => ?_)
    · refine PW.aload_n hX dX7_seen_9 rfl rfl ?_
      refine PW.bipush (v := (-2)) hX dX7_seen_10 (by decide) ?_
      refine PW.vIi hX ml_X7_64 (pm_no M (-2) 2 (by decide) (by decide)) dX7_seen_12 17 rfl rfl rfl rfl rfl rfl rfl rfl rfl rfl rfl rfl rfl rfl rfl ?_
      refine PW.iret hX hR dX7_seen_15 rfl rfl ?_
      exact ⟨rfl, rfl⟩
    · refine PW.iload_n hX dX7_seen_4 rfl rfl ?_
      refine PW.iconst (v := nI 1) hX dX7_seen_5 (by decide) ?_
      refine PW.icmp_le (tgt := 16) hX dX7_seen_6 (by decide) (fun c6 => ?_) (fun c6 => ?_)
      · exact absurd c6 (mnI_nle (n := 1) (by decide) (hn.resolve_left c1)) -- CLOSED
      · refine PW.aload_n hX dX7_seen_9 rfl rfl ?_
        refine PW.bipush (v := (-2)) hX dX7_seen_10 (by decide) ?_
        refine PW.vIi hX ml_X7_64 (pm_no M (-2) 2 (by decide) (by decide)) dX7_seen_12 17 rfl rfl rfl rfl rfl rfl rfl rfl rfl rfl rfl rfl rfl rfl rfl ?_
        refine PW.iret hX hR dX7_seen_15 rfl rfl ?_
        exact ⟨rfl, rfl⟩
  | true =>
    obtain ⟨w, hw, rfl⟩ := inB_of (by decide) hy
    have e : (if nI w = nI 0 then (nI (snR (snG M P D) 100).1, sC M (snC M 100)) else if nI w = nI 1 then (oI (snR (snG M P D) 100).2, sC M (snC M 100)) else (-2, mNo M 2)) = ((if w = 0 then nI (snR (snG M P D) 100).1 else oI (snR (snG M P D) 100).2), sC M (snC M 100)) := by
      have : w = 0 ∨ w = 1 := by omega
      rcases this with rfl | rfl
      · rw [if_pos rfl, if_pos rfl]
      · rw [if_neg (by decide), if_pos rfl, if_neg (by decide)]
    rw [e]
    have hl := snR_lt (snG M P D)
    refine PM.start (Or.inl (by decide +kernel)) rfl rfl rfl ?_
    intro X hX hR hx hin
    have loop : ∀ t s : Nat, s + t = 100 → ∀ Z, snR (snG M P D) s = Z → ∀ z5 z6, PW X 25 [some (.ref 0), some (.int (nI w)), some (.int (nI Z.1)), some (.int (oI Z.2)), some (.int (nI t - nI 1)), z5, z6] [] (mdB (sC M (snC M s))) 0 0 := by
      intro t
      induction t with
      | zero =>
        intro s hs Z hZ z5 z6
        have e : s = 100 := by omega
        subst e
        rw [hZ] at hR
        generalize snC M 100 = C at hR ⊢
        refine PW.iload hX dX7_seen_25 rfl ?_
        refine PW.if_lt (tgt := 139) hX dX7_seen_27 (by decide) (fun c27 => ?_) (fun c27 => ?_)
        · try rw [nI_lt0 (by omega)] at c27
          refine PW.iload_n hX dX7_seen_139 rfl rfl ?_
          refine PW.if_ne (tgt := 147) hX dX7_seen_140 (by decide) (fun c140 => ?_) (fun c140 => ?_)
          · first | rw [bI_d0] at c140 | rw [bI_eq0] at c140 | rw [nI_eq0 (by omega)] at c140 | skip
            refine PW.iload_n hX dX7_seen_147 rfl rfl ?_
            refine PW.iret hX hR dX7_seen_148 rfl rfl ?_
            rw [if_neg c140]
            exact ⟨rfl, rfl⟩
          · first | rw [bI_d0] at c140 | rw [bI_eq0] at c140 | rw [nI_eq0 (by omega)] at c140 | skip
            refine PW.iload_n hX dX7_seen_143 rfl rfl ?_
            refine PW.goto (tgt := 148) hX dX7_seen_144 (by decide) ?_
            refine PW.iret hX hR dX7_seen_148 rfl rfl ?_
            rw [if_pos c140]
            exact ⟨rfl, rfl⟩
        · try rw [nI_lt0 (by omega)] at c27
          exact absurd (by decide) c27 -- CLOSED
      | succ t ih =>
        intro s hs Z hZ z5 z6
        have nx := ih (s + 1) (by omega) _ rfl
        rw [snR, hZ] at nx
        have e99 : 99 - s = t := by omega
        rw [e99] at nx
        have hl1 := hl s
        rw [hZ] at hl1
        have cG := pm_mgoTo (sC M (snC M s)) P pr ok (fun j hj => by have := h3 j hj; show mno M j < 1000; omega) t (by omega)
        have zr := (zRun_R pr ok D (snC M s) (t + 1) (by omega)).2.1
        have dk := (dRun_ok ok D (t + 1) (by omega)).2.1
        have eC : snC M (s + 1) = (zRun (mno M) (snC M s) (t + 1)).1 := by rw [snC, show 100 - s = t + 1 by omega]
        have cG : PM mu_X7_goTo 3 0 0 [.ref 0, .int (nI t)] (mdB (sC M (snC M s))) (eqP none (mdB (sC M (snC M (s + 1))))) := by rw [eC]; exact cG
        rw [← eC] at zr
        generalize hg : snG M P D t = g at nx
        have hgD : lkB (mli M) (mln M) (dyty (dRun P D (t + 1))) = g := hg
        generalize dRun P D (t + 1) = D2 at zr dk hgD
        generalize snC M (s + 1) = C at nx cG zr
        generalize snC M s = C0 at cG ⊢
        obtain ⟨r1, r2, r3, r4, r5⟩ := zr
        rw [show nI (t + 1) - nI 1 = nI t from pk_sub (a := t + 1) (b := 1) (by omega)]
        have h132 : ∀ Z2, (bif g then (Z.1 + 1, some t) else Z) = Z2 → ∀ q6 q3, PW X 132 [some (.ref 0), some (.int (nI w)), some (.int (nI Z2.1)), q3, some (.int (nI t)), some (.int (bI g)), q6] [.int (oI Z2.2)] (mdB (sC M C)) 0 0 := by
          rintro Z2 rfl q6 q3
          refine PW.istore_n hX dX7_seen_132 rfl rfl ?_
          refine PW.iinc (v := nI t - nI 1) hX dX7_seen_133 rfl (iincP t) ?_
          refine PW.goto (tgt := 25) hX dX7_seen_136 (by decide) ?_
          exact nx _ _
        have h108 : ∀ q6, PW X 108 [some (.ref 0), some (.int (nI w)), some (.int (nI Z.1)), some (.int (oI Z.2)), some (.int (nI t)), some (.int (bI g)), q6] [] (mdB (sC M C)) 0 0 := by
          intro q6
          cases g with
          | true =>
            have n2 := h132 _ rfl q6 (some (.int (oI Z.2)))
            refine PW.iload_n hX dX7_seen_108 rfl rfl ?_
            refine PW.iload hX dX7_seen_109 rfl ?_
            refine PW.if_eq (tgt := 118) hX dX7_seen_111 (by decide) (fun c111 => ?_) (fun c111 => ?_)
            · first | rw [bI_d0] at c111 | rw [bI_eq0] at c111 | rw [nI_eq0 (by omega)] at c111 | skip
              exact absurd c111 (by decide) -- CLOSED
            · first | rw [bI_d0] at c111 | rw [bI_eq0] at c111 | rw [nI_eq0 (by omega)] at c111 | skip
              refine PW.iconst (v := nI 1) hX dX7_seen_114 (by decide) ?_
              refine PW.goto (tgt := 119) hX dX7_seen_115 (by decide) ?_
              refine PW.iadd hX dX7_seen_119 ?_
              refine PW.top (nI_add _ 1) ?_
              refine PW.istore_n hX dX7_seen_120 rfl rfl ?_
              refine PW.iload hX dX7_seen_121 rfl ?_
              refine PW.if_eq (tgt := 131) hX dX7_seen_123 (by decide) (fun c123 => ?_) (fun c123 => ?_)
              · first | rw [bI_d0] at c123 | rw [bI_eq0] at c123 | rw [nI_eq0 (by omega)] at c123 | skip
                exact absurd c123 (by decide) -- CLOSED
              · first | rw [bI_d0] at c123 | rw [bI_eq0] at c123 | rw [nI_eq0 (by omega)] at c123 | skip
                refine PW.iload hX dX7_seen_126 rfl ?_
                refine PW.goto (tgt := 132) hX dX7_seen_128 (by decide) ?_
                exact n2
          | false =>
            have n2 := h132 _ rfl q6 (some (.int (oI Z.2)))
            refine PW.iload_n hX dX7_seen_108 rfl rfl ?_
            refine PW.iload hX dX7_seen_109 rfl ?_
            refine PW.if_eq (tgt := 118) hX dX7_seen_111 (by decide) (fun c111 => ?_) (fun c111 => ?_)
            · first | rw [bI_d0] at c111 | rw [bI_eq0] at c111 | rw [nI_eq0 (by omega)] at c111 | skip
              refine PW.iconst (v := nI 0) hX dX7_seen_118 (by decide) ?_
              refine PW.iadd hX dX7_seen_119 ?_
              refine PW.top (nI_add _ 0) ?_
              refine PW.istore_n hX dX7_seen_120 rfl rfl ?_
              refine PW.iload hX dX7_seen_121 rfl ?_
              refine PW.if_eq (tgt := 131) hX dX7_seen_123 (by decide) (fun c123 => ?_) (fun c123 => ?_)
              · first | rw [bI_d0] at c123 | rw [bI_eq0] at c123 | rw [nI_eq0 (by omega)] at c123 | skip
                refine PW.iload_n hX dX7_seen_131 rfl rfl ?_
                exact n2
              · first | rw [bI_d0] at c123 | rw [bI_eq0] at c123 | rw [nI_eq0 (by omega)] at c123 | skip
                exact absurd rfl c123 -- CLOSED
            · first | rw [bI_d0] at c111 | rw [bI_eq0] at c111 | rw [nI_eq0 (by omega)] at c111 | skip
              exact absurd rfl c111 -- CLOSED
        have hT := dk.1
        have hsh := dk.2
        have h57z : g = false → ∀ k, PW X 57 [some (.ref 0), some (.int (nI w)), some (.int (nI Z.1)), some (.int (oI Z.2)), some (.int (nI t)), some (.int (nI 0)), some (.int (nI k))] [] (mdB (sC M C)) 0 0 := by
          intro gf k
          have n2 := h108 (some (.int (nI k)))
          rw [gf] at n2
          refine PW.iload hX dX7_seen_57 rfl ?_
          refine PW.aload_n hX dX7_seen_59 rfl rfl ?_
          refine PW.getfield hX fl_X7_166 dX7_seen_60 rfl rfl ?_
          refine PW.icmp_ge (tgt := 108) hX dX7_seen_63 (by decide) (fun c63 => ?_) (fun c63 => ?_)
          · try rw [nI_leI (by omega) (by omega)] at c63
            exact n2
          · try rw [nI_leI (by omega) (by omega)] at c63
            refine PW.iload hX dX7_seen_66 rfl ?_
            refine PW.if_eq (tgt := 108) hX dX7_seen_68 (by decide) (fun c68 => ?_) (fun c68 => ?_)
            · first | rw [bI_d0] at c68 | rw [bI_eq0] at c68 | rw [nI_eq0 (by omega)] at c68 | skip
              exact n2
            · first | rw [bI_d0] at c68 | rw [bI_eq0] at c68 | rw [nI_eq0 (by omega)] at c68 | skip
              exact absurd rfl c68 -- CLOSED
        have h57 : mln M = tyn (dyty D2) → ∀ n k, k + n = mln M → (∀ i, i < k → tysh (dyty D2) (tyn (dyty D2) - 1 - i) = mli M i) → PW X 57 [some (.ref 0), some (.int (nI w)), some (.int (nI Z.1)), some (.int (oI Z.2)), some (.int (nI t)), some (.int (nI 1)), some (.int (nI k))] [] (mdB (sC M C)) 0 0 := by
          intro hln n
          induction n with
          | zero =>
            intro k hk hm
            have gt : g = true := by rw [← hgD]; exact decide_eq_true ⟨hln, fun i hi => hm i (by omega)⟩
            have n2 := h108 (some (.int (nI k)))
            rw [gt] at n2
            refine PW.iload hX dX7_seen_57 rfl ?_
            refine PW.aload_n hX dX7_seen_59 rfl rfl ?_
            refine PW.getfield hX fl_X7_166 dX7_seen_60 rfl rfl ?_
            refine PW.top (show _ = nI (mln M) from rfl) ?_
            refine PW.icmp_ge (tgt := 108) hX dX7_seen_63 (by decide) (fun c63 => ?_) (fun c63 => ?_)
            · try rw [nI_leI (by omega) (by omega)] at c63
              exact n2
            · try rw [nI_leI (by omega) (by omega)] at c63
              exfalso; omega -- CLOSED
          | succ n ihk =>
            intro k hk hm
            have bv := hv k (by omega)
            have bs := isSh_lt ok (hsh (tyn (dyty D2) - 1 - k) (by omega))
            have rk := r4 (tyn (dyty D2) - 1 - k) (by omega)
            by_cases hq : tysh (dyty D2) (tyn (dyty D2) - 1 - k) = mli M k
            · have n2 := ihk (k + 1) (by omega) (fun i hi => by
                by_cases e : i = k
                · rw [e]; exact hq
                · exact hm i (by omega))
              refine PW.iload hX dX7_seen_57 rfl ?_
              refine PW.aload_n hX dX7_seen_59 rfl rfl ?_
              refine PW.getfield hX fl_X7_166 dX7_seen_60 rfl rfl ?_
              refine PW.top (show _ = nI (mln M) from rfl) ?_
              refine PW.icmp_ge (tgt := 108) hX dX7_seen_63 (by decide) (fun c63 => ?_) (fun c63 => ?_)
              · try rw [nI_leI (by omega) (by omega)] at c63
                exfalso; omega -- CLOSED
              · try rw [nI_leI (by omega) (by omega)] at c63
                refine PW.iload hX dX7_seen_66 rfl ?_
                refine PW.if_eq (tgt := 108) hX dX7_seen_68 (by decide) (fun c68 => ?_) (fun c68 => ?_)
                · first | rw [bI_d0] at c68 | rw [bI_eq0] at c68 | rw [nI_eq0 (by omega)] at c68 | skip
                  exfalso; omega -- CLOSED
                · first | rw [bI_d0] at c68 | rw [bI_eq0] at c68 | rw [nI_eq0 (by omega)] at c68 | skip
                  refine PW.aload_n hX dX7_seen_71 rfl rfl ?_
                  refine PW.getfield hX fl_X7_44 dX7_seen_72 rfl rfl ?_
                  refine PW.aload_n hX dX7_seen_75 rfl rfl ?_
                  refine PW.getfield hX fl_X7_116 dX7_seen_76 rfl rfl ?_
                  refine PW.top (show _ = nI (tyn (dyty D2)) from congrArg nI r3) ?_
                  refine PW.iconst (v := nI 1) hX dX7_seen_79 (by decide) ?_
                  refine PW.isub hX dX7_seen_80 ?_
                  refine PW.top (pk_sub (a := tyn (dyty D2)) (b := 1) (by omega)) ?_
                  refine PW.iload hX dX7_seen_81 rfl ?_
                  refine PW.isub hX dX7_seen_83 ?_
                  refine PW.top (pk_sub (a := tyn (dyty D2) - 1) (b := k) (by omega)) ?_
                  refine PW.iaload (k := tyn (dyty D2) - 1 - k) hX dX7_seen_84 rfl rfl rfl (by omega) ?_
                  refine PW.top (show _ = nI (mli M k) from congrArg nI (rk.trans hq)) ?_
                  refine PW.aload_n hX dX7_seen_85 rfl rfl ?_
                  refine PW.getfield hX fl_X7_54 dX7_seen_86 rfl rfl ?_
                  refine PW.iload hX dX7_seen_89 rfl ?_
                  refine PW.iaload (k := k) hX dX7_seen_91 rfl rfl rfl (by omega) ?_
                  refine PW.top (show _ = nI (mli M k) from rfl) ?_
                  refine PW.icmp_ne (tgt := 99) hX dX7_seen_92 (by decide) (fun c92 => ?_) (fun c92 => ?_)
                  · first | rw [nI_eq (by omega) (by omega)] at c92 | rw [oI_eq9] at c92 | skip
                    exact absurd rfl c92 -- CLOSED
                  · first | rw [nI_eq (by omega) (by omega)] at c92 | rw [oI_eq9] at c92 | skip
                    refine PW.iconst (v := nI 1) hX dX7_seen_95 (by decide) ?_
                    refine PW.goto (tgt := 100) hX dX7_seen_96 (by decide) ?_
                    refine PW.istore hX dX7_seen_100 rfl ?_
                    first | refine PW.iinc hX dX7_seen_102 rfl (iincN _) ?_ | refine PW.iinc hX dX7_seen_102 rfl rfl ?_
                    refine PW.goto (tgt := 57) hX dX7_seen_105 (by decide) ?_
                    exact n2
            · have gf : g = false := by rw [← hgD]; exact decide_eq_false (fun z => hq (z.2 k (by omega)))
              have n2 := h57z gf (k + 1)
              refine PW.iload hX dX7_seen_57 rfl ?_
              refine PW.aload_n hX dX7_seen_59 rfl rfl ?_
              refine PW.getfield hX fl_X7_166 dX7_seen_60 rfl rfl ?_
              refine PW.top (show _ = nI (mln M) from rfl) ?_
              refine PW.icmp_ge (tgt := 108) hX dX7_seen_63 (by decide) (fun c63 => ?_) (fun c63 => ?_)
              · try rw [nI_leI (by omega) (by omega)] at c63
                exfalso; omega -- CLOSED
              · try rw [nI_leI (by omega) (by omega)] at c63
                refine PW.iload hX dX7_seen_66 rfl ?_
                refine PW.if_eq (tgt := 108) hX dX7_seen_68 (by decide) (fun c68 => ?_) (fun c68 => ?_)
                · first | rw [bI_d0] at c68 | rw [bI_eq0] at c68 | rw [nI_eq0 (by omega)] at c68 | skip
                  exfalso; omega -- CLOSED
                · first | rw [bI_d0] at c68 | rw [bI_eq0] at c68 | rw [nI_eq0 (by omega)] at c68 | skip
                  refine PW.aload_n hX dX7_seen_71 rfl rfl ?_
                  refine PW.getfield hX fl_X7_44 dX7_seen_72 rfl rfl ?_
                  refine PW.aload_n hX dX7_seen_75 rfl rfl ?_
                  refine PW.getfield hX fl_X7_116 dX7_seen_76 rfl rfl ?_
                  refine PW.top (show _ = nI (tyn (dyty D2)) from congrArg nI r3) ?_
                  refine PW.iconst (v := nI 1) hX dX7_seen_79 (by decide) ?_
                  refine PW.isub hX dX7_seen_80 ?_
                  refine PW.top (pk_sub (a := tyn (dyty D2)) (b := 1) (by omega)) ?_
                  refine PW.iload hX dX7_seen_81 rfl ?_
                  refine PW.isub hX dX7_seen_83 ?_
                  refine PW.top (pk_sub (a := tyn (dyty D2) - 1) (b := k) (by omega)) ?_
                  refine PW.iaload (k := tyn (dyty D2) - 1 - k) hX dX7_seen_84 rfl rfl rfl (by omega) ?_
                  refine PW.top (show _ = nI (tysh (dyty D2) (tyn (dyty D2) - 1 - k)) from congrArg nI rk) ?_
                  refine PW.aload_n hX dX7_seen_85 rfl rfl ?_
                  refine PW.getfield hX fl_X7_54 dX7_seen_86 rfl rfl ?_
                  refine PW.iload hX dX7_seen_89 rfl ?_
                  refine PW.iaload (k := k) hX dX7_seen_91 rfl rfl rfl (by omega) ?_
                  refine PW.top (show _ = nI (mli M k) from rfl) ?_
                  refine PW.icmp_ne (tgt := 99) hX dX7_seen_92 (by decide) (fun c92 => ?_) (fun c92 => ?_)
                  · first | rw [nI_eq (by omega) (by omega)] at c92 | rw [oI_eq9] at c92 | skip
                    refine PW.iconst (v := nI 0) hX dX7_seen_99 (by decide) ?_
                    refine PW.istore hX dX7_seen_100 rfl ?_
                    first | refine PW.iinc hX dX7_seen_102 rfl (iincN _) ?_ | refine PW.iinc hX dX7_seen_102 rfl rfl ?_
                    refine PW.goto (tgt := 57) hX dX7_seen_105 (by decide) ?_
                    exact n2
                  · first | rw [nI_eq (by omega) (by omega)] at c92 | rw [oI_eq9] at c92 | skip
                    exact absurd c92 hq -- CLOSED
        refine PW.iload hX dX7_seen_25 rfl ?_
        refine PW.if_lt (tgt := 139) hX dX7_seen_27 (by decide) (fun c27 => ?_) (fun c27 => ?_)
        · try rw [nI_lt0 (by omega)] at c27
          exact c27.elim -- CLOSED
        · try rw [nI_lt0 (by omega)] at c27
          refine PW.aload_n hX dX7_seen_30 rfl rfl ?_
          refine PW.iload hX dX7_seen_31 rfl ?_
          refine PW.vVi hX ml_X7_147 (cG) dX7_seen_33 17 rfl rfl rfl rfl rfl rfl rfl rfl rfl rfl rfl rfl rfl rfl rfl ?_
          refine PW.aload_n hX dX7_seen_36 rfl rfl ?_
          refine PW.getfield hX fl_X7_116 dX7_seen_37 rfl rfl ?_
          refine PW.top (show _ = nI (tyn (dyty D2)) from congrArg nI r3) ?_
          refine PW.aload_n hX dX7_seen_40 rfl rfl ?_
          refine PW.getfield hX fl_X7_166 dX7_seen_41 rfl rfl ?_
          refine PW.top (show _ = nI (mln M) from rfl) ?_
          refine PW.icmp_ne (tgt := 51) hX dX7_seen_44 (by decide) (fun c44 => ?_) (fun c44 => ?_)
          · first | rw [nI_eq (by omega) (by omega)] at c44 | rw [oI_eq9] at c44 | skip
            refine PW.iconst (v := nI 0) hX dX7_seen_51 (by decide) ?_
            refine PW.istore hX dX7_seen_52 rfl ?_
            refine PW.iconst (v := nI 0) hX dX7_seen_54 (by decide) ?_
            refine PW.istore hX dX7_seen_55 rfl ?_
            exact h57z (by rw [← hgD]; exact decide_eq_false (fun z => c44 z.1.symm)) 0
          · first | rw [nI_eq (by omega) (by omega)] at c44 | rw [oI_eq9] at c44 | skip
            refine PW.iconst (v := nI 1) hX dX7_seen_47 (by decide) ?_
            refine PW.goto (tgt := 52) hX dX7_seen_48 (by decide) ?_
            refine PW.istore hX dX7_seen_52 rfl ?_
            refine PW.iconst (v := nI 0) hX dX7_seen_54 (by decide) ?_
            refine PW.istore hX dX7_seen_55 rfl ?_
            exact h57 c44.symm (mln M) 0 (by omega) (fun i hi => absurd hi (Nat.not_lt_zero _))
    have nx := loop 100 0 rfl _ rfl none none
    refine PW.iload_n hX dX7_seen_0 rfl rfl ?_
    refine PW.if_lt (tgt := 9) hX dX7_seen_1 (by decide) (fun c1 => ?_) (fun c1 => ?_)
    · try rw [nI_lt0 (by omega)] at c1
      exact c1.elim -- CLOSED
    · try rw [nI_lt0 (by omega)] at c1
      refine PW.iload_n hX dX7_seen_4 rfl rfl ?_
      refine PW.iconst (v := nI 1) hX dX7_seen_5 (by decide) ?_
      refine PW.icmp_le (tgt := 16) hX dX7_seen_6 (by decide) (fun c6 => ?_) (fun c6 => ?_)
      · try rw [nI_leI (by omega) (by omega)] at c6
        refine PW.iconst (v := nI 0) hX dX7_seen_16 (by decide) ?_
        refine PW.istore_n hX dX7_seen_17 rfl rfl ?_
        refine PW.bipush (v := (-9)) hX dX7_seen_18 (by decide) ?_
        refine PW.istore_n hX dX7_seen_20 rfl rfl ?_
        refine PW.bipush (v := nI 99) hX dX7_seen_21 (by decide) ?_
        refine PW.istore hX dX7_seen_23 rfl ?_
        exact nx
      · try rw [nI_leI (by omega) (by omega)] at c6
        exfalso; omega -- CLOSED
def mdZ : Md := ((fun _ => 0, fun _ => 0, fun _ => 0, false), (fun _ => 0, 0, 0, false, 0, fun _ => 0), (fun _ => 0, fun _ => 0, fun _ => 0, 0, fun _ => 0, 0, fun _ => 0, fun _ => 0), (fun _ => 0, 0, fun _ => 0))
set_option maxHeartbeats 8000000 in
theorem pm_iMd : PM mu_X7_init 1 16 1658 [.ref 0] [.inr (7, [.null, .null, .null, .int 0, .null, .int 0, .int 0, .int 0, .null, .null, .null, .int 0, .null, .null, .null, .null, .int 0, .null, .int 0, .null, .null, .null, .int 0, .null])] (eqP none (mdB mdZ)) := by
  refine PM.start (Or.inl (by decide +kernel)) rfl rfl rfl ?_
  intro X hX hR hx hin
  refine PW.aload_n hX dX7_init_0 rfl rfl ?_
  refine PW.objInit hX oi_X7_7 oi_inst oi_code dX7_init_1 rfl rfl ?_
  refine PW.aload_n hX dX7_init_4 rfl rfl ?_
  refine PW.bipush (v := nI 7) hX dX7_init_5 (by decide) ?_
  refine PW.newarr (t := 0) (ty := .int) hX acl_int rfl (fun _ => rfl) rfl (by decide) dX7_init_7 rfl (by rw [hx]; exact Nat.le_of_ble_eq_true rfl) rfl rfl rfl rfl rfl ?_
  refine PW.putF hX fp_X7_1 hin dX7_init_9 (fun _ => ⟨rfl, rfl⟩) rfl rfl ?_
  refine PW.heap (h' := [.inr (7, [.ref 1, .null, .null, .int 0, .null, .int 0, .int 0, .int 0, .null, .null, .null, .int 0, .null, .null, .null, .null, .int 0, .null, .int 0, .null, .null, .null, .int 0, .null]), .inl (0, 7, fun _ => 0)]) rfl ?_
  refine PW.aload_n hX dX7_init_12 rfl rfl ?_
  refine PW.bipush (v := nI 80) hX dX7_init_13 (by decide) ?_
  refine PW.newarr (t := 0) (ty := .int) hX acl_int rfl (fun _ => rfl) rfl (by decide) dX7_init_15 rfl (by rw [hx]; exact Nat.le_of_ble_eq_true rfl) rfl rfl rfl rfl rfl ?_
  refine PW.putF hX fp_X7_13 hin dX7_init_17 (fun _ => ⟨rfl, rfl⟩) rfl rfl ?_
  refine PW.heap (h' := [.inr (7, [.ref 1, .ref 2, .null, .int 0, .null, .int 0, .int 0, .int 0, .null, .null, .null, .int 0, .null, .null, .null, .null, .int 0, .null, .int 0, .null, .null, .null, .int 0, .null]), .inl (0, 7, fun _ => 0), .inl (0, 80, fun _ => 0)]) rfl ?_
  refine PW.aload_n hX dX7_init_20 rfl rfl ?_
  refine PW.bipush (v := nI 80) hX dX7_init_21 (by decide) ?_
  refine PW.newarr (t := 0) (ty := .int) hX acl_int rfl (fun _ => rfl) rfl (by decide) dX7_init_23 rfl (by rw [hx]; exact Nat.le_of_ble_eq_true rfl) rfl rfl rfl rfl rfl ?_
  refine PW.putF hX fp_X7_16 hin dX7_init_25 (fun _ => ⟨rfl, rfl⟩) rfl rfl ?_
  refine PW.heap (h' := [.inr (7, [.ref 1, .ref 2, .ref 3, .int 0, .null, .int 0, .int 0, .int 0, .null, .null, .null, .int 0, .null, .null, .null, .null, .int 0, .null, .int 0, .null, .null, .null, .int 0, .null]), .inl (0, 7, fun _ => 0), .inl (0, 80, fun _ => 0), .inl (0, 80, fun _ => 0)]) rfl ?_
  refine PW.aload_n hX dX7_init_28 rfl rfl ?_
  refine PW.bipush (v := nI 80) hX dX7_init_29 (by decide) ?_
  refine PW.newarr (t := 0) (ty := .int) hX acl_int rfl (fun _ => rfl) rfl (by decide) dX7_init_31 rfl (by rw [hx]; exact Nat.le_of_ble_eq_true rfl) rfl rfl rfl rfl rfl ?_
  refine PW.putF hX fp_X7_19 hin dX7_init_33 (fun _ => ⟨rfl, rfl⟩) rfl rfl ?_
  refine PW.heap (h' := [.inr (7, [.ref 1, .ref 2, .ref 3, .int 0, .ref 4, .int 0, .int 0, .int 0, .null, .null, .null, .int 0, .null, .null, .null, .null, .int 0, .null, .int 0, .null, .null, .null, .int 0, .null]), .inl (0, 7, fun _ => 0), .inl (0, 80, fun _ => 0), .inl (0, 80, fun _ => 0), .inl (0, 80, fun _ => 0)]) rfl ?_
  refine PW.aload_n hX dX7_init_36 rfl rfl ?_
  refine PW.iconst (v := nI 3) hX dX7_init_37 (by decide) ?_
  refine PW.newarr (t := 1) (ty := .char) hX acl_char rfl (fun _ => rfl) rfl (by decide) dX7_init_38 rfl (by rw [hx]; exact Nat.le_of_ble_eq_true rfl) rfl rfl rfl rfl rfl ?_
  refine PW.dup hX dX7_init_40 rfl ?_
  refine PW.iconst (v := nI 0) hX dX7_init_41 (by decide) ?_
  refine PW.bipush (v := nI 106) hX dX7_init_42 (by decide) ?_
  refine PW.castore hX dX7_init_44 rfl rfl rfl (by omega) ?_
  refine PW.dup hX dX7_init_45 rfl ?_
  refine PW.iconst (v := nI 1) hX dX7_init_46 (by decide) ?_
  refine PW.bipush (v := nI 109) hX dX7_init_47 (by decide) ?_
  refine PW.castore hX dX7_init_49 rfl rfl rfl (by omega) ?_
  refine PW.dup hX dX7_init_50 rfl ?_
  refine PW.iconst (v := nI 2) hX dX7_init_51 (by decide) ?_
  refine PW.bipush (v := nI 116) hX dX7_init_52 (by decide) ?_
  refine PW.castore hX dX7_init_54 rfl rfl rfl (by omega) ?_
  refine PW.putF hX fp_X7_22 hin dX7_init_55 (fun _ => ⟨rfl, rfl⟩) rfl rfl ?_
  refine PW.heap (h' := [.inr (7, [.ref 1, .ref 2, .ref 3, .int 0, .ref 4, .int 0, .int 0, .int 0, .ref 5, .null, .null, .int 0, .null, .null, .null, .null, .int 0, .null, .int 0, .null, .null, .null, .int 0, .null]), .inl (0, 7, fun _ => 0), .inl (0, 80, fun _ => 0), .inl (0, 80, fun _ => 0), .inl (0, 80, fun _ => 0), .inl (1, 3, bgF)]) rfl ?_
  refine PW.aload_n hX dX7_init_58 rfl rfl ?_
  refine PW.bipush (v := nI 6) hX dX7_init_59 (by decide) ?_
  refine PW.newarr (t := 1) (ty := .char) hX acl_char rfl (fun _ => rfl) rfl (by decide) dX7_init_61 rfl (by rw [hx]; exact Nat.le_of_ble_eq_true rfl) rfl rfl rfl rfl rfl ?_
  refine PW.dup hX dX7_init_63 rfl ?_
  refine PW.iconst (v := nI 0) hX dX7_init_64 (by decide) ?_
  refine PW.bipush (v := nI 102) hX dX7_init_65 (by decide) ?_
  refine PW.castore hX dX7_init_67 rfl rfl rfl (by omega) ?_
  refine PW.dup hX dX7_init_68 rfl ?_
  refine PW.iconst (v := nI 1) hX dX7_init_69 (by decide) ?_
  refine PW.bipush (v := nI 115) hX dX7_init_70 (by decide) ?_
  refine PW.castore hX dX7_init_72 rfl rfl rfl (by omega) ?_
  refine PW.dup hX dX7_init_73 rfl ?_
  refine PW.iconst (v := nI 2) hX dX7_init_74 (by decide) ?_
  refine PW.bipush (v := nI 116) hX dX7_init_75 (by decide) ?_
  refine PW.castore hX dX7_init_77 rfl rfl rfl (by omega) ?_
  refine PW.dup hX dX7_init_78 rfl ?_
  refine PW.iconst (v := nI 3) hX dX7_init_79 (by decide) ?_
  refine PW.bipush (v := nI 111) hX dX7_init_80 (by decide) ?_
  refine PW.castore hX dX7_init_82 rfl rfl rfl (by omega) ?_
  refine PW.dup hX dX7_init_83 rfl ?_
  refine PW.iconst (v := nI 4) hX dX7_init_84 (by decide) ?_
  refine PW.bipush (v := nI 97) hX dX7_init_85 (by decide) ?_
  refine PW.castore hX dX7_init_87 rfl rfl rfl (by omega) ?_
  refine PW.dup hX dX7_init_88 rfl ?_
  refine PW.iconst (v := nI 5) hX dX7_init_89 (by decide) ?_
  refine PW.bipush (v := nI 98) hX dX7_init_90 (by decide) ?_
  refine PW.castore hX dX7_init_92 rfl rfl rfl (by omega) ?_
  refine PW.putF hX fp_X7_26 hin dX7_init_93 (fun _ => ⟨rfl, rfl⟩) rfl rfl ?_
  refine PW.heap (h' := [.inr (7, [.ref 1, .ref 2, .ref 3, .int 0, .ref 4, .int 0, .int 0, .int 0, .ref 5, .ref 6, .null, .int 0, .null, .null, .null, .null, .int 0, .null, .int 0, .null, .null, .null, .int 0, .null]), .inl (0, 7, fun _ => 0), .inl (0, 80, fun _ => 0), .inl (0, 80, fun _ => 0), .inl (0, 80, fun _ => 0), .inl (1, 3, bgF), .inl (1, 6, maF)]) rfl ?_
  refine PW.aload_n hX dX7_init_96 rfl rfl ?_
  refine PW.bipush (v := nI 6) hX dX7_init_97 (by decide) ?_
  refine PW.newarr (t := 1) (ty := .char) hX acl_char rfl (fun _ => rfl) rfl (by decide) dX7_init_99 rfl (by rw [hx]; exact Nat.le_of_ble_eq_true rfl) rfl rfl rfl rfl rfl ?_
  refine PW.dup hX dX7_init_101 rfl ?_
  refine PW.iconst (v := nI 0) hX dX7_init_102 (by decide) ?_
  refine PW.bipush (v := nI 97) hX dX7_init_103 (by decide) ?_
  refine PW.castore hX dX7_init_105 rfl rfl rfl (by omega) ?_
  refine PW.dup hX dX7_init_106 rfl ?_
  refine PW.iconst (v := nI 1) hX dX7_init_107 (by decide) ?_
  refine PW.bipush (v := nI 111) hX dX7_init_108 (by decide) ?_
  refine PW.castore hX dX7_init_110 rfl rfl rfl (by omega) ?_
  refine PW.dup hX dX7_init_111 rfl ?_
  refine PW.iconst (v := nI 2) hX dX7_init_112 (by decide) ?_
  refine PW.bipush (v := nI 104) hX dX7_init_113 (by decide) ?_
  refine PW.castore hX dX7_init_115 rfl rfl rfl (by omega) ?_
  refine PW.dup hX dX7_init_116 rfl ?_
  refine PW.iconst (v := nI 3) hX dX7_init_117 (by decide) ?_
  refine PW.bipush (v := nI 110) hX dX7_init_118 (by decide) ?_
  refine PW.castore hX dX7_init_120 rfl rfl rfl (by omega) ?_
  refine PW.dup hX dX7_init_121 rfl ?_
  refine PW.iconst (v := nI 4) hX dX7_init_122 (by decide) ?_
  refine PW.bipush (v := nI 100) hX dX7_init_123 (by decide) ?_
  refine PW.castore hX dX7_init_125 rfl rfl rfl (by omega) ?_
  refine PW.dup hX dX7_init_126 rfl ?_
  refine PW.iconst (v := nI 5) hX dX7_init_127 (by decide) ?_
  refine PW.bipush (v := nI 99) hX dX7_init_128 (by decide) ?_
  refine PW.castore hX dX7_init_130 rfl rfl rfl (by omega) ?_
  refine PW.putF hX fp_X7_29 hin dX7_init_131 (fun _ => ⟨rfl, rfl⟩) rfl rfl ?_
  refine PW.heap (h' := [.inr (7, [.ref 1, .ref 2, .ref 3, .int 0, .ref 4, .int 0, .int 0, .int 0, .ref 5, .ref 6, .ref 7, .int 0, .null, .null, .null, .null, .int 0, .null, .int 0, .null, .null, .null, .int 0, .null]), .inl (0, 7, fun _ => 0), .inl (0, 80, fun _ => 0), .inl (0, 80, fun _ => 0), .inl (0, 80, fun _ => 0), .inl (1, 3, bgF), .inl (1, 6, maF), .inl (1, 6, tkF)]) rfl ?_
  refine PW.aload_n hX dX7_init_134 rfl rfl ?_
  refine PW.iconst (v := nI 4) hX dX7_init_135 (by decide) ?_
  refine PW.newarr (t := 0) (ty := .int) hX acl_int rfl (fun _ => rfl) rfl (by decide) dX7_init_136 rfl (by rw [hx]; exact Nat.le_of_ble_eq_true rfl) rfl rfl rfl rfl rfl ?_
  refine PW.putF hX fp_X7_32 hin dX7_init_138 (fun _ => ⟨rfl, rfl⟩) rfl rfl ?_
  refine PW.heap (h' := [.inr (7, [.ref 1, .ref 2, .ref 3, .int 0, .ref 4, .int 0, .int 0, .int 0, .ref 5, .ref 6, .ref 7, .int 0, .ref 8, .null, .null, .null, .int 0, .null, .int 0, .null, .null, .null, .int 0, .null]), .inl (0, 7, fun _ => 0), .inl (0, 80, fun _ => 0), .inl (0, 80, fun _ => 0), .inl (0, 80, fun _ => 0), .inl (1, 3, bgF), .inl (1, 6, maF), .inl (1, 6, tkF), .inl (0, 4, fun _ => 0)]) rfl ?_
  refine PW.aload_n hX dX7_init_141 rfl rfl ?_
  refine PW.bipush (v := nI 6) hX dX7_init_142 (by decide) ?_
  refine PW.newarr (t := 0) (ty := .int) hX acl_int rfl (fun _ => rfl) rfl (by decide) dX7_init_144 rfl (by rw [hx]; exact Nat.le_of_ble_eq_true rfl) rfl rfl rfl rfl rfl ?_
  refine PW.putF hX fp_X7_35 hin dX7_init_146 (fun _ => ⟨rfl, rfl⟩) rfl rfl ?_
  refine PW.heap (h' := [.inr (7, [.ref 1, .ref 2, .ref 3, .int 0, .ref 4, .int 0, .int 0, .int 0, .ref 5, .ref 6, .ref 7, .int 0, .ref 8, .ref 9, .null, .null, .int 0, .null, .int 0, .null, .null, .null, .int 0, .null]), .inl (0, 7, fun _ => 0), .inl (0, 80, fun _ => 0), .inl (0, 80, fun _ => 0), .inl (0, 80, fun _ => 0), .inl (1, 3, bgF), .inl (1, 6, maF), .inl (1, 6, tkF), .inl (0, 4, fun _ => 0), .inl (0, 6, fun _ => 0)]) rfl ?_
  refine PW.aload_n hX dX7_init_149 rfl rfl ?_
  refine PW.bipush (v := nI 100) hX dX7_init_150 (by decide) ?_
  refine PW.newarr (t := 0) (ty := .int) hX acl_int rfl (fun _ => rfl) rfl (by decide) dX7_init_152 rfl (by rw [hx]; exact Nat.le_of_ble_eq_true rfl) rfl rfl rfl rfl rfl ?_
  refine PW.putF hX fp_X7_38 hin dX7_init_154 (fun _ => ⟨rfl, rfl⟩) rfl rfl ?_
  refine PW.heap (h' := [.inr (7, [.ref 1, .ref 2, .ref 3, .int 0, .ref 4, .int 0, .int 0, .int 0, .ref 5, .ref 6, .ref 7, .int 0, .ref 8, .ref 9, .ref 10, .null, .int 0, .null, .int 0, .null, .null, .null, .int 0, .null]), .inl (0, 7, fun _ => 0), .inl (0, 80, fun _ => 0), .inl (0, 80, fun _ => 0), .inl (0, 80, fun _ => 0), .inl (1, 3, bgF), .inl (1, 6, maF), .inl (1, 6, tkF), .inl (0, 4, fun _ => 0), .inl (0, 6, fun _ => 0), .inl (0, 100, fun _ => 0)]) rfl ?_
  refine PW.aload_n hX dX7_init_157 rfl rfl ?_
  refine PW.bipush (v := nI 100) hX dX7_init_158 (by decide) ?_
  refine PW.newarr (t := 0) (ty := .int) hX acl_int rfl (fun _ => rfl) rfl (by decide) dX7_init_160 rfl (by rw [hx]; exact Nat.le_of_ble_eq_true rfl) rfl rfl rfl rfl rfl ?_
  refine PW.putF hX fp_X7_41 hin dX7_init_162 (fun _ => ⟨rfl, rfl⟩) rfl rfl ?_
  refine PW.heap (h' := [.inr (7, [.ref 1, .ref 2, .ref 3, .int 0, .ref 4, .int 0, .int 0, .int 0, .ref 5, .ref 6, .ref 7, .int 0, .ref 8, .ref 9, .ref 10, .ref 11, .int 0, .null, .int 0, .null, .null, .null, .int 0, .null]), .inl (0, 7, fun _ => 0), .inl (0, 80, fun _ => 0), .inl (0, 80, fun _ => 0), .inl (0, 80, fun _ => 0), .inl (1, 3, bgF), .inl (1, 6, maF), .inl (1, 6, tkF), .inl (0, 4, fun _ => 0), .inl (0, 6, fun _ => 0), .inl (0, 100, fun _ => 0), .inl (0, 100, fun _ => 0)]) rfl ?_
  refine PW.aload_n hX dX7_init_165 rfl rfl ?_
  refine PW.bipush (v := nI 100) hX dX7_init_166 (by decide) ?_
  refine PW.newarr (t := 0) (ty := .int) hX acl_int rfl (fun _ => rfl) rfl (by decide) dX7_init_168 rfl (by rw [hx]; exact Nat.le_of_ble_eq_true rfl) rfl rfl rfl rfl rfl ?_
  refine PW.putF hX fp_X7_44 hin dX7_init_170 (fun _ => ⟨rfl, rfl⟩) rfl rfl ?_
  refine PW.heap (h' := [.inr (7, [.ref 1, .ref 2, .ref 3, .int 0, .ref 4, .int 0, .int 0, .int 0, .ref 5, .ref 6, .ref 7, .int 0, .ref 8, .ref 9, .ref 10, .ref 11, .int 0, .ref 12, .int 0, .null, .null, .null, .int 0, .null]), .inl (0, 7, fun _ => 0), .inl (0, 80, fun _ => 0), .inl (0, 80, fun _ => 0), .inl (0, 80, fun _ => 0), .inl (1, 3, bgF), .inl (1, 6, maF), .inl (1, 6, tkF), .inl (0, 4, fun _ => 0), .inl (0, 6, fun _ => 0), .inl (0, 100, fun _ => 0), .inl (0, 100, fun _ => 0), .inl (0, 100, fun _ => 0)]) rfl ?_
  refine PW.aload_n hX dX7_init_173 rfl rfl ?_
  refine PW.bipush (v := nI 60) hX dX7_init_174 (by decide) ?_
  refine PW.newarr (t := 0) (ty := .int) hX acl_int rfl (fun _ => rfl) rfl (by decide) dX7_init_176 rfl (by rw [hx]; exact Nat.le_of_ble_eq_true rfl) rfl rfl rfl rfl rfl ?_
  refine PW.putF hX fp_X7_47 hin dX7_init_178 (fun _ => ⟨rfl, rfl⟩) rfl rfl ?_
  refine PW.heap (h' := [.inr (7, [.ref 1, .ref 2, .ref 3, .int 0, .ref 4, .int 0, .int 0, .int 0, .ref 5, .ref 6, .ref 7, .int 0, .ref 8, .ref 9, .ref 10, .ref 11, .int 0, .ref 12, .int 0, .ref 13, .null, .null, .int 0, .null]), .inl (0, 7, fun _ => 0), .inl (0, 80, fun _ => 0), .inl (0, 80, fun _ => 0), .inl (0, 80, fun _ => 0), .inl (1, 3, bgF), .inl (1, 6, maF), .inl (1, 6, tkF), .inl (0, 4, fun _ => 0), .inl (0, 6, fun _ => 0), .inl (0, 100, fun _ => 0), .inl (0, 100, fun _ => 0), .inl (0, 100, fun _ => 0), .inl (0, 60, fun _ => 0)]) rfl ?_
  refine PW.aload_n hX dX7_init_181 rfl rfl ?_
  refine PW.bipush (v := nI 6) hX dX7_init_182 (by decide) ?_
  refine PW.newarr (t := 2) (ty := .boolean) hX acl_boolean rfl (fun _ => rfl) rfl (by decide) dX7_init_184 rfl (by rw [hx]; exact Nat.le_of_ble_eq_true rfl) rfl rfl rfl rfl rfl ?_
  refine PW.putF hX fp_X7_50 hin dX7_init_186 (fun _ => ⟨rfl, rfl⟩) rfl rfl ?_
  refine PW.heap (h' := [.inr (7, [.ref 1, .ref 2, .ref 3, .int 0, .ref 4, .int 0, .int 0, .int 0, .ref 5, .ref 6, .ref 7, .int 0, .ref 8, .ref 9, .ref 10, .ref 11, .int 0, .ref 12, .int 0, .ref 13, .ref 14, .null, .int 0, .null]), .inl (0, 7, fun _ => 0), .inl (0, 80, fun _ => 0), .inl (0, 80, fun _ => 0), .inl (0, 80, fun _ => 0), .inl (1, 3, bgF), .inl (1, 6, maF), .inl (1, 6, tkF), .inl (0, 4, fun _ => 0), .inl (0, 6, fun _ => 0), .inl (0, 100, fun _ => 0), .inl (0, 100, fun _ => 0), .inl (0, 100, fun _ => 0), .inl (0, 60, fun _ => 0), .inl (2, 6, fun _ => 0)]) rfl ?_
  refine PW.aload_n hX dX7_init_189 rfl rfl ?_
  refine PW.bipush (v := nI 20) hX dX7_init_190 (by decide) ?_
  refine PW.newarr (t := 0) (ty := .int) hX acl_int rfl (fun _ => rfl) rfl (by decide) dX7_init_192 rfl (by rw [hx]; exact Nat.le_of_ble_eq_true rfl) rfl rfl rfl rfl rfl ?_
  refine PW.putF hX fp_X7_54 hin dX7_init_194 (fun _ => ⟨rfl, rfl⟩) rfl rfl ?_
  refine PW.heap (h' := [.inr (7, [.ref 1, .ref 2, .ref 3, .int 0, .ref 4, .int 0, .int 0, .int 0, .ref 5, .ref 6, .ref 7, .int 0, .ref 8, .ref 9, .ref 10, .ref 11, .int 0, .ref 12, .int 0, .ref 13, .ref 14, .ref 15, .int 0, .null]), .inl (0, 7, fun _ => 0), .inl (0, 80, fun _ => 0), .inl (0, 80, fun _ => 0), .inl (0, 80, fun _ => 0), .inl (1, 3, bgF), .inl (1, 6, maF), .inl (1, 6, tkF), .inl (0, 4, fun _ => 0), .inl (0, 6, fun _ => 0), .inl (0, 100, fun _ => 0), .inl (0, 100, fun _ => 0), .inl (0, 100, fun _ => 0), .inl (0, 60, fun _ => 0), .inl (2, 6, fun _ => 0), .inl (0, 20, fun _ => 0)]) rfl ?_
  refine PW.aload_n hX dX7_init_197 rfl rfl ?_
  refine PW.sipush (v := nI 1000) hX dX7_init_198 (by decide) ?_
  refine PW.newarr (t := 0) (ty := .int) hX acl_int rfl (fun _ => rfl) rfl (by decide) dX7_init_201 rfl (by rw [hx]; exact Nat.le_of_ble_eq_true rfl) rfl rfl rfl rfl rfl ?_
  refine PW.putF hX fp_X7_57 hin dX7_init_203 (fun _ => ⟨rfl, rfl⟩) rfl rfl ?_
  refine PW.heap (h' := [.inr (7, [.ref 1, .ref 2, .ref 3, .int 0, .ref 4, .int 0, .int 0, .int 0, .ref 5, .ref 6, .ref 7, .int 0, .ref 8, .ref 9, .ref 10, .ref 11, .int 0, .ref 12, .int 0, .ref 13, .ref 14, .ref 15, .int 0, .ref 16]), .inl (0, 7, fun _ => 0), .inl (0, 80, fun _ => 0), .inl (0, 80, fun _ => 0), .inl (0, 80, fun _ => 0), .inl (1, 3, bgF), .inl (1, 6, maF), .inl (1, 6, tkF), .inl (0, 4, fun _ => 0), .inl (0, 6, fun _ => 0), .inl (0, 100, fun _ => 0), .inl (0, 100, fun _ => 0), .inl (0, 100, fun _ => 0), .inl (0, 60, fun _ => 0), .inl (2, 6, fun _ => 0), .inl (0, 20, fun _ => 0), .inl (0, 1000, fun _ => 0)]) rfl ?_
  refine PW.vret hX hR dX7_init_206 rfl rfl ?_
  exact ⟨rfl, rfl⟩
