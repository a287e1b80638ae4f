/-! ===== the reference: lots ===== -/
def ltG (f : Nat → Nat) (z : Int32) : Nat → (Nat → Nat) × Int32
  | 0 => (f, z)
  | j + 1 => (va_up (ltG f z j).1 (30 + j) (drV (drw (ltG f z j).2)), drw (ltG f z j).2)
abbrev LZ : Type := (Nat → Nat) × MC × Int32 × Nat × Pl
def ltM (M : Md) (P : Pl) (z : Int32) : Nat → LZ
  | 0 => (mno M, M.2.2.1, z, 0, P)
  | d + 1 => ((ltG (ltM M P z d).1 (ltM M P z d).2.2.1 (plnj P)).1, zAll (ltG (ltM M P z d).1 (ltM M P z d).2.2.1 (plnj P)).1 (ltM M P z d).2.1, (ltG (ltM M P z d).1 (ltM M P z d).2.2.1 (plnj P)).2, (ltM M P z d).2.2.2.1 + mxP (ltJ (ltM M P z d).2.2.2.2 (ltM M P z d).2.2.1 (plnj P)).1, (ltJ (ltM M P z d).2.2.2.2 (ltM M P z d).2.2.1 (plnj P)).1)
def lOk (M : Md) (P : Pl) (f : Nat → Nat) (Q : Pl) : Prop := PR Q f ∧ PlOk Q ∧ plnj Q = plnj P ∧ (∀ j, j < 80 → f j < 100) ∧ ∀ q, (q < 30 ∨ 30 + plnj P ≤ q) → f q = mno M q
theorem ltG_ok {M : Md} {P : Pl} (h6 : plnj P ≤ 6) {f : Nat → Nat} {Q : Pl} (h : lOk M P f Q) (z : Int32) : ∀ j, j ≤ plnj P → lOk M P (ltG f z j).1 (ltJ Q z j).1 ∧ (ltG f z j).2 = (ltJ Q z j).2
  | 0, _ => ⟨h, rfl⟩
  | j + 1, hj => by
    obtain ⟨⟨h1, h2, h3, h4, h5⟩, e⟩ := ltG_ok h6 h z j (by omega)
    rw [ltG, ltJ, e]
    refine ⟨⟨PR_se h1 (by omega) (by omega) _, plSe_ok h2 (drV_lt _), h3, ?_, fun q hq => ?_⟩, rfl⟩
    · exact up_lt80 h4 (Nat.lt_trans (drV_lt _) (by decide)) _
    · show va_up (ltG f z j).1 (30 + j) _ q = mno M q
      rw [va_up_ne _ _ (by omega)]
      exact h5 q hq
theorem ltM_ok {M : Md} {P : Pl} (pr : PR P (mno M)) (ok : PlOk P) (h3 : ∀ j, j < 80 → mno M j < 100) (z : Int32) : ∀ d, lOk M P (ltM M P z d).1 (ltM M P z d).2.2.2.2
  | 0 => ⟨pr, ok, rfl, h3, fun _ _ => rfl⟩
  | d + 1 => (ltG_ok ok.1 (ltM_ok pr ok h3 z d) _ (plnj P) (Nat.le_refl _)).1
def qLots (M : Md) (P : Pl) (x z : Int32) : Int32 × Md := if x < nI 1 then (-4, mNo M 4) else if nI 20 < x then (-6, mNo M 6) else (nI (ltM M P z x.toNatClampNeg).2.2.2.1, sC M (ltM M P z x.toNatClampNeg).2.1)
theorem pm_mlots (M : Md) (P : Pl) (pr : PR P (mno M)) (ok : PlOk P) (h3 : ∀ j, j < 80 → mno M j < 100) (x z : Int32) : PM mu_X7_lots 5 1 6 [.ref 0, .int x, .int z] (mdB M) (eqP (some (.int (qLots M P x z).1)) (mdB (qLots M P x z).2)) := by
  have o1 := ok.1
  have p0 := pr.1
  unfold qLots
  by_cases h0 : x < nI 1
  · rw [if_pos h0]
    refine PM.start (Or.inl (by decide +kernel)) rfl rfl rfl ?_
    intro X hX hR hx hin
    refine PW.iload_n hX dX7_lots_0 rfl rfl ?_
    refine PW.iconst (v := nI 1) hX dX7_lots_1 (by decide) ?_
    refine PW.icmp_ge (tgt := 12) hX dX7_lots_2 (by decide) (fun c2 => ?_) (fun c2 => ?_)
    · exact absurd h0 (i32_nlt.mpr c2) -- CLOSED
    · refine PW.aload_n hX dX7_lots_5 rfl rfl ?_
      refine PW.bipush (v := (-4)) hX dX7_lots_6 (by decide) ?_
      refine PW.vIi hX ml_X7_64 (pm_no M (-4) 4 (by decide) (by decide)) dX7_lots_8 17 rfl rfl rfl rfl rfl rfl rfl rfl rfl rfl rfl rfl rfl rfl rfl ?_
      refine PW.iret hX hR dX7_lots_11 rfl rfl ?_
      exact ⟨rfl, rfl⟩
  · rw [if_neg h0]
    by_cases h1 : nI 20 < x
    · rw [if_pos h1]
      refine PM.start (Or.inl (by decide +kernel)) rfl rfl rfl ?_
      intro X hX hR hx hin
      refine PW.iload_n hX dX7_lots_0 rfl rfl ?_
      refine PW.iconst (v := nI 1) hX dX7_lots_1 (by decide) ?_
      refine PW.icmp_ge (tgt := 12) hX dX7_lots_2 (by decide) (fun c2 => ?_) (fun c2 => ?_)
      · refine PW.iload_n hX dX7_lots_12 rfl rfl ?_
        refine PW.bipush (v := nI 20) hX dX7_lots_13 (by decide) ?_
        refine PW.icmp_le (tgt := 25) hX dX7_lots_15 (by decide) (fun c15 => ?_) (fun c15 => ?_)
        · exact absurd h1 (i32_nlt.mpr c15) -- CLOSED
        · refine PW.aload_n hX dX7_lots_18 rfl rfl ?_
          refine PW.bipush (v := (-6)) hX dX7_lots_19 (by decide) ?_
          refine PW.vIi hX ml_X7_64 (pm_no M (-6) 6 (by decide) (by decide)) dX7_lots_21 17 rfl rfl rfl rfl rfl rfl rfl rfl rfl rfl rfl rfl rfl rfl rfl ?_
          refine PW.iret hX hR dX7_lots_24 rfl rfl ?_
          exact ⟨rfl, rfl⟩
      · exact absurd (i32_nle.mp c2) h0 -- CLOSED
    · rw [if_neg h1]
      have hx0 : ¬ x < 0 := fun q => h0 (Int32.lt_of_lt_of_le q (by decide))
      obtain ⟨N, hN, rfl⟩ := nI_of hx0
      rw [nI_clamp hN]
      rw [nI_ltI hN (by omega)] at h0
      rw [nI_ltI (by omega) hN] at h1
      refine PM.start (Or.inl (by decide +kernel)) rfl rfl rfl ?_
      intro X hX hR hx hin
      -- the end: all is put back
      have loopE : ∀ (f : Nat → Nat) (C : MC) (sm : Nat), (∀ q, (q < 30 ∨ 30 + plnj P ≤ q) → f q = mno M q) → (ltM M P z N).2.2.2.1 = sm → (ltM M P z N).2.1 = C → ∀ n j : Nat, j ≤ plnj P → plnj P < j + n → ∀ z4 z7, PW X 149 [some (.ref 0), some (.int (nI N)), some (.int z), some (.ref 17), z4, some (.int (nI sm)), some (.int (nI j)), z7] [] (mdB (sC (mNw M (fun q => if 30 ≤ q ∧ q < 30 + j then mno M q else f q)) C) ++ [.inl (0, 6, fun q => if q < plnj P then nI (mno M (30 + q)) else 0)]) 1 6 := by
        intro f C sm hf e1 e2 n
        induction n with
        | zero => intro j g1 g2; omega
        | succ n ih =>
          intro j g1 g2 z4 z7
          refine PW.clr 4 (PW.clr 7 ?_)
          have f0 : (if 30 ≤ 0 ∧ 0 < 30 + j then mno M 0 else f 0) = plnj P := by rw [if_neg (by omega), hf 0 (by omega)]; exact p0
          by_cases hj : j = plnj P
          · subst hj
            rw [e1, e2] at hR
            have ef : (fun q => if 30 ≤ q ∧ q < 30 + plnj P then mno M q else f q) = mno M := by
              funext q
              by_cases hq : 30 ≤ q ∧ q < 30 + plnj P
              · rw [if_pos hq]
              · rw [if_neg hq]; exact hf q (by omega)
            rw [ef]
            refine PW.iload hX dX7_lots_149 rfl ?_
            refine PW.aload_n hX dX7_lots_151 rfl rfl ?_
            refine PW.getfield hX fl_X7_13 dX7_lots_152 rfl rfl ?_
            refine PW.iconst (v := nI 0) hX dX7_lots_155 (by decide) ?_
            refine PW.iaload (k := 0) hX dX7_lots_156 rfl rfl rfl (by decide) ?_
            refine PW.top (show _ = nI (plnj P) from congrArg nI p0) ?_
            refine PW.icmp_ge (tgt := 180) hX dX7_lots_157 (by decide) (fun c157 => ?_) (fun c157 => ?_)
            · try rw [nI_leI (by omega) (by omega)] at c157
              refine PW.forget 17 ?_
              refine PW.iload hX dX7_lots_180 rfl ?_
              refine PW.iret hX hR dX7_lots_182 rfl rfl ?_
              exact ⟨rfl, rfl⟩
            · try rw [nI_leI (by omega) (by omega)] at c157
              exfalso; omega -- CLOSED
          · have nx := fun z4 z7 => ih (j + 1) (by omega) (by omega) z4 z7
            have eh : (mdB (sC (mNw M (fun q => if 30 ≤ q ∧ q < 30 + j then mno M q else f q)) C) ++ [(.inl (0, 6, fun q => if q < plnj P then nI (mno M (30 + q)) else 0) : PCell)]).set 2 (.inl (0, 80, upd (fun q => nI (if 30 ≤ q ∧ q < 30 + j then mno M q else f q)) (30 + j) (nI (mno M (30 + j))))) = mdB (sC (mNw M (fun q => if 30 ≤ q ∧ q < 30 + (j + 1) then mno M q else f q)) C) ++ [.inl (0, 6, fun q => if q < plnj P then nI (mno M (30 + q)) else 0)] := by
              rw [upd_nI (fun q => if 30 ≤ q ∧ q < 30 + j then mno M q else f q), show va_up (fun q => if 30 ≤ q ∧ q < 30 + j then mno M q else f q) (30 + j) (mno M (30 + j)) = (fun q => if 30 ≤ q ∧ q < 30 + (j + 1) then mno M q else f q) from by
                funext q
                by_cases e : q = 30 + j
                · rw [e, va_up_self, if_pos (by omega)]
                · rw [va_up_ne _ _ e]
                  by_cases hq : 30 ≤ q ∧ q < 30 + j
                  · rw [if_pos hq, if_pos (by omega)]
                  · rw [if_neg hq, if_neg (by omega)]]
              rfl
            refine PW.iload hX dX7_lots_149 rfl ?_
            refine PW.aload_n hX dX7_lots_151 rfl rfl ?_
            refine PW.getfield hX fl_X7_13 dX7_lots_152 rfl rfl ?_
            refine PW.iconst (v := nI 0) hX dX7_lots_155 (by decide) ?_
            refine PW.iaload (k := 0) hX dX7_lots_156 rfl rfl rfl (by decide) ?_
            refine PW.top (show _ = nI (plnj P) from congrArg nI f0) ?_
            refine PW.icmp_ge (tgt := 180) hX dX7_lots_157 (by decide) (fun c157 => ?_) (fun c157 => ?_)
            · try rw [nI_leI (by omega) (by omega)] at c157
              exfalso; omega -- CLOSED
            · try rw [nI_leI (by omega) (by omega)] at c157
              refine PW.aload_n hX dX7_lots_160 rfl rfl ?_
              refine PW.getfield hX fl_X7_13 dX7_lots_161 rfl rfl ?_
              refine PW.bipush (v := nI 30) hX dX7_lots_164 (by decide) ?_
              refine PW.iload hX dX7_lots_166 rfl ?_
              refine PW.iadd hX dX7_lots_168 ?_
              refine PW.top (nI_add 30 j) ?_
              refine PW.aload_n hX dX7_lots_169 rfl rfl ?_
              refine PW.iload hX dX7_lots_170 rfl ?_
              refine PW.iaload (k := j) hX dX7_lots_172 rfl rfl rfl (by omega) ?_
              refine PW.top (show _ = nI (mno M (30 + j)) from if_pos (by omega)) ?_
              refine PW.iastore (k := 30 + j) hX dX7_lots_173 rfl rfl rfl (by omega) ?_
              refine PW.heap eh ?_
              first | refine PW.iinc hX dX7_lots_174 rfl (iincN _) ?_ | refine PW.iinc hX dX7_lots_174 rfl rfl ?_
              refine PW.goto (tgt := 149) hX dX7_lots_177 (by decide) ?_
              exact nx _ _
      -- the days
      have loopD : ∀ n d : Nat, d + n = N → ∀ Z, ltM M P z d = Z → PW X 73 [some (.ref 0), some (.int (nI N)), some (.int z), some (.ref 17), some (.int Z.2.2.1), some (.int (nI Z.2.2.2.1)), some (.int (nI d)), none] [] (mdB (sC (mNw M Z.1) Z.2.1) ++ [.inl (0, 6, fun q => if q < plnj P then nI (mno M (30 + q)) else 0)]) 1 6 := by
        intro n
        induction n with
        | zero =>
          intro d g1 Z hZ
          have e : d = N := by omega
          subst e
          have hok := ltM_ok pr ok h3 z d
          rw [hZ] at hok
          have nx := loopE Z.1 Z.2.1 Z.2.2.2.1 hok.2.2.2.2 (by rw [hZ]) (by rw [hZ]) (plnj P + 1) 0 (by omega) (by omega) (some (.int Z.2.2.1)) none
          have e0 : (fun q => if 30 ≤ q ∧ q < 30 + 0 then mno M q else Z.1 q) = Z.1 := by
            funext q
            rw [if_neg (by omega)]
          rw [e0] at nx
          refine PW.iload hX dX7_lots_73 rfl ?_
          refine PW.iload_n hX dX7_lots_75 rfl rfl ?_
          refine PW.icmp_ge (tgt := 146) hX dX7_lots_76 (by decide) (fun c76 => ?_) (fun c76 => ?_)
          · try rw [nI_leI (by omega) (by omega)] at c76
            refine PW.iconst (v := nI 0) hX dX7_lots_146 (by decide) ?_
            refine PW.istore hX dX7_lots_147 rfl ?_
            exact nx
          · try rw [nI_leI (by omega) (by omega)] at c76
            exfalso; omega -- CLOSED
        | succ n ih =>
          intro d g1 Z hZ
          have nx := ih (d + 1) (by omega) _ rfl
          have hok := ltM_ok pr ok h3 z d
          rw [ltM] at nx
          rw [hZ] at nx hok
          obtain ⟨f, C, sd, sm, Q⟩ := Z
          have lg := ltG_ok o1 hok sd
          dsimp only at nx
          have h131 : PW X 131 [some (.ref 0), some (.int (nI N)), some (.int z), some (.ref 17), some (.int (ltG f sd (plnj P)).2), some (.int (nI sm)), some (.int (nI d)), none] [] (mdB (sC (mNw M (ltG f sd (plnj P)).1) C) ++ [.inl (0, 6, fun q => if q < plnj P then nI (mno M (30 + q)) else 0)]) 1 6 := by
            obtain ⟨⟨l1, l2, l3, l4, l5⟩, l6⟩ := lg (plnj P) (Nat.le_refl _)
            have cM := pm_mmx (sC (mNw M (ltG f sd (plnj P)).1) C) (ltJ Q sd (plnj P)).1 l1 l2 l4
            have cM : PM mu_X7_mixed 4 0 0 [.ref 0] (mdB (sC (mNw M (ltG f sd (plnj P)).1) C)) (eqP (some (.int (nI (mxP (ltJ Q sd (plnj P)).1)))) (mdB (sC (mNw M (ltG f sd (plnj P)).1) (zAll (ltG f sd (plnj P)).1 C)))) := cM
            generalize mxP (ltJ Q sd (plnj P)).1 = mx at nx cM
            generalize zAll (ltG f sd (plnj P)).1 C = C2 at nx cM
            generalize (ltG f sd (plnj P)).1 = f2 at nx cM ⊢
            generalize (ltG f sd (plnj P)).2 = sd2 at nx ⊢
            refine PW.iload hX dX7_lots_131 rfl ?_
            refine PW.aload_n hX dX7_lots_133 rfl rfl ?_
            refine PW.vI2 (h1 := mdB (sC (mNw M f2) C2) ++ [.inl (0, 6, fun q => if q < plnj P then nI (mno M (30 + q)) else 0)]) hX ml_X7_163 (cM) dX7_lots_134 [0, 1, 2, 3, 4, 5, 6, 7, 8, 9, 10, 11, 12, 13, 14, 15, 16] [17] 18 rfl rfl rfl rfl rfl rfl rfl rfl rfl rfl rfl rfl rfl rfl rfl rfl rfl rfl (by decide) ?_
            refine PW.iadd hX dX7_lots_137 ?_
            refine PW.top (nI_add _ _) ?_
            refine PW.istore hX dX7_lots_138 rfl ?_
            first | refine PW.iinc hX dX7_lots_140 rfl (iincN _) ?_ | refine PW.iinc hX dX7_lots_140 rfl rfl ?_
            refine PW.goto (tgt := 73) hX dX7_lots_143 (by decide) ?_
            exact nx
          have loopJ : ∀ n j : Nat, j + n = plnj P → PW X 82 [some (.ref 0), some (.int (nI N)), some (.int z), some (.ref 17), some (.int (ltG f sd j).2), some (.int (nI sm)), some (.int (nI d)), some (.int (nI j))] [] (mdB (sC (mNw M (ltG f sd j).1) C) ++ [.inl (0, 6, fun q => if q < plnj P then nI (mno M (30 + q)) else 0)]) 1 6 := by
            intro n
            induction n with
            | zero =>
              intro j g3
              have e : j = plnj P := by omega
              subst e
              have f0 : (ltG f sd (plnj P)).1 0 = plnj P := ((lg (plnj P) (Nat.le_refl _)).1.2.2.2.2 0 (by omega)).trans p0
              generalize ltG f sd (plnj P) = V at h131 f0 ⊢
              refine PW.iload hX dX7_lots_82 rfl ?_
              refine PW.aload_n hX dX7_lots_84 rfl rfl ?_
              refine PW.getfield hX fl_X7_13 dX7_lots_85 rfl rfl ?_
              refine PW.iconst (v := nI 0) hX dX7_lots_88 (by decide) ?_
              refine PW.iaload (k := 0) hX dX7_lots_89 rfl rfl rfl (by decide) ?_
              refine PW.top (show _ = nI (plnj P) from congrArg nI f0) ?_
              refine PW.icmp_ge (tgt := 131) hX dX7_lots_90 (by decide) (fun c90 => ?_) (fun c90 => ?_)
              · try rw [nI_leI (by omega) (by omega)] at c90
                refine PW.clr 7 ?_
                exact h131
              · try rw [nI_leI (by omega) (by omega)] at c90
                exfalso; omega -- CLOSED
            | succ n ihj =>
              intro j g3
              have nj := ihj (j + 1) (by omega)
              have f0 : (ltG f sd j).1 0 = plnj P := ((lg j (by omega)).1.2.2.2.2 0 (by omega)).trans p0
              rw [ltG] at nj
              generalize ltG f sd j = V at nj f0 ⊢
              dsimp only at nj
              have eh : (mdB (sC (mNw M V.1) C) ++ [(.inl (0, 6, fun q => if q < plnj P then nI (mno M (30 + q)) else 0) : PCell)]).set 2 (.inl (0, 80, upd (fun q => nI (V.1 q)) (30 + j) (nI (drV (drw V.2))))) = mdB (sC (mNw M (va_up V.1 (30 + j) (drV (drw V.2)))) C) ++ [.inl (0, 6, fun q => if q < plnj P then nI (mno M (30 + q)) else 0)] := by
                rw [upd_nI]; rfl
              refine PW.iload hX dX7_lots_82 rfl ?_
              refine PW.aload_n hX dX7_lots_84 rfl rfl ?_
              refine PW.getfield hX fl_X7_13 dX7_lots_85 rfl rfl ?_
              refine PW.iconst (v := nI 0) hX dX7_lots_88 (by decide) ?_
              refine PW.iaload (k := 0) hX dX7_lots_89 rfl rfl rfl (by decide) ?_
              refine PW.top (show _ = nI (plnj P) from congrArg nI f0) ?_
              refine PW.icmp_ge (tgt := 131) hX dX7_lots_90 (by decide) (fun c90 => ?_) (fun c90 => ?_)
              · try rw [nI_leI (by omega) (by omega)] at c90
                exfalso; omega -- CLOSED
              · try rw [nI_leI (by omega) (by omega)] at c90
                refine PW.iload hX dX7_lots_93 rfl ?_
                refine PW.ldc (v := 1664525) hX dX7_lots_95 kc_X7_181 ?_
                refine PW.imul hX dX7_lots_97 ?_
                refine PW.ldc (v := 1013904223) hX dX7_lots_98 kc_X7_182 ?_
                refine PW.iadd hX dX7_lots_100 ?_
                refine PW.top (show _ = drw V.2 from rfl) ?_
                refine PW.istore hX dX7_lots_101 rfl ?_
                refine PW.aload_n hX dX7_lots_103 rfl rfl ?_
                refine PW.getfield hX fl_X7_13 dX7_lots_104 rfl rfl ?_
                refine PW.bipush (v := nI 30) hX dX7_lots_107 (by decide) ?_
                refine PW.iload hX dX7_lots_109 rfl ?_
                refine PW.iadd hX dX7_lots_111 ?_
                refine PW.top (nI_add 30 j) ?_
                refine PW.iload hX dX7_lots_112 rfl ?_
                refine PW.ldc (v := 2147483647) hX dX7_lots_114 kc_X7_183 ?_
                refine PW.iand hX dX7_lots_116 ?_
                refine PW.sipush (v := nI 256) hX dX7_lots_117 (by decide) ?_
                refine PW.idiv hX dX7_lots_120 (by decide) ?_
                refine PW.bipush (v := nI 60) hX dX7_lots_121 (by decide) ?_
                refine PW.irem hX dX7_lots_123 (by decide) ?_
                refine PW.top (drV_eq (drw V.2)) ?_
                refine PW.iastore (k := 30 + j) hX dX7_lots_124 rfl rfl rfl (by omega) ?_
                refine PW.heap eh ?_
                first | refine PW.iinc hX dX7_lots_125 rfl (iincN _) ?_ | refine PW.iinc hX dX7_lots_125 rfl rfl ?_
                refine PW.goto (tgt := 82) hX dX7_lots_128 (by decide) ?_
                exact nj
          have n82 := loopJ (plnj P) 0 (by omega)
          rw [ltG] at n82
          refine PW.iload hX dX7_lots_73 rfl ?_
          refine PW.iload_n hX dX7_lots_75 rfl rfl ?_
          refine PW.icmp_ge (tgt := 146) hX dX7_lots_76 (by decide) (fun c76 => ?_) (fun c76 => ?_)
          · try rw [nI_leI (by omega) (by omega)] at c76
            exfalso; omega -- CLOSED
          · try rw [nI_leI (by omega) (by omega)] at c76
            refine PW.iconst (v := nI 0) hX dX7_lots_79 (by decide) ?_
            refine PW.istore hX dX7_lots_80 rfl ?_
            exact n82
      have h64 := loopD N 0 (by omega) _ rfl
      have loopA : ∀ n j : Nat, j ≤ plnj P → plnj P < j + n → PW X 33 [some (.ref 0), some (.int (nI N)), some (.int z), some (.ref 17), some (.int (nI j)), none, none, none] [] (mdB M ++ [.inl (0, 6, fun q => if q < j then nI (mno M (30 + q)) else 0)]) 1 6 := by
        intro n
        induction n with
        | zero => intro j g1 g2; omega
        | succ n ih =>
          intro j g1 g2
          by_cases hj : j = plnj P
          · subst hj
            refine PW.iload hX dX7_lots_33 rfl ?_
            refine PW.aload_n hX dX7_lots_35 rfl rfl ?_
            refine PW.getfield hX fl_X7_13 dX7_lots_36 rfl rfl ?_
            refine PW.iconst (v := nI 0) hX dX7_lots_39 (by decide) ?_
            refine PW.iaload (k := 0) hX dX7_lots_40 rfl rfl rfl (by decide) ?_
            refine PW.top (show _ = nI (plnj P) from congrArg nI p0) ?_
            refine PW.icmp_ge (tgt := 64) hX dX7_lots_41 (by decide) (fun c41 => ?_) (fun c41 => ?_)
            · try rw [nI_leI (by omega) (by omega)] at c41
              refine PW.iload_n hX dX7_lots_64 rfl rfl ?_
              refine PW.istore hX dX7_lots_65 rfl ?_
              refine PW.iconst (v := nI 0) hX dX7_lots_67 (by decide) ?_
              refine PW.istore hX dX7_lots_68 rfl ?_
              refine PW.iconst (v := nI 0) hX dX7_lots_70 (by decide) ?_
              refine PW.istore hX dX7_lots_71 rfl ?_
              exact h64
            · try rw [nI_leI (by omega) (by omega)] at c41
              exfalso; omega -- CLOSED
          · have nx := ih (j + 1) (by omega) (by omega)
            rw [← pfUpI (fun q => nI (mno M (30 + q))) (fun _ => 0) j] at nx
            refine PW.iload hX dX7_lots_33 rfl ?_
            refine PW.aload_n hX dX7_lots_35 rfl rfl ?_
            refine PW.getfield hX fl_X7_13 dX7_lots_36 rfl rfl ?_
            refine PW.iconst (v := nI 0) hX dX7_lots_39 (by decide) ?_
            refine PW.iaload (k := 0) hX dX7_lots_40 rfl rfl rfl (by decide) ?_
            refine PW.top (show _ = nI (plnj P) from congrArg nI p0) ?_
            refine PW.icmp_ge (tgt := 64) hX dX7_lots_41 (by decide) (fun c41 => ?_) (fun c41 => ?_)
            · try rw [nI_leI (by omega) (by omega)] at c41
              exfalso; omega -- CLOSED
            · try rw [nI_leI (by omega) (by omega)] at c41
              refine PW.aload_n hX dX7_lots_44 rfl rfl ?_
              refine PW.iload hX dX7_lots_45 rfl ?_
              refine PW.aload_n hX dX7_lots_47 rfl rfl ?_
              refine PW.getfield hX fl_X7_13 dX7_lots_48 rfl rfl ?_
              refine PW.bipush (v := nI 30) hX dX7_lots_51 (by decide) ?_
              refine PW.iload hX dX7_lots_53 rfl ?_
              refine PW.iadd hX dX7_lots_55 ?_
              refine PW.top (nI_add 30 j) ?_
              refine PW.iaload (k := 30 + j) hX dX7_lots_56 rfl rfl rfl (by omega) ?_
              refine PW.iastore (k := j) hX dX7_lots_57 rfl rfl rfl (by omega) ?_
              first | refine PW.iinc hX dX7_lots_58 rfl (iincN _) ?_ | refine PW.iinc hX dX7_lots_58 rfl rfl ?_
              refine PW.goto (tgt := 33) hX dX7_lots_61 (by decide) ?_
              exact nx
      have nx := loopA (plnj P + 1) 0 (by omega) (by omega)
      simp only [Nat.not_lt_zero, if_false] at nx
      refine PW.iload_n hX dX7_lots_0 rfl rfl ?_
      refine PW.iconst (v := nI 1) hX dX7_lots_1 (by decide) ?_
      refine PW.icmp_ge (tgt := 12) hX dX7_lots_2 (by decide) (fun c2 => ?_) (fun c2 => ?_)
      · try rw [nI_leI (by omega) (by omega)] at c2
        refine PW.iload_n hX dX7_lots_12 rfl rfl ?_
        refine PW.bipush (v := nI 20) hX dX7_lots_13 (by decide) ?_
        refine PW.icmp_le (tgt := 25) hX dX7_lots_15 (by decide) (fun c15 => ?_) (fun c15 => ?_)
        · try rw [nI_leI (by omega) (by omega)] at c15
          refine PW.bipush (v := nI 6) hX dX7_lots_25 (by decide) ?_
          refine PW.newarr (t := 0) (ty := .int) hX acl_int rfl (fun _ => rfl) rfl (by decide) dX7_lots_27 rfl (by rw [hx]; exact Nat.le_of_ble_eq_true rfl) rfl rfl rfl rfl rfl ?_
          refine PW.astore_n hX dX7_lots_29 rfl rfl ?_
          refine PW.iconst (v := nI 0) hX dX7_lots_30 (by decide) ?_
          refine PW.istore hX dX7_lots_31 rfl ?_
          exact nx
        · try rw [nI_leI (by omega) (by omega)] at c15
          exfalso; omega -- CLOSED
      · try rw [nI_leI (by omega) (by omega)] at c2
        exfalso; omega -- CLOSED
