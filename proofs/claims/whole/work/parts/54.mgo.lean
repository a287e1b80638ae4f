/-! ===== the reference: goTo, mixing ===== -/
theorem pfUp (g h : Nat → Nat) (i : Nat) : va_up (fun q => if q < i then g q else h q) i (g i) = fun q => if q < i + 1 then g q else h q := by
  funext q
  by_cases e : q = i
  · rw [e, va_up_self, if_pos (by omega)]
  · rw [va_up_ne _ _ e]
    by_cases l : q < i
    · rw [if_pos l, if_pos (by omega)]
    · rw [if_neg l, if_neg (by omega)]
theorem z_job {P : Pl} {f : Nat → Nat} (pr : PR P f) (ok : PlOk P) {D : Dy} {Z : MZ} {m : Nat} (dk : DyOk P D m) (h : ZR P D Z) : (∀ j, mCh f (cle Z.1) m Z.2.1 (f 0) = some j → j < plnj P ∧ 0 < cle Z.1 j ∧ cle Z.1 j ≤ f (20 + j) ∧ f (20 + j) ≤ 9 ∧ 10 * j + f (20 + j) - (cle Z.1 j - 1) < 60) ∧ (0 < plnj P → Z.2.1 < plnj P) ∧ (0 < Z.2.2 → 0 < cos Z.1 ∧ cou Z.1 (cos Z.1 - 1) < 60) ∧ cos Z.1 ≤ m ∧ cly Z.1 ≤ m ∧ (∀ j, j < plnj P → cle Z.1 j < 1000) ∧ Z.2.2 ≤ m := by
  obtain ⟨r1, r2, r3, r4, r5⟩ := h
  obtain ⟨d1, d2, d3, d4, d5, d6⟩ := dk
  obtain ⟨c1, c2, c3, c4, c5⟩ := id r2
  obtain ⟨i1, i2, i3, i4, i5, i6, i7⟩ := id r5
  obtain ⟨s1, s2, s3, s4, s5⟩ := id d1
  have hl : 0 < plnj P → Z.2.1 < plnj P := by
    intro h0
    unfold laR at r3
    cases hp : prla (dypr D) with
    | none => rw [hp] at r3; have r3 : Z.2.1 = plnj P - 1 := r3; omega
    | some k => rw [hp] at r3; have r3 : Z.2.1 = k / 10 := r3; rw [r3]; exact (isSh_lt ok (s2 k hp)).2.1
  have hch := ch_eq pr ok r1 hl r3 m
  refine ⟨fun j hj => ?_, hl, fun h0 => ?_, by omega, by omega, fun j hj => ?_, by omega⟩
  · rw [hch] at hj
    obtain ⟨hjl, hjw⟩ := chs_lt _ _ _ _ _ _ hj
    simp only [wtg, decide_eq_true_eq] at hjw
    have sj := s1 j hjl
    have o5 := ok.2.2.2.2.1 j hjl
    have o1 := ok.1
    rw [(pr.2.2.2.2.1 j hjl).2.1, r1 j hjl]
    omega
  · cases hp : prla (dypr D) with
    | none => exact absurd hp (i5 (by omega))
    | some k =>
      obtain ⟨l1, l2⟩ := i6 k hp
      refine ⟨by omega, ?_⟩
      rw [c1, (c2 _ (by omega)).1, l2]
      exact (isSh_lt ok (s2 k hp)).1
  · have sj := s1 j hj
    have o5 := ok.2.2.2.2.1 j hj
    rw [r1 j hj]
    omega
def lI (n l : Nat) : Int32 := if n = 0 then -1 else nI l
theorem lI_0 (n : Nat) : nI n - nI 1 = lI n (n - 1) := by
  unfold lI
  by_cases e : n = 0
  · rw [if_pos e, e]; decide
  · rw [if_neg e, pk_sub (by omega)]
def mGo (M : Md) (n : Nat) : Md := sC M (zRun (mno M) M.2.2.1 n).1
theorem pm_mgoTo (M : Md) (P : Pl) (pr : PR P (mno M)) (ok : PlOk P) (h3 : ∀ j, j < 80 → mno M j < 1000) (m : Nat) (hm : m < 100) : PM mu_X7_goTo 3 0 0 [.ref 0, .int (nI m)] (mdB M) (eqP none (mdB (mGo M (m + 1)))) := by
  have pr' := pr
  obtain ⟨p0, p1, p2, p3, p4, p5⟩ := pr
  have o1 := ok.1
  have o2 := ok.2.1
  have k2 := h3 2 (by decide)
  have k3 := h3 3 (by decide)
  obtain ⟨MA', MB'', C, ME'⟩ := M
  have hsh : ∀ j, j < MA'.2.1 0 → MA'.2.1 (20 + j) < 10 := by
    intro j hj
    have hj : j < plnj P := by rw [← p0]; exact hj
    have := (p4 j hj).2.1
    have := ok.2.2.2.2.1 j hj
    show mno (MA', MB'', C, ME') (20 + j) < 10
    omega
  unfold mGo
  refine PM.start (Or.inl (by decide +kernel)) rfl rfl rfl ?_
  intro X hX hR hx hin
  have dok := fun n => dRun_ok ok dyZ n
  have zr := fun n => zRun_R pr' ok dyZ C n
  -- the takers of a minute
  have loopT : ∀ i, i < 100 → ∀ Y : MZ, zPut (mno (MA', MB'', C, ME')) (zRun (mno (MA', MB'', C, ME')) C i) i = Y → (∀ t, t ≤ plnt P → CRl (dTake P i (dPut P (dRun P dyZ i) i) t) (zTk (mno (MA', MB'', C, ME')) i Y.1 t)) → PW X 97 [some (.ref 0), some (.int (nI m)), some (.int (nI (plkd P))), some (.int (lI (plnj P) Y.2.1)), some (.int (nI Y.2.2)), some (.int (nI (i + 1))), none] [] (mdB (sC (MA', MB'', C, ME') (zTk (mno (MA', MB'', C, ME')) i Y.1 (plnt P)))) 0 0 → ∀ k t : Nat, t ≤ plnt P → plnt P < t + k → PW X 232 [some (.ref 0), some (.int (nI m)), some (.int (nI (plkd P))), some (.int (lI (plnj P) Y.2.1)), some (.int (nI Y.2.2)), some (.int (nI i)), some (.int (nI t))] [] (mdB (sC (MA', MB'', C, ME') (zTk (mno (MA', MB'', C, ME')) i Y.1 t))) 0 0 := by
    intro i hi Y hY hC nx k
    induction k with
    | zero => intro t h1 h2; exact absurd h2 (by omega)
    | succ k ih =>
      intro t h1 h2
      by_cases ht : t = plnt P
      · subst ht
        refine PW.iload hX dX7_goTo_232 rfl ?_
        refine PW.aload_n hX dX7_goTo_234 rfl rfl ?_
        refine PW.getfield hX fl_X7_13 dX7_goTo_235 rfl rfl ?_
        refine PW.iconst (v := nI 1) hX dX7_goTo_238 (by decide) ?_
        refine PW.iaload (k := 1) hX dX7_goTo_239 rfl rfl rfl (by decide) ?_
        refine PW.top (show _ = nI (plnt P) from congrArg nI p1) ?_
        refine PW.icmp_ge (tgt := 270) hX dX7_goTo_240 (by decide) (fun c240 => ?_) (fun c240 => ?_)
        · try rw [nI_leI (by omega) (by omega)] at c240
          first | refine PW.iinc hX dX7_goTo_270 rfl (iincN _) ?_ | refine PW.iinc hX dX7_goTo_270 rfl rfl ?_
          refine PW.goto (tgt := 97) hX dX7_goTo_273 (by decide) ?_
          refine PW.clr 6 ?_
          exact nx
        · try rw [nI_leI (by omega) (by omega)] at c240
          exfalso; omega -- CLOSED
      · have n2 := ih (t + 1) (by omega) (by omega)
        have dt := (dTake_ok ok (dPut_ok ok hi (dok i (by omega))) (m := i) t h1).2.1
        obtain ⟨c1, c2, c3, c4, c5⟩ := hC t h1
        have b70 := h3 (70 + t) (by omega)
        generalize dTake P i (dPut P (dRun P dyZ i) i) t = D at dt c1 c2 c3 c4 c5
        rw [zTk] at n2
        generalize zTk (mno (MA', MB'', C, ME')) i Y.1 t = B at n2 c1 c2 c3 c4 c5 ⊢
        have cT := pm_mtake (MA', MB'', C, ME') B t (by omega) (by omega) (by rw [c3]; exact dt.1) (fun q hq => by
          have hq : q < tyn (dyty D) := by rw [← c3]; exact hq
          have hs := isSh_lt ok (dt.2 q hq)
          rw [c4 q hq, p0]
          exact ⟨hs.1, hs.2.1⟩) hsh h3
        refine PW.iload hX dX7_goTo_232 rfl ?_
        refine PW.aload_n hX dX7_goTo_234 rfl rfl ?_
        refine PW.getfield hX fl_X7_13 dX7_goTo_235 rfl rfl ?_
        refine PW.iconst (v := nI 1) hX dX7_goTo_238 (by decide) ?_
        refine PW.iaload (k := 1) hX dX7_goTo_239 rfl rfl rfl (by decide) ?_
        refine PW.top (show _ = nI (plnt P) from congrArg nI p1) ?_
        refine PW.icmp_ge (tgt := 270) hX dX7_goTo_240 (by decide) (fun c240 => ?_) (fun c240 => ?_)
        · try rw [nI_leI (by omega) (by omega)] at c240
          exfalso; omega -- CLOSED
        · try rw [nI_leI (by omega) (by omega)] at c240
          refine PW.aload_n hX dX7_goTo_243 rfl rfl ?_
          refine PW.getfield hX fl_X7_13 dX7_goTo_244 rfl rfl ?_
          refine PW.bipush (v := nI 70) hX dX7_goTo_247 (by decide) ?_
          refine PW.iload hX dX7_goTo_249 rfl ?_
          refine PW.iadd hX dX7_goTo_251 ?_
          refine PW.top (show _ = nI (70 + t) from nI_add 70 t) ?_
          refine PW.iaload (k := 70 + t) hX dX7_goTo_252 rfl rfl rfl (by omega) ?_
          refine PW.top (show _ = nI (mno (MA', MB'', C, ME') (70 + t)) from rfl) ?_
          refine PW.iload hX dX7_goTo_253 rfl ?_
          refine PW.icmp_ne (tgt := 264) hX dX7_goTo_255 (by decide) (fun c255 => ?_) (fun c255 => ?_)
          · first | rw [nI_eq (by omega) (by omega)] at c255 | rw [oI_eq9] at c255 | skip
            rw [if_neg c255] at n2
            first | refine PW.iinc hX dX7_goTo_264 rfl (iincN _) ?_ | refine PW.iinc hX dX7_goTo_264 rfl rfl ?_
            refine PW.goto (tgt := 232) hX dX7_goTo_267 (by decide) ?_
            exact n2
          · first | rw [nI_eq (by omega) (by omega)] at c255 | rw [oI_eq9] at c255 | skip
            rw [if_pos c255] at n2
            refine PW.aload_n hX dX7_goTo_258 rfl rfl ?_
            refine PW.iload hX dX7_goTo_259 rfl ?_
            refine PW.vVi hX ml_X7_134 (cT) dX7_goTo_261 17 rfl rfl rfl rfl rfl rfl rfl rfl rfl rfl rfl rfl rfl rfl rfl ?_
            first | refine PW.iinc hX dX7_goTo_264 rfl (iincN _) ?_ | refine PW.iinc hX dX7_goTo_264 rfl rfl ?_
            refine PW.goto (tgt := 232) hX dX7_goTo_267 (by decide) ?_
            exact n2
  -- the minutes
  have loopM : ∀ n i : Nat, i ≤ m + 1 → m + 1 < i + n → ∀ Z, zRun (mno (MA', MB'', C, ME')) C i = Z → PW X 97 [some (.ref 0), some (.int (nI m)), some (.int (nI (plkd P))), some (.int (lI (plnj P) Z.2.1)), some (.int (nI Z.2.2)), some (.int (nI i)), none] [] (mdB (sC (MA', MB'', C, ME') Z.1)) 0 0 := by
    intro n
    induction n with
    | zero => intro i h1 h2; exact absurd h2 (by omega)
    | succ n ih =>
      intro i h1 h2 Z hZ
      by_cases hi : i = m + 1
      · rw [← hi, hZ] at hR
        refine PW.iload hX dX7_goTo_97 rfl ?_
        refine PW.iload_n hX dX7_goTo_99 rfl rfl ?_
        refine PW.icmp_gt (tgt := 276) hX dX7_goTo_100 (by decide) (fun c100 => ?_) (fun c100 => ?_)
        · try rw [nI_ltI (by omega) (by omega)] at c100
          refine PW.vret hX hR dX7_goTo_276 rfl rfl ?_
          exact ⟨rfl, rfl⟩
        · try rw [nI_ltI (by omega) (by omega)] at c100
          exfalso; omega -- CLOSED
      · have nz := zr i (by omega)
        have dk := dok i (by omega)
        have zp := zPut_R pr' ok (by omega) dk nz
        have nx := ih (i + 1) (by omega) (by omega) _ rfl
        rw [zRun] at nx
        have lt := loopT i (by omega) (zPut (mno (MA', MB'', C, ME')) (zRun (mno (MA', MB'', C, ME')) C i) i) rfl (fun t ht => (zTk_R pr' ok (dPut_ok ok (by omega) dk) zp.2.1 zp.2.2.2.2 (m := i) t ht).1)
        unfold zMin at nx
        rw [p1] at nx
        obtain ⟨j1, j2, j3, j4, j5, j6, j7⟩ := z_job pr' ok dk nz
        have lt := lt nx (plnt P + 1) 0 (by omega) (by omega)
        rw [hZ] at lt j1 j2 j3 j4 j5 j6 j7
        clear nx ih
        have h229 : ∀ Y, zPut (mno (MA', MB'', C, ME')) Z i = Y → ∀ u, PW X 229 [some (.ref 0), some (.int (nI m)), some (.int (nI (plkd P))), some (.int (lI (plnj P) Y.2.1)), some (.int (nI Y.2.2)), some (.int (nI i)), u] [] (mdB (sC (MA', MB'', C, ME') Y.1)) 0 0 := by
          intro Y hY u
          rw [hY] at lt
          refine PW.clr 6 ?_
          refine PW.iconst (v := nI 0) hX dX7_goTo_229 (by decide) ?_
          refine PW.istore hX dX7_goTo_230 rfl ?_
          exact lt
        by_cases ha : mno (MA', MB'', C, ME') 2 = 4 ∧ 0 < mno (MA', MB'', C, ME') 3 ∧ Z.2.2 = mno (MA', MB'', C, ME') 3
        · have ez : zPut (mno (MA', MB'', C, ME')) Z i = (mPut (mno (MA', MB'', C, ME')) Z.1 (cou Z.1 (cos Z.1 - 1)) i, Z.2.1, 0) := by
            unfold zPut
            rw [if_pos ha]
          have n9 := h229 _ ez
          obtain ⟨g1, g2⟩ := j3 (by omega)
          have cP := pm_mput (MA', MB'', C, ME') Z.1 (cou Z.1 (cos Z.1 - 1)) i g2 (by omega) (by omega) k2
          refine PW.iload hX dX7_goTo_97 rfl ?_
          refine PW.iload_n hX dX7_goTo_99 rfl rfl ?_
          refine PW.icmp_gt (tgt := 276) hX dX7_goTo_100 (by decide) (fun c100 => ?_) (fun c100 => ?_)
          · try rw [nI_ltI (by omega) (by omega)] at c100
            exfalso; omega -- CLOSED
          · try rw [nI_ltI (by omega) (by omega)] at c100
            refine PW.iload_n hX dX7_goTo_103 rfl rfl ?_
            refine PW.iconst (v := nI 4) hX dX7_goTo_104 (by decide) ?_
            refine PW.icmp_ne (tgt := 151) hX dX7_goTo_105 (by decide) (fun c105 => ?_) (fun c105 => ?_)
            · first | rw [nI_eq (by omega) (by omega)] at c105 | rw [oI_eq9] at c105 | skip
              exfalso; omega -- CLOSED
            · first | rw [nI_eq (by omega) (by omega)] at c105 | rw [oI_eq9] at c105 | skip
              refine PW.aload_n hX dX7_goTo_108 rfl rfl ?_
              refine PW.getfield hX fl_X7_13 dX7_goTo_109 rfl rfl ?_
              refine PW.iconst (v := nI 3) hX dX7_goTo_112 (by decide) ?_
              refine PW.iaload hX dX7_goTo_113 rfl rfl rfl (by omega) ?_
              refine PW.top (show _ = nI (mno (MA', MB'', C, ME') 3) from rfl) ?_
              refine PW.if_le (tgt := 151) hX dX7_goTo_114 (by decide) (fun c114 => ?_) (fun c114 => ?_)
              · try rw [nI_le0 (by omega)] at c114
                exfalso; omega -- CLOSED
              · try rw [nI_le0 (by omega)] at c114
                refine PW.iload hX dX7_goTo_117 rfl ?_
                refine PW.aload_n hX dX7_goTo_119 rfl rfl ?_
                refine PW.getfield hX fl_X7_13 dX7_goTo_120 rfl rfl ?_
                refine PW.iconst (v := nI 3) hX dX7_goTo_123 (by decide) ?_
                refine PW.iaload hX dX7_goTo_124 rfl rfl rfl (by omega) ?_
                refine PW.top (show _ = nI (mno (MA', MB'', C, ME') 3) from rfl) ?_
                refine PW.icmp_ne (tgt := 151) hX dX7_goTo_125 (by decide) (fun c125 => ?_) (fun c125 => ?_)
                · first | rw [nI_eq (by omega) (by omega)] at c125 | rw [oI_eq9] at c125 | skip
                  exfalso; omega -- CLOSED
                · first | rw [nI_eq (by omega) (by omega)] at c125 | rw [oI_eq9] at c125 | skip
                  refine PW.aload_n hX dX7_goTo_128 rfl rfl ?_
                  refine PW.aload_n hX dX7_goTo_129 rfl rfl ?_
                  refine PW.getfield hX fl_X7_38 dX7_goTo_130 rfl rfl ?_
                  refine PW.aload_n hX dX7_goTo_133 rfl rfl ?_
                  refine PW.getfield hX fl_X7_113 dX7_goTo_134 rfl rfl ?_
                  refine PW.iconst (v := nI 1) hX dX7_goTo_137 (by decide) ?_
                  refine PW.isub hX dX7_goTo_138 ?_
                  refine PW.top (show _ = nI (cos Z.1 - 1) from pk_sub (a := cos Z.1) (b := 1) (by omega)) ?_
                  refine PW.iaload (k := cos Z.1 - 1) hX dX7_goTo_139 rfl rfl rfl (by omega) ?_
                  refine PW.top (show _ = nI (cou Z.1 (cos Z.1 - 1)) from rfl) ?_
                  refine PW.iload hX dX7_goTo_140 rfl ?_
                  refine PW.vVi hX ml_X7_126 (cP) dX7_goTo_142 17 rfl rfl rfl rfl rfl rfl rfl rfl rfl rfl rfl rfl rfl rfl rfl ?_
                  refine PW.iconst (v := nI 0) hX dX7_goTo_145 (by decide) ?_
                  refine PW.istore hX dX7_goTo_146 rfl ?_
                  refine PW.goto (tgt := 229) hX dX7_goTo_148 (by decide) ?_
                  exact n9 _
        · have ez : zPut (mno (MA', MB'', C, ME')) Z i = match mCh (mno (MA', MB'', C, ME')) (cle Z.1) i Z.2.1 (mno (MA', MB'', C, ME') 0) with | none => Z | some j => (mPut (mno (MA', MB'', C, ME')) (cLe Z.1 (va_up (cle Z.1) j (cle Z.1 j - 1))) (10 * j + mno (MA', MB'', C, ME') (20 + j) - (cle Z.1 j - 1)) i, j, Z.2.2 + 1) := by
            unfold zPut
            rw [if_neg ha]
            generalize mCh (mno (MA', MB'', C, ME')) (cle Z.1) i Z.2.1 (mno (MA', MB'', C, ME') 0) = z
            cases z <;> rfl
          have h173 : ∀ z, mCh (mno (MA', MB'', C, ME')) (cle Z.1) i Z.2.1 (mno (MA', MB'', C, ME') 0) = z → PW X 173 [some (.ref 0), some (.int (nI m)), some (.int (nI (plkd P))), some (.int (lI (plnj P) Z.2.1)), some (.int (nI Z.2.2)), some (.int (nI i)), none] [.int (oI z)] (mdB (sC (MA', MB'', C, ME') Z.1)) 0 0 := by
            intro z hz
            rw [hz] at ez
            have n9 := h229 _ ez
            cases z with
            | none =>
              refine PW.istore hX dX7_goTo_173 rfl ?_
              refine PW.iload hX dX7_goTo_175 rfl ?_
              refine PW.bipush (v := (-9)) hX dX7_goTo_177 (by decide) ?_
              refine PW.icmp_eq (tgt := 229) hX dX7_goTo_179 (by decide) (fun c179 => ?_) (fun c179 => ?_)
              · first | rw [nI_eq (by omega) (by omega)] at c179 | rw [oI_eq9] at c179 | skip
                exact n9 _
              · first | rw [nI_eq (by omega) (by omega)] at c179 | rw [oI_eq9] at c179 | skip
                exact absurd trivial c179 -- CLOSED
            | some j =>
              obtain ⟨g1, g2, g3, g4, g5⟩ := j1 j hz
              have el : lI (plnj P) j = nI j := by unfold lI; rw [if_neg (by omega)]
              dsimp only at n9
              rw [el] at n9
              have cP := pm_mput (MA', MB'', C, ME') (cLe Z.1 (va_up (cle Z.1) j (cle Z.1 j - 1))) (10 * j + mno (MA', MB'', C, ME') (20 + j) - (cle Z.1 j - 1)) i g5 (show cos Z.1 < 100 by omega) (show cly Z.1 < 100 by omega) k2
              refine PW.istore hX dX7_goTo_173 rfl ?_
              refine PW.iload hX dX7_goTo_175 rfl ?_
              refine PW.bipush (v := (-9)) hX dX7_goTo_177 (by decide) ?_
              refine PW.icmp_eq (tgt := 229) hX dX7_goTo_179 (by decide) (fun c179 => ?_) (fun c179 => ?_)
              · first | rw [nI_eq (by omega) (by omega)] at c179 | rw [oI_eq9] at c179 | skip
                exact absurd c179 (nI_ne9 (by omega)) -- CLOSED
              · first | rw [nI_eq (by omega) (by omega)] at c179 | rw [oI_eq9] at c179 | skip
                refine PW.aload_n hX dX7_goTo_182 rfl rfl ?_
                refine PW.getfield hX fl_X7_35 dX7_goTo_183 rfl rfl ?_
                refine PW.iload hX dX7_goTo_186 rfl ?_
                refine PW.dup2 hX dX7_goTo_188 rfl rfl ?_
                refine PW.iaload (k := j) hX dX7_goTo_189 rfl rfl rfl (by omega) ?_
                refine PW.iconst (v := nI 1) hX dX7_goTo_190 (by decide) ?_
                refine PW.isub hX dX7_goTo_191 ?_
                refine PW.top (show _ = nI (cle Z.1 j - 1) from pk_sub (a := cle Z.1 j) (b := 1) (by omega)) ?_
                refine PW.iastore (k := j) hX dX7_goTo_192 rfl rfl rfl (by omega) ?_
                refine PW.heap (md_le (MA', MB'', C, ME') Z.1 j (cle Z.1 j - 1)) ?_
                refine PW.aload_n hX dX7_goTo_193 rfl rfl ?_
                refine PW.bipush (v := nI 10) hX dX7_goTo_194 (by decide) ?_
                refine PW.iload hX dX7_goTo_196 rfl ?_
                refine PW.imul hX dX7_goTo_198 ?_
                refine PW.aload_n hX dX7_goTo_199 rfl rfl ?_
                refine PW.getfield hX fl_X7_13 dX7_goTo_200 rfl rfl ?_
                refine PW.bipush (v := nI 20) hX dX7_goTo_203 (by decide) ?_
                refine PW.iload hX dX7_goTo_205 rfl ?_
                refine PW.iadd hX dX7_goTo_207 ?_
                refine PW.top (show _ = nI (20 + j) from nI_add 20 j) ?_
                refine PW.iaload (k := 20 + j) hX dX7_goTo_208 rfl rfl rfl (by omega) ?_
                refine PW.iadd hX dX7_goTo_209 ?_
                refine PW.top (show nI 10 * nI j + nI (mno (MA', MB'', C, ME') (20 + j)) = nI (10 * j + mno (MA', MB'', C, ME') (20 + j)) by rw [pk_mul, nI_add]) ?_
                refine PW.aload_n hX dX7_goTo_210 rfl rfl ?_
                refine PW.getfield hX fl_X7_35 dX7_goTo_211 rfl rfl ?_
                refine PW.iload hX dX7_goTo_214 rfl ?_
                refine PW.iaload (k := j) hX dX7_goTo_216 rfl rfl rfl (by omega) ?_
                refine PW.top (show nI (va_up (cle Z.1) j (cle Z.1 j - 1) j) = nI (cle Z.1 j - 1) by rw [va_up_self]) ?_
                refine PW.isub hX dX7_goTo_217 ?_
                refine PW.top (pk_sub (by omega)) ?_
                refine PW.iload hX dX7_goTo_218 rfl ?_
                refine PW.vVi hX ml_X7_126 (cP) dX7_goTo_220 17 rfl rfl rfl rfl rfl rfl rfl rfl rfl rfl rfl rfl rfl rfl rfl ?_
                refine PW.iload hX dX7_goTo_223 rfl ?_
                refine PW.istore_n hX dX7_goTo_225 rfl rfl ?_
                first | refine PW.iinc hX dX7_goTo_226 rfl (iincN _) ?_ | refine PW.iinc hX dX7_goTo_226 rfl rfl ?_
                exact n9 _
          have h151 : PW X 151 [some (.ref 0), some (.int (nI m)), some (.int (nI (plkd P))), some (.int (lI (plnj P) Z.2.1)), some (.int (nI Z.2.2)), some (.int (nI i)), none] [] (mdB (sC (MA', MB'', C, ME') Z.1)) 0 0 := by
            by_cases h0 : plnj P = 0
            · have ec : mCh (mno (MA', MB'', C, ME')) (cle Z.1) i Z.2.1 (mno (MA', MB'', C, ME') 0) = none := by rw [p0, h0]; rfl
              have n3 := h173 none ec
              refine PW.aload_n hX dX7_goTo_151 rfl rfl ?_
              refine PW.getfield hX fl_X7_13 dX7_goTo_152 rfl rfl ?_
              refine PW.iconst (v := nI 0) hX dX7_goTo_155 (by decide) ?_
              refine PW.iaload (k := 0) hX dX7_goTo_156 rfl rfl rfl (by decide) ?_
              refine PW.top (show _ = nI (plnj P) from congrArg nI p0) ?_
              refine PW.if_ne (tgt := 165) hX dX7_goTo_157 (by decide) (fun c157 => ?_) (fun c157 => ?_)
              · first | rw [bI_d0] at c157 | rw [bI_eq0] at c157 | rw [nI_eq0 (by omega)] at c157 | skip
                exfalso; omega -- CLOSED
              · first | rw [bI_d0] at c157 | rw [bI_eq0] at c157 | rw [nI_eq0 (by omega)] at c157 | skip
                refine PW.bipush (v := (-9)) hX dX7_goTo_160 (by decide) ?_
                refine PW.goto (tgt := 173) hX dX7_goTo_162 (by decide) ?_
                exact n3
            · have n3 := h173 _ rfl
              have el : lI (plnj P) Z.2.1 = nI Z.2.1 := by unfold lI; rw [if_neg h0]
              have jl := j2 (by omega)
              have cC := pm_mch (sC (MA', MB'', C, ME') Z.1) i Z.2.1 (by omega) (show 0 < mno (MA', MB'', C, ME') 0 by omega) (show mno (MA', MB'', C, ME') 0 ≤ 6 by omega) (by omega) (fun j hj => j6 j (by rw [← p0]; exact hj)) h3
              have cC : PM mu_X7_chosen 1 0 0 [.ref 0, .int (nI (plkd P)), .int (nI i), .int (lI (plnj P) Z.2.1)] (mdB (sC (MA', MB'', C, ME') Z.1)) (eqP (some (.int (oI (mCh (mno (MA', MB'', C, ME')) (cle Z.1) i Z.2.1 (mno (MA', MB'', C, ME') 0))))) (mdB (sC (MA', MB'', C, ME') Z.1))) := by
                rw [el, ← p2]
                exact cC
              refine PW.aload_n hX dX7_goTo_151 rfl rfl ?_
              refine PW.getfield hX fl_X7_13 dX7_goTo_152 rfl rfl ?_
              refine PW.iconst (v := nI 0) hX dX7_goTo_155 (by decide) ?_
              refine PW.iaload (k := 0) hX dX7_goTo_156 rfl rfl rfl (by decide) ?_
              refine PW.top (show _ = nI (plnj P) from congrArg nI p0) ?_
              refine PW.if_ne (tgt := 165) hX dX7_goTo_157 (by decide) (fun c157 => ?_) (fun c157 => ?_)
              · first | rw [bI_d0] at c157 | rw [bI_eq0] at c157 | rw [nI_eq0 (by omega)] at c157 | skip
                refine PW.aload_n hX dX7_goTo_165 rfl rfl ?_
                refine PW.iload_n hX dX7_goTo_166 rfl rfl ?_
                refine PW.iload hX dX7_goTo_167 rfl ?_
                refine PW.iload_n hX dX7_goTo_169 rfl rfl ?_
                refine PW.vIi hX ml_X7_130 (cC) dX7_goTo_170 17 rfl rfl rfl rfl rfl rfl rfl rfl rfl rfl rfl rfl rfl rfl rfl ?_
                exact n3
              · first | rw [bI_d0] at c157 | rw [bI_eq0] at c157 | rw [nI_eq0 (by omega)] at c157 | skip
                exfalso; omega -- CLOSED
          refine PW.iload hX dX7_goTo_97 rfl ?_
          refine PW.iload_n hX dX7_goTo_99 rfl rfl ?_
          refine PW.icmp_gt (tgt := 276) hX dX7_goTo_100 (by decide) (fun c100 => ?_) (fun c100 => ?_)
          · try rw [nI_ltI (by omega) (by omega)] at c100
            exfalso; omega -- CLOSED
          · try rw [nI_ltI (by omega) (by omega)] at c100
            refine PW.iload_n hX dX7_goTo_103 rfl rfl ?_
            refine PW.iconst (v := nI 4) hX dX7_goTo_104 (by decide) ?_
            refine PW.icmp_ne (tgt := 151) hX dX7_goTo_105 (by decide) (fun c105 => ?_) (fun c105 => ?_)
            · first | rw [nI_eq (by omega) (by omega)] at c105 | rw [oI_eq9] at c105 | skip
              exact h151
            · first | rw [nI_eq (by omega) (by omega)] at c105 | rw [oI_eq9] at c105 | skip
              refine PW.aload_n hX dX7_goTo_108 rfl rfl ?_
              refine PW.getfield hX fl_X7_13 dX7_goTo_109 rfl rfl ?_
              refine PW.iconst (v := nI 3) hX dX7_goTo_112 (by decide) ?_
              refine PW.iaload hX dX7_goTo_113 rfl rfl rfl (by omega) ?_
              refine PW.top (show _ = nI (mno (MA', MB'', C, ME') 3) from rfl) ?_
              refine PW.if_le (tgt := 151) hX dX7_goTo_114 (by decide) (fun c114 => ?_) (fun c114 => ?_)
              · try rw [nI_le0 (by omega)] at c114
                exact h151
              · try rw [nI_le0 (by omega)] at c114
                refine PW.iload hX dX7_goTo_117 rfl ?_
                refine PW.aload_n hX dX7_goTo_119 rfl rfl ?_
                refine PW.getfield hX fl_X7_13 dX7_goTo_120 rfl rfl ?_
                refine PW.iconst (v := nI 3) hX dX7_goTo_123 (by decide) ?_
                refine PW.iaload hX dX7_goTo_124 rfl rfl rfl (by omega) ?_
                refine PW.top (show _ = nI (mno (MA', MB'', C, ME') 3) from rfl) ?_
                refine PW.icmp_ne (tgt := 151) hX dX7_goTo_125 (by decide) (fun c125 => ?_) (fun c125 => ?_)
                · first | rw [nI_eq (by omega) (by omega)] at c125 | rw [oI_eq9] at c125 | skip
                  exact h151
                · first | rw [nI_eq (by omega) (by omega)] at c125 | rw [oI_eq9] at c125 | skip
                  exfalso; exact ha ⟨p2.trans c105, by omega, c125⟩ -- CLOSED
  have h75 : PW X 75 [some (.ref 0), some (.int (nI m)), none, none, none, none, none] [] (mdB (sC (MA', MB'', C, ME') (zBeg (mno (MA', MB'', C, ME')) C).1)) 0 0 := by
    have nx := loopM (m + 2) 0 (by omega) (by omega) _ rfl
    have e0 : (zRun (mno (MA', MB'', C, ME')) C 0).2.1 = plnj P - 1 := congrArg (· - 1) p0
    rw [e0] at nx
    refine PW.aload_n hX dX7_goTo_75 rfl rfl ?_
    refine PW.getfield hX fl_X7_13 dX7_goTo_76 rfl rfl ?_
    refine PW.iconst (v := nI 2) hX dX7_goTo_79 (by decide) ?_
    refine PW.iaload (k := 2) hX dX7_goTo_80 rfl rfl rfl (by decide) ?_
    refine PW.top (show _ = nI (plkd P) from congrArg nI p2) ?_
    refine PW.istore_n hX dX7_goTo_81 rfl rfl ?_
    refine PW.aload_n hX dX7_goTo_82 rfl rfl ?_
    refine PW.getfield hX fl_X7_13 dX7_goTo_83 rfl rfl ?_
    refine PW.iconst (v := nI 0) hX dX7_goTo_86 (by decide) ?_
    refine PW.iaload (k := 0) hX dX7_goTo_87 rfl rfl rfl (by decide) ?_
    refine PW.top (show _ = nI (plnj P) from congrArg nI p0) ?_
    refine PW.iconst (v := nI 1) hX dX7_goTo_88 (by decide) ?_
    refine PW.isub hX dX7_goTo_89 ?_
    refine PW.top (lI_0 (plnj P)) ?_
    refine PW.istore_n hX dX7_goTo_90 rfl rfl ?_
    refine PW.iconst (v := nI 0) hX dX7_goTo_91 (by decide) ?_
    refine PW.istore hX dX7_goTo_92 rfl ?_
    refine PW.iconst (v := nI 0) hX dX7_goTo_94 (by decide) ?_
    refine PW.istore hX dX7_goTo_95 rfl ?_
    exact nx
  have loopB : ∀ n k : Nat, k + n = 60 → PW X 55 [some (.ref 0), some (.int (nI m)), some (.int (nI k)), none, none, none, none] [] (mdB (sC (MA', MB'', C, ME') (fun j => if j < 6 then (if j < mno (MA', MB'', C, ME') 0 then mno (MA', MB'', C, ME') (20 + j) else 0) else cle C j, cou C, coa C, 0, ctr C, 0, fun j => if j < k then -8 else cho C j, cwh C))) 0 0 := by
    intro n
    induction n with
    | zero =>
      intro k h1
      have e : k = 60 := by omega
      subst e
      refine PW.iload_n hX dX7_goTo_55 rfl rfl ?_
      refine PW.bipush (v := nI 60) hX dX7_goTo_56 (by decide) ?_
      refine PW.icmp_ge (tgt := 75) hX dX7_goTo_58 (by decide) (fun c58 => ?_) (fun c58 => ?_)
      · try rw [nI_leI (by omega) (by omega)] at c58
        refine PW.clr 2 ?_
        exact h75
      · try rw [nI_leI (by omega) (by omega)] at c58
        exfalso; omega -- CLOSED
    | succ n ih =>
      intro k h1
      have nx := ih (k + 1) (by omega)
      rw [← pfUpI (fun _ => -8) (cho C) k] at nx
      refine PW.iload_n hX dX7_goTo_55 rfl rfl ?_
      refine PW.bipush (v := nI 60) hX dX7_goTo_56 (by decide) ?_
      refine PW.icmp_ge (tgt := 75) hX dX7_goTo_58 (by decide) (fun c58 => ?_) (fun c58 => ?_)
      · try rw [nI_leI (by omega) (by omega)] at c58
        exfalso; omega -- CLOSED
      · try rw [nI_leI (by omega) (by omega)] at c58
        refine PW.aload_n hX dX7_goTo_61 rfl rfl ?_
        refine PW.getfield hX fl_X7_47 dX7_goTo_62 rfl rfl ?_
        refine PW.iload_n hX dX7_goTo_65 rfl rfl ?_
        refine PW.bipush (v := (-8)) hX dX7_goTo_66 (by decide) ?_
        refine PW.iastore hX dX7_goTo_68 rfl rfl rfl (by omega) ?_
        first | refine PW.iinc hX dX7_goTo_69 rfl (iincN _) ?_ | refine PW.iinc hX dX7_goTo_69 rfl rfl ?_
        refine PW.goto (tgt := 55) hX dX7_goTo_72 (by decide) ?_
        exact nx
  have loopA : ∀ n k : Nat, k + n = 6 → PW X 12 [some (.ref 0), some (.int (nI m)), some (.int (nI k)), none, none, none, none] [] (mdB (sC (MA', MB'', C, ME') (fun j => if j < k then (if j < mno (MA', MB'', C, ME') 0 then mno (MA', MB'', C, ME') (20 + j) else 0) else cle C j, cou C, coa C, 0, ctr C, 0, cho C, cwh C))) 0 0 := by
    intro n
    induction n with
    | zero =>
      intro k h1
      have e : k = 6 := by omega
      subst e
      have nx := loopB 60 0 rfl
      simp only [Nat.not_lt_zero, if_false] at nx
      refine PW.iload_n hX dX7_goTo_12 rfl rfl ?_
      refine PW.bipush (v := nI 6) hX dX7_goTo_13 (by decide) ?_
      refine PW.icmp_ge (tgt := 53) hX dX7_goTo_15 (by decide) (fun c15 => ?_) (fun c15 => ?_)
      · try rw [nI_leI (by omega) (by omega)] at c15
        refine PW.iconst (v := nI 0) hX dX7_goTo_53 (by decide) ?_
        refine PW.istore_n hX dX7_goTo_54 rfl rfl ?_
        exact nx
      · try rw [nI_leI (by omega) (by omega)] at c15
        exfalso; omega -- CLOSED
    | succ n ih =>
      intro k h1
      have nx := ih (k + 1) (by omega)
      rw [← pfUp (fun j => if j < mno (MA', MB'', C, ME') 0 then mno (MA', MB'', C, ME') (20 + j) else 0) (cle C) k] at nx
      have h46 : ∀ v, (if k < mno (MA', MB'', C, ME') 0 then mno (MA', MB'', C, ME') (20 + k) else 0) = v → PW X 46 [some (.ref 0), some (.int (nI m)), some (.int (nI k)), none, none, none, none] [.int (nI v), .int (nI k), .ref 9] (mdB (sC (MA', MB'', C, ME') (fun j => if j < k then (if j < mno (MA', MB'', C, ME') 0 then mno (MA', MB'', C, ME') (20 + j) else 0) else cle C j, cou C, coa C, 0, ctr C, 0, cho C, cwh C))) 0 0 := by
        rintro v rfl
        refine PW.iastore hX dX7_goTo_46 rfl rfl rfl (by omega) ?_
        refine PW.heap (md_le (MA', MB'', C, ME') (fun j => if j < k then (if j < mno (MA', MB'', C, ME') 0 then mno (MA', MB'', C, ME') (20 + j) else 0) else cle C j, cou C, coa C, 0, ctr C, 0, cho C, cwh C) k _) ?_
        first | refine PW.iinc hX dX7_goTo_47 rfl (iincN _) ?_ | refine PW.iinc hX dX7_goTo_47 rfl rfl ?_
        refine PW.goto (tgt := 12) hX dX7_goTo_50 (by decide) ?_
        exact nx
      refine PW.iload_n hX dX7_goTo_12 rfl rfl ?_
      refine PW.bipush (v := nI 6) hX dX7_goTo_13 (by decide) ?_
      refine PW.icmp_ge (tgt := 53) hX dX7_goTo_15 (by decide) (fun c15 => ?_) (fun c15 => ?_)
      · try rw [nI_leI (by omega) (by omega)] at c15
        exfalso; omega -- CLOSED
      · try rw [nI_leI (by omega) (by omega)] at c15
        refine PW.aload_n hX dX7_goTo_18 rfl rfl ?_
        refine PW.getfield hX fl_X7_35 dX7_goTo_19 rfl rfl ?_
        refine PW.iload_n hX dX7_goTo_22 rfl rfl ?_
        refine PW.iload_n hX dX7_goTo_23 rfl rfl ?_
        refine PW.aload_n hX dX7_goTo_24 rfl rfl ?_
        refine PW.getfield hX fl_X7_13 dX7_goTo_25 rfl rfl ?_
        refine PW.iconst (v := nI 0) hX dX7_goTo_28 (by decide) ?_
        refine PW.iaload (k := 0) hX dX7_goTo_29 rfl rfl rfl (by decide) ?_
        refine PW.top (show _ = nI (mno (MA', MB'', C, ME') 0) from rfl) ?_
        refine PW.icmp_ge (tgt := 45) hX dX7_goTo_30 (by decide) (fun c30 => ?_) (fun c30 => ?_)
        · try rw [nI_leI (by omega) (by omega)] at c30
          refine PW.iconst (v := nI 0) hX dX7_goTo_45 (by decide) ?_
          exact h46 0 (if_neg (by omega))
        · try rw [nI_leI (by omega) (by omega)] at c30
          refine PW.aload_n hX dX7_goTo_33 rfl rfl ?_
          refine PW.getfield hX fl_X7_13 dX7_goTo_34 rfl rfl ?_
          refine PW.bipush (v := nI 20) hX dX7_goTo_37 (by decide) ?_
          refine PW.iload_n hX dX7_goTo_39 rfl rfl ?_
          refine PW.iadd hX dX7_goTo_40 ?_
          refine PW.top (show _ = nI (20 + k) from nI_add 20 k) ?_
          refine PW.iaload (k := 20 + k) hX dX7_goTo_41 rfl rfl rfl (by omega) ?_
          refine PW.goto (tgt := 46) hX dX7_goTo_42 (by decide) ?_
          exact h46 _ (if_pos (by omega))
  have nx := loopA 6 0 rfl
  simp only [Nat.not_lt_zero, if_false] at nx
  refine PW.aload_n hX dX7_goTo_0 rfl rfl ?_
  refine PW.iconst (v := nI 0) hX dX7_goTo_1 (by decide) ?_
  refine PW.putI hX fp_X7_113 dX7_goTo_2 rfl rfl ?_
  refine PW.aload_n hX dX7_goTo_5 rfl rfl ?_
  refine PW.iconst (v := nI 0) hX dX7_goTo_6 (by decide) ?_
  refine PW.putI hX fp_X7_116 dX7_goTo_7 rfl rfl ?_
  refine PW.iconst (v := nI 0) hX dX7_goTo_10 (by decide) ?_
  refine PW.istore_n hX dX7_goTo_11 rfl rfl ?_
  exact nx
