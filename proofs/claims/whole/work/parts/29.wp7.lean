/-! lots -/
def drw (z : Int32) : Int32 := z * 1664525 + 1013904223
def drV (z : Int32) : Nat := (z &&& 2147483647).toNatClampNeg / 256 % 60
theorem and31 (z : Int32) : ∃ k : Nat, k < 2 ^ 31 ∧ z &&& 2147483647 = nI k := pk_andE z 31 (by decide)
theorem drV_eq (z : Int32) : (z &&& 2147483647) / nI 256 - (z &&& 2147483647) / nI 256 / nI 60 * nI 60 = nI (drV z) := by
  obtain ⟨k, hk, e⟩ := and31 z
  unfold drV
  rw [e, nI_clamp hk, pk_div hk (by decide) (by decide), pk_rem (by omega) (by decide) (by decide)]
theorem drV_lt (z : Int32) : drV z < 60 := Nat.mod_lt _ (by decide)
/-- the draws of a day: the plan and the seed behind j jobs -/
def ltJ (Q : Pl) (z : Int32) : Nat → Pl × Int32
  | 0 => (Q, z)
  | j + 1 => (plSe (ltJ Q z j).1 j (drV (drw (ltJ Q z j).2)), drw (ltJ Q z j).2)
theorem ltJ_ok {Q : Pl} (h : PlOk Q) (z : Int32) : ∀ j, PlOk (ltJ Q z j).1 ∧ plnj (ltJ Q z j).1 = plnj Q
  | 0 => ⟨h, rfl⟩
  | j + 1 => ⟨plSe_ok (ltJ_ok h z j).1 (drV_lt _), (ltJ_ok h z j).2⟩
def ltD (W : Wp) (z : Int32) : Nat → Pl × Pr × Int32 × Nat
  | 0 => (plCp (wpD W) (wpP W), wpS W, z, 0)
  | n + 1 => ((ltJ (ltD W z n).1 (ltD W z n).2.2.1 (plnj (wpP W))).1, pDay (ltJ (ltD W z n).1 (ltD W z n).2.2.1 (plnj (wpP W))).1 (ltD W z n).2.1, (ltJ (ltD W z n).1 (ltD W z n).2.2.1 (plnj (wpP W))).2, (ltD W z n).2.2.2 + prmx (pDay (ltJ (ltD W z n).1 (ltD W z n).2.2.1 (plnj (wpP W))).1 (ltD W z n).2.1))
theorem ltD_ok (W : Wp) (wk : WpOk W) (z : Int32) : ∀ n, PlOk (ltD W z n).1 ∧ plnj (ltD W z n).1 = plnj (wpP W)
  | 0 => ⟨plCp_ok wk.1, rfl⟩
  | n + 1 => by
    obtain ⟨h1, h2⟩ := ltD_ok W wk z n
    have := ltJ_ok h1 (ltD W z n).2.2.1 (plnj (wpP W))
    exact ⟨this.1, this.2.trans h2⟩
def wLots (W : Wp) (x z : Int32) : Int32 × Wp := if x < nI 1 then (-4, rfu W 4) else if nI 20 < x then (-6, rfu W 6) else (nI (ltD W z x.toNatClampNeg).2.2.2, swS (swD W (ltD W z x.toNatClampNeg).1) (ltD W z x.toNatClampNeg).2.1)
theorem pm_lots (W : Wp) (wk : WpOk W) (x z : Int32) : PM mu_X6_lots 6 0 0 [.ref 0, .int x, .int z] (wpB W) (eqP (some (.int (wLots W x z).1)) (wpB (wLots W x z).2)) := by
  have o1 : plnj (wpP W) ≤ 6 := wk.1.1
  unfold wLots
  by_cases h0 : x < nI 1
  · rw [if_pos h0]
    refine PM.start (Or.inl (by decide +kernel)) rfl rfl rfl ?_
    intro X hX hR hx hin
    refine PW.iload_n hX dX6_lots_0 rfl rfl ?_
    refine PW.iconst (v := nI 1) hX dX6_lots_1 (by decide) ?_
    refine PW.icmp_ge (tgt := 12) hX dX6_lots_2 (by decide) (fun c2 => ?_) (fun c2 => ?_)
    · exact absurd h0 (i32_nlt.mpr c2) -- CLOSED
    · refine PW.aload_n hX dX6_lots_5 rfl rfl ?_
      refine PW.bipush (v := (-4)) hX dX6_lots_6 (by decide) ?_
      refine PW.vIi hX ml_X6_58 (pm_refuse W (-4) 4 (by decide) (by decide) (by decide)) dX6_lots_8 45 rfl rfl rfl rfl rfl rfl rfl rfl rfl rfl rfl rfl rfl rfl rfl ?_
      refine PW.iret hX hR dX6_lots_11 rfl rfl ?_
      exact ⟨rfl, rfl⟩
  · rw [if_neg h0]
    by_cases h1 : nI 20 < x
    · rw [if_pos h1]
      refine PM.start (Or.inl (by decide +kernel)) rfl rfl rfl ?_
      intro X hX hR hx hin
      refine PW.iload_n hX dX6_lots_0 rfl rfl ?_
      refine PW.iconst (v := nI 1) hX dX6_lots_1 (by decide) ?_
      refine PW.icmp_ge (tgt := 12) hX dX6_lots_2 (by decide) (fun c2 => ?_) (fun c2 => ?_)
      · refine PW.iload_n hX dX6_lots_12 rfl rfl ?_
        refine PW.bipush (v := nI 20) hX dX6_lots_13 (by decide) ?_
        refine PW.icmp_le (tgt := 25) hX dX6_lots_15 (by decide) (fun c15 => ?_) (fun c15 => ?_)
        · exact absurd h1 (i32_nlt.mpr c15) -- CLOSED
        · refine PW.aload_n hX dX6_lots_18 rfl rfl ?_
          refine PW.bipush (v := (-6)) hX dX6_lots_19 (by decide) ?_
          refine PW.vIi hX ml_X6_58 (pm_refuse W (-6) 6 (by decide) (by decide) (by decide)) dX6_lots_21 45 rfl rfl rfl rfl rfl rfl rfl rfl rfl rfl rfl rfl rfl rfl rfl ?_
          refine PW.iret hX hR dX6_lots_24 rfl rfl ?_
          exact ⟨rfl, rfl⟩
      · exact absurd (i32_nle.mp c2) h0 -- CLOSED
    · rw [if_neg h1]
      have hx0 : ¬ x < 0 := fun q => h0 (Int32.lt_of_lt_of_le q (by decide))
      obtain ⟨N, hN, rfl⟩ := nI_of hx0
      rw [nI_clamp hN]
      rw [nI_ltI hN (by omega)] at h0
      rw [nI_ltI (by omega) hN] at h1
      refine PM.start (Or.inl (by decide +kernel)) rfl rfl rfl ?_
      intro X hX hR hx hin
      have loop : ∀ n d : Nat, d + n = N → ∀ Z, Z = ltD W z d → PW X 44 [some (.ref 0), some (.int (nI N)), some (.int z), some (.int Z.2.2.1), some (.int (nI Z.2.2.2)), some (.int (nI d)), none] [] (wpB (swS (swD W Z.1) Z.2.1)) 0 0 := by
        intro n
        induction n with
        | zero =>
          intro d h2 Z hZ
          have e : d = N := by omega
          subst e
          rw [← hZ] at hR
          refine PW.iload hX dX6_lots_44 rfl ?_
          refine PW.iload_n hX dX6_lots_46 rfl rfl ?_
          refine PW.icmp_ge (tgt := 122) hX dX6_lots_47 (by decide) (fun c47 => ?_) (fun c47 => ?_)
          · try rw [nI_leI (by omega) (by omega)] at c47
            refine PW.iload hX dX6_lots_122 rfl ?_
            refine PW.iret hX hR dX6_lots_124 rfl rfl ?_
            exact ⟨rfl, rfl⟩
          · try rw [nI_leI (by omega) (by omega)] at c47
            exfalso; omega -- CLOSED
        | succ n ih =>
          intro d h2 Z hZ
          have nx := ih (d + 1) (by omega) _ rfl
          obtain ⟨b1, b2⟩ := ltD_ok W wk z d
          rw [ltD] at nx
          rw [← hZ] at nx b1 b2
          obtain ⟨Q, S, sd, sm⟩ := Z
          have b3 := ltJ_ok b1 sd (plnj (wpP W))
          dsimp only at nx b3
          have h100 : ∀ V, V = ltJ Q sd (plnj (wpP W)) → PW X 100 [some (.ref 0), some (.int (nI N)), some (.int z), some (.int V.2), some (.int (nI sm)), some (.int (nI d)), none] [] (wpB (swS (swD W V.1) S)) 0 0 := by
            intro V hV
            rw [← hV] at nx b3
            obtain ⟨Q2, sd2⟩ := V
            have cM : PM mu_X2_mixedIn 5 0 0 [.ref 0, .ref 2] (prB 0 S ++ plB 2 Q2) (eqP (some (.int (nI (prmx (pDay Q2 S))))) (prB 0 (pDay Q2 S) ++ plB 2 Q2)) := pm_mixedIn Q2 b3.1 S
            dsimp only at nx
            generalize pDay Q2 S = S2 at nx cM
            refine PW.iload hX dX6_lots_100 rfl ?_
            refine PW.aload_n hX dX6_lots_102 rfl rfl ?_
            refine PW.getfield hX fl_X6_32 dX6_lots_103 rfl rfl ?_
            refine PW.aload_n hX dX6_lots_106 rfl rfl ?_
            refine PW.getfield hX fl_X6_19 dX6_lots_107 rfl rfl ?_
            refine PW.vI hX ml_X6_173 (id cM) dX6_lots_110 [27, 28, 17, 18, 19, 20, 21, 22, 23, 24] (e1_SD (swS (swD W Q2) S)) rfl rfl rfl rfl rfl rfl rfl rfl rfl rfl rfl rfl rfl (eh_SD (swS (swD W Q2) S) _) ?_
            refine PW.iadd hX dX6_lots_113 ?_
            refine PW.top (nI_add _ _) ?_
            refine PW.istore hX dX6_lots_114 rfl ?_
            first | refine PW.iinc hX dX6_lots_116 rfl (iincN _) ?_ | refine PW.iinc hX dX6_lots_116 rfl rfl ?_
            refine PW.goto (tgt := 44) hX dX6_lots_119 (by decide) ?_
            exact nx
          have inner : ∀ n j : Nat, j + n = plnj (wpP W) → ∀ V, V = ltJ Q sd j → PW X 53 [some (.ref 0), some (.int (nI N)), some (.int z), some (.int V.2), some (.int (nI sm)), some (.int (nI d)), some (.int (nI j))] [] (wpB (swS (swD W V.1) S)) 0 0 := by
            intro n
            induction n with
            | zero =>
              intro j h3 V hV
              have e : j = plnj (wpP W) := by omega
              subst e
              have hj := h100 V hV
              have b4 := (ltJ_ok b1 sd (plnj (wpP W))).2.trans b2
              rw [← hV] at b4
              refine PW.iload hX dX6_lots_53 rfl ?_
              refine PW.aload_n hX dX6_lots_55 rfl rfl ?_
              refine PW.getfield hX fl_X6_19 dX6_lots_56 rfl rfl ?_
              refine PW.getfield hX fl_X6_220 dX6_lots_59 rfl rfl ?_
              refine PW.top (show _ = nI (plnj (wpP W)) from congrArg nI b4) ?_
              refine PW.icmp_ge (tgt := 100) hX dX6_lots_62 (by decide) (fun c62 => ?_) (fun c62 => ?_)
              · try rw [nI_leI (by omega) (by omega)] at c62
                refine PW.clr 6 ?_
                exact hj
              · try rw [nI_leI (by omega) (by omega)] at c62
                exfalso; omega -- CLOSED
            | succ n ihj =>
              intro j h3 V hV
              have nj := ihj (j + 1) (by omega) _ rfl
              have b4 := (ltJ_ok b1 sd j).2.trans b2
              rw [← hV] at b4
              rw [ltJ, ← hV] at nj
              obtain ⟨Q2, sd2⟩ := V
              dsimp only at nj
              refine PW.iload hX dX6_lots_53 rfl ?_
              refine PW.aload_n hX dX6_lots_55 rfl rfl ?_
              refine PW.getfield hX fl_X6_19 dX6_lots_56 rfl rfl ?_
              refine PW.getfield hX fl_X6_220 dX6_lots_59 rfl rfl ?_
              refine PW.top (show _ = nI (plnj (wpP W)) from congrArg nI b4) ?_
              refine PW.icmp_ge (tgt := 100) hX dX6_lots_62 (by decide) (fun c62 => ?_) (fun c62 => ?_)
              · try rw [nI_leI (by omega) (by omega)] at c62
                exfalso; omega -- CLOSED
              · try rw [nI_leI (by omega) (by omega)] at c62
                refine PW.iload_n hX dX6_lots_65 rfl rfl ?_
                refine PW.ldc (v := 1664525) hX dX6_lots_66 kc_X6_223 ?_
                refine PW.imul hX dX6_lots_68 ?_
                refine PW.ldc (v := 1013904223) hX dX6_lots_69 kc_X6_224 ?_
                refine PW.iadd hX dX6_lots_71 ?_
                refine PW.top (show _ = drw sd2 from rfl) ?_
                refine PW.istore_n hX dX6_lots_72 rfl rfl ?_
                refine PW.aload_n hX dX6_lots_73 rfl rfl ?_
                refine PW.getfield hX fl_X6_19 dX6_lots_74 rfl rfl ?_
                refine PW.getfield hX fl_X6_89 dX6_lots_77 rfl rfl ?_
                refine PW.iload hX dX6_lots_80 rfl ?_
                refine PW.iload_n hX dX6_lots_82 rfl rfl ?_
                refine PW.ldc (v := 2147483647) hX dX6_lots_83 kc_X6_225 ?_
                refine PW.iand hX dX6_lots_85 ?_
                refine PW.sipush (v := nI 256) hX dX6_lots_86 (by decide) ?_
                refine PW.idiv hX dX6_lots_89 (by decide) ?_
                refine PW.bipush (v := nI 60) hX dX6_lots_90 (by decide) ?_
                refine PW.irem hX dX6_lots_92 (by decide) ?_
                refine PW.top (drV_eq (drw sd2)) ?_
                refine PW.iastore hX dX6_lots_93 rfl rfl rfl (by omega) ?_
                refine PW.heap ((congrArg (fun f => (wpB (swS (swD W Q2) S)).set 20 (Sum.inl (0, 6, f))) (upd_nI (plse Q2) j (drV (drw sd2)))).trans (st_dsent (swS (swD W Q2) S) _)) ?_
                first | refine PW.iinc hX dX6_lots_94 rfl (iincN _) ?_ | refine PW.iinc hX dX6_lots_94 rfl rfl ?_
                refine PW.goto (tgt := 53) hX dX6_lots_97 (by decide) ?_
                exact nj
          have h53 := inner (plnj (wpP W)) 0 (by omega) _ rfl
          rw [ltJ] at h53
          refine PW.iload hX dX6_lots_44 rfl ?_
          refine PW.iload_n hX dX6_lots_46 rfl rfl ?_
          refine PW.icmp_ge (tgt := 122) hX dX6_lots_47 (by decide) (fun c47 => ?_) (fun c47 => ?_)
          · try rw [nI_leI (by omega) (by omega)] at c47
            exfalso; omega -- CLOSED
          · try rw [nI_leI (by omega) (by omega)] at c47
            refine PW.iconst (v := nI 0) hX dX6_lots_50 (by decide) ?_
            refine PW.istore hX dX6_lots_51 rfl ?_
            exact h53
      have h44 := loop N 0 (by omega) _ rfl
      rw [ltD] at h44
      refine PW.iload_n hX dX6_lots_0 rfl rfl ?_
      refine PW.iconst (v := nI 1) hX dX6_lots_1 (by decide) ?_
      refine PW.icmp_ge (tgt := 12) hX dX6_lots_2 (by decide) (fun c2 => ?_) (fun c2 => ?_)
      · try rw [nI_leI (by omega) (by omega)] at c2
        refine PW.iload_n hX dX6_lots_12 rfl rfl ?_
        refine PW.bipush (v := nI 20) hX dX6_lots_13 (by decide) ?_
        refine PW.icmp_le (tgt := 25) hX dX6_lots_15 (by decide) (fun c15 => ?_) (fun c15 => ?_)
        · try rw [nI_leI (by omega) (by omega)] at c15
          refine PW.aload_n hX dX6_lots_25 rfl rfl ?_
          refine PW.getfield hX fl_X6_19 dX6_lots_26 rfl rfl ?_
          refine PW.aload_n hX dX6_lots_29 rfl rfl ?_
          refine PW.getfield hX fl_X6_12 dX6_lots_30 rfl rfl ?_
          refine PW.vV hX ml_X6_177 (pm_copyFrom (wpD W) (wpP W)) dX6_lots_33 [17, 18, 19, 20, 21, 22, 23, 24, 1, 2, 3, 4, 5, 6, 7, 8] (e1_DP W) rfl rfl rfl rfl rfl rfl rfl rfl rfl rfl rfl rfl rfl (eh_DP W _) ?_
          refine PW.iload_n hX dX6_lots_36 rfl rfl ?_
          refine PW.istore_n hX dX6_lots_37 rfl rfl ?_
          refine PW.iconst (v := nI 0) hX dX6_lots_38 (by decide) ?_
          refine PW.istore hX dX6_lots_39 rfl ?_
          refine PW.iconst (v := nI 0) hX dX6_lots_41 (by decide) ?_
          refine PW.istore hX dX6_lots_42 rfl ?_
          exact h44
        · try rw [nI_leI (by omega) (by omega)] at c15
          exfalso; omega -- CLOSED
      · try rw [nI_leI (by omega) (by omega)] at c2
        exfalso; omega -- CLOSED
/-! seen -/
def lkA (R : Rw) (T : Ty) : Bool := decide (rwn R = tyn T ∧ ∀ i, i < tyn T → tysh T (tyn T - 1 - i) = rwnu R i)
def snS (W : Wp) : Nat → Nat × Option Nat
  | 0 => (0, none)
  | m + 1 => bif lkA (wpR W) (dyty (dRun (wpP W) (wpY W) (m + 1))) then ((snS W m).1 + 1, (match (snS W m).2 with | none => some m | some x => some x)) else snS W m
def wSeen (W : Wp) (y : Int32) : Int32 × Wp := if y = nI 0 then (nI (snS W 100).1, swY W (dAll W)) else if y = nI 1 then (oI (snS W 100).2, swY W (dAll W)) else (-2, rfu W 2)
theorem snS_lt (W : Wp) : ∀ m x, (snS W m).2 = some x → x < m
  | 0, x, h => by cases h
  | m + 1, x, h => by
    rw [snS] at h
    cases hb : lkA (wpR W) (dyty (dRun (wpP W) (wpY W) (m + 1))) with
    | false => rw [hb] at h; have := snS_lt W m x h; omega
    | true =>
      rw [hb] at h
      have h : (match (snS W m).2 with | none => some m | some x => some x) = some x := h
      cases hq : (snS W m).2 with
      | none => rw [hq] at h; cases h; omega
      | some z => rw [hq] at h; cases h; have := snS_lt W m x hq; omega
theorem pm_seen (W : Wp) (wk : WpOk W) (y : Int32) : PM mu_X6_seen 8 0 0 [.ref 0, .int y] (wpB W) (eqP (some (.int (wSeen W y).1)) (wpB (wSeen W y).2)) := by
  unfold wSeen
  refine PM.start (Or.inl (by decide +kernel)) rfl rfl rfl ?_
  intro X hX hR hx hin
  have loop : (y = nI 0 ∨ y = nI 1) → ∀ n m : Nat, m + n = 100 → ∀ Z Q, Z = snS W m → Q = dRun (wpP W) (wpY W) m → PW X 33 [some (.ref 0), some (.int y), some (.int (nI Z.1)), some (.int (oI Z.2)), some (.int (nI m))] [] (wpB (swY W Q)) 0 0 := by
    intro hy n
    induction n with
    | zero =>
      intro m h1 Z Q hZ hQ
      have e : m = 100 := by omega
      subst e
      have hQ : Q = dAll W := hQ
      rw [← hZ, ← hQ] at hR
      refine PW.iload hX dX6_seen_33 rfl ?_
      refine PW.bipush (v := nI 100) hX dX6_seen_35 (by decide) ?_
      refine PW.icmp_ge (tgt := 92) hX dX6_seen_37 (by decide) (fun c37 => ?_) (fun c37 => ?_)
      · try rw [nI_leI (by omega) (by omega)] at c37
        refine PW.iload_n hX dX6_seen_92 rfl rfl ?_
        refine PW.if_ne (tgt := 100) hX dX6_seen_93 (by decide) (fun c93 => ?_) (fun c93 => ?_)
        · first | rw [bI_d0] at c93 | rw [bI_eq0] at c93 | rw [nI_eq0 (by omega)] at c93 | skip
          refine PW.iload_n hX dX6_seen_100 rfl rfl ?_
          refine PW.iret hX hR dX6_seen_101 rfl rfl ?_
          rw [if_neg (show ¬ y = nI 0 from c93), if_pos (hy.resolve_left c93)]
          exact ⟨rfl, rfl⟩
        · first | rw [bI_d0] at c93 | rw [bI_eq0] at c93 | rw [nI_eq0 (by omega)] at c93 | skip
          refine PW.iload_n hX dX6_seen_96 rfl rfl ?_
          refine PW.goto (tgt := 101) hX dX6_seen_97 (by decide) ?_
          refine PW.iret hX hR dX6_seen_101 rfl rfl ?_
          rw [if_pos (show y = nI 0 from c93)]
          exact ⟨rfl, rfl⟩
      · try rw [nI_leI (by omega) (by omega)] at c37
        exfalso; omega -- CLOSED
    | succ n ih =>
      intro m h1 Z Q hZ hQ
      have hx := snS_lt W m
      have dk := dRun_ok wk.1 (wpY W) m (by omega)
      have cM := pm_passMinute (wpP W) wk.1 (dRun (wpP W) (wpY W) m) m (by omega) dk
      have nx := fun Z' (h : Z' = snS W (m + 1)) => ih (m + 1) (by omega) Z' _ h rfl
      rw [snS] at nx
      rw [dRun] at nx
      have d2 := dMin_ok wk.1 (by omega) dk
      rw [← hQ] at cM nx d2
      rw [← hZ] at nx hx
      generalize dMin (wpP W) Q m = Q2 at cM nx d2
      have cL := pm_looksAs (dyty Q2) d2.2.1.1 (fun i hi => by have := isSh_lt wk.1 (d2.2.1.2 i hi); omega) (wpR W) wk.2.2.2
      have cL : PM mu_X5_looksAs 1 0 0 [.ref 0, .ref 3] (tyB 0 (dyty Q2) ++ rwB 3 (wpR W)) (eqP (some (.int (bI (lkA (wpR W) (dyty Q2))))) (tyB 0 (dyty Q2) ++ rwB 3 (wpR W))) := cL
      obtain ⟨tm, fi⟩ := Z
      cases hb : lkA (wpR W) (dyty Q2) with
      | false =>
        rw [hb] at cL nx
        have nx := nx _ rfl
        refine PW.iload hX dX6_seen_33 rfl ?_
        refine PW.bipush (v := nI 100) hX dX6_seen_35 (by decide) ?_
        refine PW.icmp_ge (tgt := 92) hX dX6_seen_37 (by decide) (fun c37 => ?_) (fun c37 => ?_)
        · try rw [nI_leI (by omega) (by omega)] at c37
          exfalso; omega -- CLOSED
        · try rw [nI_leI (by omega) (by omega)] at c37
          refine PW.aload_n hX dX6_seen_40 rfl rfl ?_
          refine PW.getfield hX fl_X6_39 dX6_seen_41 rfl rfl ?_
          refine PW.aload_n hX dX6_seen_44 rfl rfl ?_
          refine PW.getfield hX fl_X6_12 dX6_seen_45 rfl rfl ?_
          refine PW.iload hX dX6_seen_48 rfl ?_
          refine PW.vV hX ml_X6_207 (id cM) dX6_seen_50 [29, 30, 31, 32, 33, 34, 35, 36, 37, 38, 1, 2, 3, 4, 5, 6, 7, 8] (e1_YP (swY W Q)) rfl rfl rfl rfl rfl rfl rfl rfl rfl rfl rfl rfl rfl (eh_YP (swY W Q) _) ?_
          refine PW.aload_n hX dX6_seen_53 rfl rfl ?_
          refine PW.getfield hX fl_X6_39 dX6_seen_54 rfl rfl ?_
          refine PW.getfield hX fl_X6_140 dX6_seen_57 rfl rfl ?_
          refine PW.aload_n hX dX6_seen_60 rfl rfl ?_
          refine PW.getfield hX fl_X6_46 dX6_seen_61 rfl rfl ?_
          refine PW.vR hX ml_X6_210 (id cL) dX6_seen_64 [32, 33, 34, 39, 40, 41, 42, 43] (e1_TYR (swY (swY W Q) Q2)) rfl rfl rfl rfl rfl rfl rfl rfl rfl rfl rfl rfl ?_
          refine PW.if_eq (tgt := 86) hX dX6_seen_67 (by decide) (fun c67 => ?_) (fun c67 => ?_)
          · first | rw [bI_d0] at c67 | rw [bI_eq0] at c67 | rw [nI_eq0 (by omega)] at c67 | skip
            first | refine PW.iinc hX dX6_seen_86 rfl (iincN _) ?_ | refine PW.iinc hX dX6_seen_86 rfl rfl ?_
            refine PW.goto (tgt := 33) hX dX6_seen_89 (by decide) ?_
            exact nx
          · first | rw [bI_d0] at c67 | rw [bI_eq0] at c67 | rw [nI_eq0 (by omega)] at c67 | skip
            exact absurd rfl c67 -- CLOSED
      | true =>
        rw [hb] at cL nx
        have nx := nx _ rfl
        cases hf : fi with
        | none =>
          subst hf
          refine PW.iload hX dX6_seen_33 rfl ?_
          refine PW.bipush (v := nI 100) hX dX6_seen_35 (by decide) ?_
          refine PW.icmp_ge (tgt := 92) hX dX6_seen_37 (by decide) (fun c37 => ?_) (fun c37 => ?_)
          · try rw [nI_leI (by omega) (by omega)] at c37
            exfalso; omega -- CLOSED
          · try rw [nI_leI (by omega) (by omega)] at c37
            refine PW.aload_n hX dX6_seen_40 rfl rfl ?_
            refine PW.getfield hX fl_X6_39 dX6_seen_41 rfl rfl ?_
            refine PW.aload_n hX dX6_seen_44 rfl rfl ?_
            refine PW.getfield hX fl_X6_12 dX6_seen_45 rfl rfl ?_
            refine PW.iload hX dX6_seen_48 rfl ?_
            refine PW.vV hX ml_X6_207 (id cM) dX6_seen_50 [29, 30, 31, 32, 33, 34, 35, 36, 37, 38, 1, 2, 3, 4, 5, 6, 7, 8] (e1_YP (swY W Q)) rfl rfl rfl rfl rfl rfl rfl rfl rfl rfl rfl rfl rfl (eh_YP (swY W Q) _) ?_
            refine PW.aload_n hX dX6_seen_53 rfl rfl ?_
            refine PW.getfield hX fl_X6_39 dX6_seen_54 rfl rfl ?_
            refine PW.getfield hX fl_X6_140 dX6_seen_57 rfl rfl ?_
            refine PW.aload_n hX dX6_seen_60 rfl rfl ?_
            refine PW.getfield hX fl_X6_46 dX6_seen_61 rfl rfl ?_
            refine PW.vR hX ml_X6_210 (id cL) dX6_seen_64 [32, 33, 34, 39, 40, 41, 42, 43] (e1_TYR (swY (swY W Q) Q2)) rfl rfl rfl rfl rfl rfl rfl rfl rfl rfl rfl rfl ?_
            refine PW.if_eq (tgt := 86) hX dX6_seen_67 (by decide) (fun c67 => ?_) (fun c67 => ?_)
            · first | rw [bI_d0] at c67 | rw [bI_eq0] at c67 | rw [nI_eq0 (by omega)] at c67 | skip
              exact absurd c67 (by decide) -- CLOSED
            · first | rw [bI_d0] at c67 | rw [bI_eq0] at c67 | rw [nI_eq0 (by omega)] at c67 | skip
              first | refine PW.iinc hX dX6_seen_70 rfl (iincN _) ?_ | refine PW.iinc hX dX6_seen_70 rfl rfl ?_
              refine PW.iload_n hX dX6_seen_73 rfl rfl ?_
              refine PW.bipush (v := (-9)) hX dX6_seen_74 (by decide) ?_
              refine PW.icmp_ne (tgt := 84) hX dX6_seen_76 (by decide) (fun c76 => ?_) (fun c76 => ?_)
              · first | rw [nI_eq (by omega) (by omega)] at c76 | rw [oI_eq9] at c76 | skip
                exact absurd trivial c76 -- CLOSED
              · first | rw [nI_eq (by omega) (by omega)] at c76 | rw [oI_eq9] at c76 | skip
                refine PW.iload hX dX6_seen_79 rfl ?_
                refine PW.goto (tgt := 85) hX dX6_seen_81 (by decide) ?_
                refine PW.istore_n hX dX6_seen_85 rfl rfl ?_
                first | refine PW.iinc hX dX6_seen_86 rfl (iincN _) ?_ | refine PW.iinc hX dX6_seen_86 rfl rfl ?_
                refine PW.goto (tgt := 33) hX dX6_seen_89 (by decide) ?_
                exact nx
        | some z =>
          subst hf
          have hz := hx z rfl
          refine PW.iload hX dX6_seen_33 rfl ?_
          refine PW.bipush (v := nI 100) hX dX6_seen_35 (by decide) ?_
          refine PW.icmp_ge (tgt := 92) hX dX6_seen_37 (by decide) (fun c37 => ?_) (fun c37 => ?_)
          · try rw [nI_leI (by omega) (by omega)] at c37
            exfalso; omega -- CLOSED
          · try rw [nI_leI (by omega) (by omega)] at c37
            refine PW.aload_n hX dX6_seen_40 rfl rfl ?_
            refine PW.getfield hX fl_X6_39 dX6_seen_41 rfl rfl ?_
            refine PW.aload_n hX dX6_seen_44 rfl rfl ?_
            refine PW.getfield hX fl_X6_12 dX6_seen_45 rfl rfl ?_
            refine PW.iload hX dX6_seen_48 rfl ?_
            refine PW.vV hX ml_X6_207 (id cM) dX6_seen_50 [29, 30, 31, 32, 33, 34, 35, 36, 37, 38, 1, 2, 3, 4, 5, 6, 7, 8] (e1_YP (swY W Q)) rfl rfl rfl rfl rfl rfl rfl rfl rfl rfl rfl rfl rfl (eh_YP (swY W Q) _) ?_
            refine PW.aload_n hX dX6_seen_53 rfl rfl ?_
            refine PW.getfield hX fl_X6_39 dX6_seen_54 rfl rfl ?_
            refine PW.getfield hX fl_X6_140 dX6_seen_57 rfl rfl ?_
            refine PW.aload_n hX dX6_seen_60 rfl rfl ?_
            refine PW.getfield hX fl_X6_46 dX6_seen_61 rfl rfl ?_
            refine PW.vR hX ml_X6_210 (id cL) dX6_seen_64 [32, 33, 34, 39, 40, 41, 42, 43] (e1_TYR (swY (swY W Q) Q2)) rfl rfl rfl rfl rfl rfl rfl rfl rfl rfl rfl rfl ?_
            refine PW.if_eq (tgt := 86) hX dX6_seen_67 (by decide) (fun c67 => ?_) (fun c67 => ?_)
            · first | rw [bI_d0] at c67 | rw [bI_eq0] at c67 | rw [nI_eq0 (by omega)] at c67 | skip
              exact absurd c67 (by decide) -- CLOSED
            · first | rw [bI_d0] at c67 | rw [bI_eq0] at c67 | rw [nI_eq0 (by omega)] at c67 | skip
              first | refine PW.iinc hX dX6_seen_70 rfl (iincN _) ?_ | refine PW.iinc hX dX6_seen_70 rfl rfl ?_
              refine PW.iload_n hX dX6_seen_73 rfl rfl ?_
              refine PW.bipush (v := (-9)) hX dX6_seen_74 (by decide) ?_
              refine PW.icmp_ne (tgt := 84) hX dX6_seen_76 (by decide) (fun c76 => ?_) (fun c76 => ?_)
              · first | rw [nI_eq (by omega) (by omega)] at c76 | rw [oI_eq9] at c76 | skip
                refine PW.iload_n hX dX6_seen_84 rfl rfl ?_
                refine PW.istore_n hX dX6_seen_85 rfl rfl ?_
                first | refine PW.iinc hX dX6_seen_86 rfl (iincN _) ?_ | refine PW.iinc hX dX6_seen_86 rfl rfl ?_
                refine PW.goto (tgt := 33) hX dX6_seen_89 (by decide) ?_
                exact nx
              · first | rw [nI_eq (by omega) (by omega)] at c76 | rw [oI_eq9] at c76 | skip
                exact absurd c76 (nI_ne9 (by omega)) -- CLOSED
  refine PW.iload_n hX dX6_seen_0 rfl rfl ?_
  refine PW.sR hX ml_X6_124 (pm_isZeroOrOne y) dX6_seen_1 rfl rfl rfl rfl rfl rfl ?_
  refine PW.if_ne (tgt := 14) hX dX6_seen_4 (by decide) (fun c4 => ?_) (fun c4 => ?_)
  · first | rw [bI_d0] at c4 | rw [bI_eq0] at c4 | rw [nI_eq0 (by omega)] at c4 | skip
    rw [Classical.not_not] at c4
    have h33 := loop c4 100 0 rfl (0, none) (dBeg (wpP W) (wpY W)) rfl rfl
    refine PW.iconst (v := nI 0) hX dX6_seen_14 (by decide) ?_
    refine PW.istore_n hX dX6_seen_15 rfl rfl ?_
    refine PW.bipush (v := (-9)) hX dX6_seen_16 (by decide) ?_
    refine PW.istore_n hX dX6_seen_18 rfl rfl ?_
    refine PW.aload_n hX dX6_seen_19 rfl rfl ?_
    refine PW.getfield hX fl_X6_39 dX6_seen_20 rfl rfl ?_
    refine PW.aload_n hX dX6_seen_23 rfl rfl ?_
    refine PW.getfield hX fl_X6_12 dX6_seen_24 rfl rfl ?_
    refine PW.vV hX ml_X6_204 (pm_dbegin (wpP W) wk.1 (wpY W)) dX6_seen_27 [29, 30, 31, 32, 33, 34, 35, 36, 37, 38, 1, 2, 3, 4, 5, 6, 7, 8] (e1_YP W) rfl rfl rfl rfl rfl rfl rfl rfl rfl rfl rfl rfl rfl (eh_YP W _) ?_
    refine PW.iconst (v := nI 0) hX dX6_seen_30 (by decide) ?_
    refine PW.istore hX dX6_seen_31 rfl ?_
    exact h33
  · first | rw [bI_d0] at c4 | rw [bI_eq0] at c4 | rw [nI_eq0 (by omega)] at c4 | skip
    refine PW.aload_n hX dX6_seen_7 rfl rfl ?_
    refine PW.bipush (v := (-2)) hX dX6_seen_8 (by decide) ?_
    refine PW.vIi hX ml_X6_58 (pm_refuse W (-2) 2 (by decide) (by decide) (by decide)) dX6_seen_10 45 rfl rfl rfl rfl rfl rfl rfl rfl rfl rfl rfl rfl rfl rfl rfl ?_
    refine PW.iret hX hR dX6_seen_13 rfl rfl ?_
    rw [if_neg (fun q => c4 (Or.inl q)), if_neg (fun q => c4 (Or.inr q))]
    exact ⟨rfl, rfl⟩
