def tellB (Z : Te) (Q : Pl) : Bool := if tehd Z = 106 then okJ Q (teow Z).toNatClampNeg (tefi Z).toNatClampNeg (temi Z).toNatClampNeg else if tehd Z = 116 then okT Q (teow Z).toNatClampNeg (temi Z).toNatClampNeg else true
def tellP (Z : Te) (Q : Pl) : Pl := if tehd Z = 106 then (bif okJ Q (teow Z).toNatClampNeg (tefi Z).toNatClampNeg (temi Z).toNatClampNeg then plAddJ Q (teow Z).toNatClampNeg (tefi Z).toNatClampNeg (temi Z).toNatClampNeg else Q) else if tehd Z = 116 then (bif okT Q (teow Z).toNatClampNeg (temi Z).toNatClampNeg then plAddT Q (teki Z).toNatClampNeg (teow Z).toNatClampNeg (tefi Z).toNatClampNeg (temi Z).toNatClampNeg else Q) else plMac Q (teki Z).toNatClampNeg (tefi Z).toNatClampNeg
def IsSt (Z : Te) : Prop := (∃ o f m, o < 10 ∧ f < 10 ∧ m < 100 ∧ ∃ le n p ki, Z = (le, n, p, 106, ki, nI o, nI f, nI m)) ∨ (∃ k f, k < 6 ∧ f < 10 ∧ ∃ le n p ow mi, Z = (le, n, p, 109, nI k, ow, nI f, mi)) ∨ (∃ k o f m, k < 6 ∧ o < 10 ∧ f < 10 ∧ m < 100 ∧ ∃ le n p, Z = (le, n, p, 116, nI k, nI o, nI f, nI m))
theorem rSt_is {T : Te} (h : (rSt T).1 = true) : IsSt (rSt T).2 := by
  rcases rSt_v h with ⟨o, f, m, p, h1, h2, h3, e⟩ | ⟨k, f, p, h1, h2, e⟩ | ⟨k, o, f, m, p, h0, h1, h2, h3, e⟩
  · exact Or.inl ⟨o, f, m, h1, h2, h3, _, _, _, _, e⟩
  · exact Or.inr (Or.inl ⟨k, f, h1, h2, _, _, _, _, _, e⟩)
  · exact Or.inr (Or.inr ⟨k, o, f, m, h0, h1, h2, h3, _, _, _, e⟩)
theorem pm_tell (Q : Pl) (ok : PlOk Q) (Z : Te) (hz : IsSt Z) : PM mu_X4_tellTo 2 0 0 [.ref 0, .ref 2] (teB 0 Z ++ plB 2 Q) (eqP (some (.int (bI (tellB Z Q)))) (teB 0 Z ++ plB 2 (tellP Z Q))) := by
  rcases hz with ⟨o, f, m, h1, h2, h3, le, n, p, ki, rfl⟩ | ⟨k, f, h1, h2, le, n, p, ow, mi, rfl⟩ | ⟨k, o, f, m, h0, h1, h2, h3, le, n, p, rfl⟩
  · have e1 : tellB (le, n, p, 106, ki, nI o, nI f, nI m) Q = okJ Q o f m := by unfold tellB; rw [if_pos rfl]; show okJ Q (nI o).toNatClampNeg (nI f).toNatClampNeg (nI m).toNatClampNeg = _; rw [nI_clamp (by omega), nI_clamp (by omega), nI_clamp (by omega)]
    have e2 : tellP (le, n, p, 106, ki, nI o, nI f, nI m) Q = (bif okJ Q o f m then plAddJ Q o f m else Q) := by unfold tellP; rw [if_pos rfl]; show (bif okJ Q (nI o).toNatClampNeg (nI f).toNatClampNeg (nI m).toNatClampNeg then plAddJ Q (nI o).toNatClampNeg (nI f).toNatClampNeg (nI m).toNatClampNeg else Q) = _; rw [nI_clamp (by omega), nI_clamp (by omega), nI_clamp (by omega)]
    rw [e1, e2]
    exact pm_tellJ Q ok le n p ki o f m h1 h2 h3
  · have e1 : tellB (le, n, p, 109, nI k, ow, nI f, mi) Q = true := by unfold tellB; rw [if_neg (show ¬ (109 : Nat) = 106 by decide), if_neg (show ¬ (109 : Nat) = 116 by decide)]
    have e2 : tellP (le, n, p, 109, nI k, ow, nI f, mi) Q = plMac Q k f := by unfold tellP; rw [if_neg (show ¬ (109 : Nat) = 106 by decide), if_neg (show ¬ (109 : Nat) = 116 by decide)]; show plMac Q (nI k).toNatClampNeg (nI f).toNatClampNeg = _; rw [nI_clamp (by omega), nI_clamp (by omega)]
    rw [e1, e2]
    exact pm_tellM Q le n p k f ow mi
  · have e1 : tellB (le, n, p, 116, nI k, nI o, nI f, nI m) Q = okT Q o m := by unfold tellB; rw [if_neg (show ¬ (116 : Nat) = 106 by decide), if_pos rfl]; show okT Q (nI o).toNatClampNeg (nI m).toNatClampNeg = _; rw [nI_clamp (by omega), nI_clamp (by omega)]
    have e2 : tellP (le, n, p, 116, nI k, nI o, nI f, nI m) Q = (bif okT Q o m then plAddT Q k o f m else Q) := by unfold tellP; rw [if_neg (show ¬ (116 : Nat) = 106 by decide), if_pos rfl]; show (bif okT Q (nI o).toNatClampNeg (nI m).toNatClampNeg then plAddT Q (nI k).toNatClampNeg (nI o).toNatClampNeg (nI f).toNatClampNeg (nI m).toNatClampNeg else Q) = _; rw [nI_clamp (by omega), nI_clamp (by omega), nI_clamp (by omega), nI_clamp (by omega)]
    rw [e1, e2]
    exact pm_tellT Q ok le n p k o f m h1 h3
theorem tellP_ok {Q : Pl} (ok : PlOk Q) {Z : Te} (hz : IsSt Z) : PlOk (tellP Z Q) := by
  rcases hz with ⟨o, f, m, h1, h2, h3, le, n, p, ki, rfl⟩ | ⟨k, f, h1, h2, le, n, p, ow, mi, rfl⟩ | ⟨k, o, f, m, h0, h1, h2, h3, le, n, p, rfl⟩
  · have e2 : tellP (le, n, p, 106, ki, nI o, nI f, nI m) Q = (bif okJ Q o f m then plAddJ Q o f m else Q) := by unfold tellP; rw [if_pos rfl]; show (bif okJ Q (nI o).toNatClampNeg (nI f).toNatClampNeg (nI m).toNatClampNeg then plAddJ Q (nI o).toNatClampNeg (nI f).toNatClampNeg (nI m).toNatClampNeg else Q) = _; rw [nI_clamp (by omega), nI_clamp (by omega), nI_clamp (by omega)]
    rw [e2]
    cases hb : okJ Q o f m with
    | false => exact ok
    | true =>
      simp only [okJ, decide_eq_true_eq] at hb
      obtain ⟨k1, k2, k3, k4, k5, k6⟩ := ok
      refine ⟨show plnj Q + 1 ≤ 6 by omega, k2, k3, k4, fun j hj => ?_, k6⟩
      have hj : j < plnj Q + 1 := hj
      show va_up (plow Q) (plnj Q) o j < 4 ∧ 1 ≤ va_up (plsh Q) (plnj Q) f j ∧ va_up (plsh Q) (plnj Q) f j ≤ 9 ∧ va_up (plse Q) (plnj Q) m j < 60
      by_cases e : j = plnj Q
      · rw [e, va_up_self, va_up_self, va_up_self]; omega
      · rw [va_up_ne _ _ e, va_up_ne _ _ e, va_up_ne _ _ e]; exact k5 j (by omega)
  · have e2 : tellP (le, n, p, 109, nI k, ow, nI f, mi) Q = plMac Q k f := by unfold tellP; rw [if_neg (show ¬ (109 : Nat) = 106 by decide), if_neg (show ¬ (109 : Nat) = 116 by decide)]; show plMac Q (nI k).toNatClampNeg (nI f).toNatClampNeg = _; rw [nI_clamp (by omega), nI_clamp (by omega)]
    rw [e2]
    exact plMac_ok ok h1 (by omega)
  · have e2 : tellP (le, n, p, 116, nI k, nI o, nI f, nI m) Q = (bif okT Q o m then plAddT Q k o f m else Q) := by unfold tellP; rw [if_neg (show ¬ (116 : Nat) = 106 by decide), if_pos rfl]; show (bif okT Q (nI o).toNatClampNeg (nI m).toNatClampNeg then plAddT Q (nI k).toNatClampNeg (nI o).toNatClampNeg (nI f).toNatClampNeg (nI m).toNatClampNeg else Q) = _; rw [nI_clamp (by omega), nI_clamp (by omega), nI_clamp (by omega), nI_clamp (by omega)]
    rw [e2]
    cases hb : okT Q o m with
    | false => exact ok
    | true =>
      simp only [okT, decide_eq_true_eq] at hb
      obtain ⟨k1, k2, k3, k4, k5, k6⟩ := ok
      refine ⟨k1, show plnt Q + 1 ≤ 6 by omega, k3, k4, k5, fun j hj => ?_⟩
      have hj : j < plnt Q + 1 := hj
      show va_up (pltk Q) (plnt Q) k j < 6 ∧ va_up (pltw Q) (plnt Q) o j < 4 ∧ va_up (pltf Q) (plnt Q) f j ≤ 9 ∧ va_up (pltm Q) (plnt Q) m j < 100
      by_cases e : j = plnt Q
      · rw [e, va_up_self, va_up_self, va_up_self, va_up_self]; omega
      · rw [va_up_ne _ _ e, va_up_ne _ _ e, va_up_ne _ _ e, va_up_ne _ _ e]; exact k6 j (by omega)
theorem tellP_f {Q : Pl} {Z : Te} (h : tellB Z Q = false) : tellP Z Q = Q := by
  unfold tellB at h
  unfold tellP
  split
  · rename_i q; rw [if_pos q] at h; rw [h]; rfl
  · rename_i q
    rw [if_neg q] at h
    split
    · rename_i q2; rw [if_pos q2] at h; rw [h]; rfl
    · rename_i q2; rw [if_neg q2] at h; cases h
/-- the statements are told: the answer, text and draft, whether all was well -/
def tsL : Nat → Nat → Te → Pl → Int32 × Te × Pl × Bool
  | 0, st, T, Q => (nI st, T, Q, true)
  | n + 1, st, T, Q => if tepl T < ten T then (bif (rSt T).1 && tellB (rSt T).2 Q then tsL n (st + 1) (rSt T).2 (tellP (rSt T).2 Q) else (-2000 - nI (tepl T), (rSt T).2, Q, false)) else (nI st, T, Q, true)
def tsW (W : Wp) : Int32 × Te × Pl × Bool := tsL 80 0 (teP (wpT W) 0) (plCp (wpD W) (wpP W))
def wTell (W : Wp) : Int32 × Wp := ((tsW W).1, bif (tsW W).2.2.2 then swP (swD (swT W (tsW W).2.1) (tsW W).2.2.1) (plCp (wpP W) (tsW W).2.2.1) else swD (swT W (tsW W).2.1) (tsW W).2.2.1)
theorem st_pl (W : Wp) (x : Nat) : (wpB W).set 25 (.inr (4, [.ref (25 + 1), .int (nI (ten (wpT W))), .int (nI x), .int (nI (tehd (wpT W))), .int (teki (wpT W)), .int (teow (wpT W)), .int (tefi (wpT W)), .int (temi (wpT W))])) = wpB (swT W (teP (wpT W) x)) := rfl
theorem pm_tellStatements (W : Wp) (wk : WpOk W) : PM mu_X6_tellStatements 6 0 0 [.ref 0] (wpB W) (eqP (some (.int (wTell W).1)) (wpB (wTell W).2)) := by
  have tr0 : TeR (teP (wpT W) 0) := ⟨wk.2.2.1.1, Nat.zero_le _, wk.2.2.1.2⟩
  have q0 := plCp_ok (P := wpD W) wk.1
  unfold wTell
  refine PM.start (Or.inl (by decide +kernel)) rfl rfl rfl ?_
  intro X hX hR hx hin
  have h88 : ∀ (st : Nat) (T : Te) (Q : Pl), tsW W = (nI st, T, Q, true) → PW X 88 [some (.ref 0), some (.int (nI st)), none] [] (wpB (swD (swT W T) Q)) 0 0 := by
    intro st T Q h
    rw [h] at hR
    refine PW.aload_n hX dX6_tellStatements_88 rfl rfl ?_
    refine PW.getfield hX fl_X6_12 dX6_tellStatements_89 rfl rfl ?_
    refine PW.aload_n hX dX6_tellStatements_92 rfl rfl ?_
    refine PW.getfield hX fl_X6_19 dX6_tellStatements_93 rfl rfl ?_
    refine PW.vV hX ml_X6_177 (pm_copyFrom (wpP W) Q) dX6_tellStatements_96 [1, 2, 3, 4, 5, 6, 7, 8, 17, 18, 19, 20, 21, 22, 23, 24] (e1_PD (swD (swT W T) Q)) rfl rfl rfl rfl rfl rfl rfl rfl rfl rfl rfl rfl rfl (eh_PD (swD (swT W T) Q) _) ?_
    refine PW.iload_n hX dX6_tellStatements_99 rfl rfl ?_
    refine PW.iret hX hR dX6_tellStatements_100 rfl rfl ?_
    exact ⟨rfl, rfl⟩
  have loop : ∀ (n st : Nat) (T : Te) (Q : Pl), st + n = 80 → TeR T → PlOk Q → tsW W = tsL n st T Q → PW X 21 [some (.ref 0), some (.int (nI st)), none] [] (wpB (swD (swT W T) Q)) 0 0 := by
    intro n
    induction n with
    | zero =>
      intro st T Q h1 h2 h3 h4
      have h9 := h88 st T Q h4
      refine PW.iload_n hX dX6_tellStatements_21 rfl rfl ?_
      refine PW.bipush (v := nI 80) hX dX6_tellStatements_22 (by decide) ?_
      refine PW.icmp_ge (tgt := 88) hX dX6_tellStatements_24 (by decide) (fun c24 => ?_) (fun c24 => ?_)
      · try rw [nI_leI (by omega) (by omega)] at c24
        exact h9
      · try rw [nI_leI (by omega) (by omega)] at c24
        exfalso; omega -- CLOSED
    | succ n ih =>
      intro st T Q h1 h2 h3 h4
      rw [show tsL (n + 1) st T Q = if tepl T < ten T then (bif (rSt T).1 && tellB (rSt T).2 Q then tsL n (st + 1) (rSt T).2 (tellP (rSt T).2 Q) else (-2000 - nI (tepl T), (rSt T).2, Q, false)) else (nI st, T, Q, true) from rfl] at h4
      have t1 := h2.1
      have t2 := h2.2.1
      by_cases hp : tepl T < ten T
      · rw [if_pos hp] at h4
        have cR := pm_readStatement T h2
        have aR := (rSt_R T h2).1
        cases hb : (rSt T).1 with
        | false =>
          rw [hb] at h4 cR
          have h4 : tsW W = (-2000 - nI (tepl T), (rSt T).2, Q, false) := h4
          rw [h4] at hR
          generalize (rSt T).2 = Z at hR cR
          refine PW.iload_n hX dX6_tellStatements_21 rfl rfl ?_
          refine PW.bipush (v := nI 80) hX dX6_tellStatements_22 (by decide) ?_
          refine PW.icmp_ge (tgt := 88) hX dX6_tellStatements_24 (by decide) (fun c24 => ?_) (fun c24 => ?_)
          · try rw [nI_leI (by omega) (by omega)] at c24
            exfalso; omega -- CLOSED
          · try rw [nI_leI (by omega) (by omega)] at c24
            refine PW.aload_n hX dX6_tellStatements_27 rfl rfl ?_
            refine PW.getfield hX fl_X6_25 dX6_tellStatements_28 rfl rfl ?_
            refine PW.getfield hX fl_X6_235 dX6_tellStatements_31 rfl rfl ?_
            refine PW.top (show _ = nI (tepl T) from rfl) ?_
            refine PW.aload_n hX dX6_tellStatements_34 rfl rfl ?_
            refine PW.getfield hX fl_X6_25 dX6_tellStatements_35 rfl rfl ?_
            refine PW.getfield hX fl_X6_62 dX6_tellStatements_38 rfl rfl ?_
            refine PW.top (show _ = nI (ten T) from rfl) ?_
            refine PW.icmp_ge (tgt := 88) hX dX6_tellStatements_41 (by decide) (fun c41 => ?_) (fun c41 => ?_)
            · try rw [nI_leI (by omega) (by omega)] at c41
              exfalso; omega -- CLOSED
            · try rw [nI_leI (by omega) (by omega)] at c41
              refine PW.aload_n hX dX6_tellStatements_44 rfl rfl ?_
              refine PW.getfield hX fl_X6_25 dX6_tellStatements_45 rfl rfl ?_
              refine PW.getfield hX fl_X6_235 dX6_tellStatements_48 rfl rfl ?_
              refine PW.istore_n hX dX6_tellStatements_51 rfl rfl ?_
              refine PW.aload_n hX dX6_tellStatements_52 rfl rfl ?_
              refine PW.getfield hX fl_X6_25 dX6_tellStatements_53 rfl rfl ?_
              refine PW.vI hX ml_X6_238 (id cR) dX6_tellStatements_56 [25, 26] (e1_T (swD (swT W T) Q)) rfl rfl rfl rfl rfl rfl rfl rfl rfl rfl rfl rfl rfl (eh_T (swD (swT W T) Q) _) ?_
              refine PW.if_eq (tgt := 76) hX dX6_tellStatements_59 (by decide) (fun c59 => ?_) (fun c59 => ?_)
              · first | rw [bI_d0] at c59 | rw [bI_eq0] at c59 | rw [nI_eq0 (by omega)] at c59 | skip
                refine PW.sipush (v := (-2000)) hX dX6_tellStatements_76 (by decide) ?_
                refine PW.iload_n hX dX6_tellStatements_79 rfl rfl ?_
                refine PW.isub hX dX6_tellStatements_80 ?_
                refine PW.iret hX hR dX6_tellStatements_81 rfl rfl ?_
                exact ⟨rfl, rfl⟩
              · first | rw [bI_d0] at c59 | rw [bI_eq0] at c59 | rw [nI_eq0 (by omega)] at c59 | skip
                exact absurd rfl c59 -- CLOSED
        | true =>
          have hi := rSt_is hb
          rw [hb] at h4 cR
          have h4 : tsW W = bif tellB (rSt T).2 Q then tsL n (st + 1) (rSt T).2 (tellP (rSt T).2 Q) else (-2000 - nI (tepl T), (rSt T).2, Q, false) := h4
          generalize (rSt T).2 = Z at h4 cR aR hi
          have cT := pm_tell Q h3 Z hi
          cases hc : tellB Z Q with
          | false =>
            rw [hc, tellP_f hc] at cT
            rw [hc] at h4
            have h4 : tsW W = (-2000 - nI (tepl T), Z, Q, false) := h4
            rw [h4] at hR
            refine PW.iload_n hX dX6_tellStatements_21 rfl rfl ?_
            refine PW.bipush (v := nI 80) hX dX6_tellStatements_22 (by decide) ?_
            refine PW.icmp_ge (tgt := 88) hX dX6_tellStatements_24 (by decide) (fun c24 => ?_) (fun c24 => ?_)
            · try rw [nI_leI (by omega) (by omega)] at c24
              exfalso; omega -- CLOSED
            · try rw [nI_leI (by omega) (by omega)] at c24
              refine PW.aload_n hX dX6_tellStatements_27 rfl rfl ?_
              refine PW.getfield hX fl_X6_25 dX6_tellStatements_28 rfl rfl ?_
              refine PW.getfield hX fl_X6_235 dX6_tellStatements_31 rfl rfl ?_
              refine PW.top (show _ = nI (tepl T) from rfl) ?_
              refine PW.aload_n hX dX6_tellStatements_34 rfl rfl ?_
              refine PW.getfield hX fl_X6_25 dX6_tellStatements_35 rfl rfl ?_
              refine PW.getfield hX fl_X6_62 dX6_tellStatements_38 rfl rfl ?_
              refine PW.top (show _ = nI (ten T) from rfl) ?_
              refine PW.icmp_ge (tgt := 88) hX dX6_tellStatements_41 (by decide) (fun c41 => ?_) (fun c41 => ?_)
              · try rw [nI_leI (by omega) (by omega)] at c41
                exfalso; omega -- CLOSED
              · try rw [nI_leI (by omega) (by omega)] at c41
                refine PW.aload_n hX dX6_tellStatements_44 rfl rfl ?_
                refine PW.getfield hX fl_X6_25 dX6_tellStatements_45 rfl rfl ?_
                refine PW.getfield hX fl_X6_235 dX6_tellStatements_48 rfl rfl ?_
                refine PW.istore_n hX dX6_tellStatements_51 rfl rfl ?_
                refine PW.aload_n hX dX6_tellStatements_52 rfl rfl ?_
                refine PW.getfield hX fl_X6_25 dX6_tellStatements_53 rfl rfl ?_
                refine PW.vI hX ml_X6_238 (id cR) dX6_tellStatements_56 [25, 26] (e1_T (swD (swT W T) Q)) rfl rfl rfl rfl rfl rfl rfl rfl rfl rfl rfl rfl rfl (eh_T (swD (swT W T) Q) _) ?_
                refine PW.if_eq (tgt := 76) hX dX6_tellStatements_59 (by decide) (fun c59 => ?_) (fun c59 => ?_)
                · first | rw [bI_d0] at c59 | rw [bI_eq0] at c59 | rw [nI_eq0 (by omega)] at c59 | skip
                  exact absurd c59 (by decide) -- CLOSED
                · first | rw [bI_d0] at c59 | rw [bI_eq0] at c59 | rw [nI_eq0 (by omega)] at c59 | skip
                  refine PW.aload_n hX dX6_tellStatements_62 rfl rfl ?_
                  refine PW.getfield hX fl_X6_25 dX6_tellStatements_63 rfl rfl ?_
                  refine PW.aload_n hX dX6_tellStatements_66 rfl rfl ?_
                  refine PW.getfield hX fl_X6_19 dX6_tellStatements_67 rfl rfl ?_
                  refine PW.vI hX ml_X6_242 (id cT) dX6_tellStatements_70 [25, 26, 17, 18, 19, 20, 21, 22, 23, 24] (e1_TD (swT (swD (swT W T) Q) Z)) rfl rfl rfl rfl rfl rfl rfl rfl rfl rfl rfl rfl rfl (eh_TD (swT (swD (swT W T) Q) Z) _ _) ?_
                  refine PW.if_ne (tgt := 82) hX dX6_tellStatements_73 (by decide) (fun c73 => ?_) (fun c73 => ?_)
                  · first | rw [bI_d0] at c73 | rw [bI_eq0] at c73 | rw [nI_eq0 (by omega)] at c73 | skip
                    exact absurd rfl c73 -- CLOSED
                  · first | rw [bI_d0] at c73 | rw [bI_eq0] at c73 | rw [nI_eq0 (by omega)] at c73 | skip
                    refine PW.sipush (v := (-2000)) hX dX6_tellStatements_76 (by decide) ?_
                    refine PW.iload_n hX dX6_tellStatements_79 rfl rfl ?_
                    refine PW.isub hX dX6_tellStatements_80 ?_
                    refine PW.iret hX hR dX6_tellStatements_81 rfl rfl ?_
                    exact ⟨rfl, rfl⟩
          | true =>
            rw [hc] at h4 cT
            have h4 : tsW W = tsL n (st + 1) Z (tellP Z Q) := h4
            have nx := ih (st + 1) Z (tellP Z Q) (by omega) aR (tellP_ok h3 hi) h4
            generalize tellP Z Q = Q2 at nx cT
            refine PW.iload_n hX dX6_tellStatements_21 rfl rfl ?_
            refine PW.bipush (v := nI 80) hX dX6_tellStatements_22 (by decide) ?_
            refine PW.icmp_ge (tgt := 88) hX dX6_tellStatements_24 (by decide) (fun c24 => ?_) (fun c24 => ?_)
            · try rw [nI_leI (by omega) (by omega)] at c24
              exfalso; omega -- CLOSED
            · try rw [nI_leI (by omega) (by omega)] at c24
              refine PW.aload_n hX dX6_tellStatements_27 rfl rfl ?_
              refine PW.getfield hX fl_X6_25 dX6_tellStatements_28 rfl rfl ?_
              refine PW.getfield hX fl_X6_235 dX6_tellStatements_31 rfl rfl ?_
              refine PW.top (show _ = nI (tepl T) from rfl) ?_
              refine PW.aload_n hX dX6_tellStatements_34 rfl rfl ?_
              refine PW.getfield hX fl_X6_25 dX6_tellStatements_35 rfl rfl ?_
              refine PW.getfield hX fl_X6_62 dX6_tellStatements_38 rfl rfl ?_
              refine PW.top (show _ = nI (ten T) from rfl) ?_
              refine PW.icmp_ge (tgt := 88) hX dX6_tellStatements_41 (by decide) (fun c41 => ?_) (fun c41 => ?_)
              · try rw [nI_leI (by omega) (by omega)] at c41
                exfalso; omega -- CLOSED
              · try rw [nI_leI (by omega) (by omega)] at c41
                refine PW.aload_n hX dX6_tellStatements_44 rfl rfl ?_
                refine PW.getfield hX fl_X6_25 dX6_tellStatements_45 rfl rfl ?_
                refine PW.getfield hX fl_X6_235 dX6_tellStatements_48 rfl rfl ?_
                refine PW.istore_n hX dX6_tellStatements_51 rfl rfl ?_
                refine PW.aload_n hX dX6_tellStatements_52 rfl rfl ?_
                refine PW.getfield hX fl_X6_25 dX6_tellStatements_53 rfl rfl ?_
                refine PW.vI hX ml_X6_238 (id cR) dX6_tellStatements_56 [25, 26] (e1_T (swD (swT W T) Q)) rfl rfl rfl rfl rfl rfl rfl rfl rfl rfl rfl rfl rfl (eh_T (swD (swT W T) Q) _) ?_
                refine PW.if_eq (tgt := 76) hX dX6_tellStatements_59 (by decide) (fun c59 => ?_) (fun c59 => ?_)
                · first | rw [bI_d0] at c59 | rw [bI_eq0] at c59 | rw [nI_eq0 (by omega)] at c59 | skip
                  exact absurd c59 (by decide) -- CLOSED
                · first | rw [bI_d0] at c59 | rw [bI_eq0] at c59 | rw [nI_eq0 (by omega)] at c59 | skip
                  refine PW.aload_n hX dX6_tellStatements_62 rfl rfl ?_
                  refine PW.getfield hX fl_X6_25 dX6_tellStatements_63 rfl rfl ?_
                  refine PW.aload_n hX dX6_tellStatements_66 rfl rfl ?_
                  refine PW.getfield hX fl_X6_19 dX6_tellStatements_67 rfl rfl ?_
                  refine PW.vI hX ml_X6_242 (id cT) dX6_tellStatements_70 [25, 26, 17, 18, 19, 20, 21, 22, 23, 24] (e1_TD (swT (swD (swT W T) Q) Z)) rfl rfl rfl rfl rfl rfl rfl rfl rfl rfl rfl rfl rfl (eh_TD (swT (swD (swT W T) Q) Z) _ _) ?_
                  refine PW.if_ne (tgt := 82) hX dX6_tellStatements_73 (by decide) (fun c73 => ?_) (fun c73 => ?_)
                  · first | rw [bI_d0] at c73 | rw [bI_eq0] at c73 | rw [nI_eq0 (by omega)] at c73 | skip
                    first | refine PW.iinc hX dX6_tellStatements_82 rfl (iincN _) ?_ | refine PW.iinc hX dX6_tellStatements_82 rfl rfl ?_
                    refine PW.goto (tgt := 21) hX dX6_tellStatements_85 (by decide) ?_
                    refine PW.clr 2 ?_
                    exact nx
                  · first | rw [bI_d0] at c73 | rw [bI_eq0] at c73 | rw [nI_eq0 (by omega)] at c73 | skip
                    exact absurd c73 (by decide) -- CLOSED
      · rw [if_neg hp] at h4
        have h9 := h88 st T Q h4
        refine PW.iload_n hX dX6_tellStatements_21 rfl rfl ?_
        refine PW.bipush (v := nI 80) hX dX6_tellStatements_22 (by decide) ?_
        refine PW.icmp_ge (tgt := 88) hX dX6_tellStatements_24 (by decide) (fun c24 => ?_) (fun c24 => ?_)
        · try rw [nI_leI (by omega) (by omega)] at c24
          exfalso; omega -- CLOSED
        · try rw [nI_leI (by omega) (by omega)] at c24
          refine PW.aload_n hX dX6_tellStatements_27 rfl rfl ?_
          refine PW.getfield hX fl_X6_25 dX6_tellStatements_28 rfl rfl ?_
          refine PW.getfield hX fl_X6_235 dX6_tellStatements_31 rfl rfl ?_
          refine PW.top (show _ = nI (tepl T) from rfl) ?_
          refine PW.aload_n hX dX6_tellStatements_34 rfl rfl ?_
          refine PW.getfield hX fl_X6_25 dX6_tellStatements_35 rfl rfl ?_
          refine PW.getfield hX fl_X6_62 dX6_tellStatements_38 rfl rfl ?_
          refine PW.top (show _ = nI (ten T) from rfl) ?_
          refine PW.icmp_ge (tgt := 88) hX dX6_tellStatements_41 (by decide) (fun c41 => ?_) (fun c41 => ?_)
          · try rw [nI_leI (by omega) (by omega)] at c41
            exact h9
          · try rw [nI_leI (by omega) (by omega)] at c41
            exfalso; omega -- CLOSED
  have h21 := loop 80 0 _ _ rfl tr0 q0 rfl
  refine PW.aload_n hX dX6_tellStatements_0 rfl rfl ?_
  refine PW.getfield hX fl_X6_19 dX6_tellStatements_1 rfl rfl ?_
  refine PW.aload_n hX dX6_tellStatements_4 rfl rfl ?_
  refine PW.getfield hX fl_X6_12 dX6_tellStatements_5 rfl rfl ?_
  refine PW.vV hX ml_X6_177 (pm_copyFrom (wpD W) (wpP W)) dX6_tellStatements_8 [17, 18, 19, 20, 21, 22, 23, 24, 1, 2, 3, 4, 5, 6, 7, 8] (e1_DP W) rfl rfl rfl rfl rfl rfl rfl rfl rfl rfl rfl rfl rfl (eh_DP W _) ?_
  refine PW.aload_n hX dX6_tellStatements_11 rfl rfl ?_
  refine PW.getfield hX fl_X6_25 dX6_tellStatements_12 rfl rfl ?_
  refine PW.iconst (v := nI 0) hX dX6_tellStatements_15 (by decide) ?_
  refine PW.putI hX fp_X6_235 dX6_tellStatements_16 rfl rfl ?_
  refine PW.heap (st_pl (swD W (plCp (wpD W) (wpP W))) 0) ?_
  refine PW.iconst (v := nI 0) hX dX6_tellStatements_19 (by decide) ?_
  refine PW.istore_n hX dX6_tellStatements_20 rfl rfl ?_
  exact h21
/-- the floor: answer and state -/
def wpW (W : Wp) : Option Nat × Te := wpL 80 (teP (wpT W) 0)
def clT (T : Te) : Te := (tele T, 0, tepl T, tehd T, teki T, teow T, tefi T, temi T)
def wFloor (W : Wp) : Int32 × Wp := match (wpW W).1 with
  | some p => (-1000 - nI p, swT W (clT (wpW W).2))
  | none => ((wTell (swT W (wpW W).2)).1, swT (wTell (swT W (wpW W).2)).2 (clT (wpT (wTell (swT W (wpW W).2)).2)))
theorem pm_floor (W : Wp) (wk : WpOk W) : PM mu_X6_floor 7 0 0 [.ref 0] (wpB W) (eqP (some (.int (wFloor W).1)) (wpB (wFloor W).2)) := by
  have cM : PM mu_X4_wrongPlace 6 0 0 [.ref 0] (teB 0 (wpT W)) (eqP (some (.int (oI (wpW W).1))) (teB 0 (wpW W).2)) := pm_wrongPlace (wpT W) wk.2.2.1
  have hR2 := wpL_R 80 (teP (wpT W) 0) ⟨wk.2.2.1.1, Nat.zero_le _, wk.2.2.1.2⟩
  have hlt := wpL_lt 80 (teP (wpT W) 0) ⟨wk.2.2.1.1, Nat.zero_le _, wk.2.2.1.2⟩
  have hR2 : TeR (wpW W).2 ∧ _ := hR2
  have hlt : ∀ k, (wpW W).1 = some k → k ≤ ten (wpT W) := hlt
  have t1 : ten (wpT W) ≤ 80 := wk.2.2.1.1
  have wk2 : WpOk (swT W (wpW W).2) := ⟨wk.1, wk.2.1, ⟨hR2.1.1, hR2.1.2.2⟩, wk.2.2.2⟩
  have cT := pm_tellStatements (swT W (wpW W).2) wk2
  unfold wFloor
  generalize wpW W = V at cM cT hlt ⊢
  obtain ⟨r, T2⟩ := V
  cases r with
  | some p =>
    have hp := hlt p rfl
    dsimp only
    refine PM.start (Or.inl (by decide +kernel)) rfl rfl rfl ?_
    intro X hX hR hx hin
    refine PW.aload_n hX dX6_floor_0 rfl rfl ?_
    refine PW.getfield hX fl_X6_25 dX6_floor_1 rfl rfl ?_
    refine PW.vI hX ml_X6_69 (id cM) dX6_floor_4 [25, 26] (e1_T W) rfl rfl rfl rfl rfl rfl rfl rfl rfl rfl rfl rfl rfl (eh_T W _) ?_
    refine PW.top (show _ = nI p from rfl) ?_
    refine PW.istore_n hX dX6_floor_7 rfl rfl ?_
    refine PW.iload_n hX dX6_floor_8 rfl rfl ?_
    refine PW.if_lt (tgt := 20) hX dX6_floor_9 (by decide) (fun c9 => ?_) (fun c9 => ?_)
    · exact absurd c9 (nI_pos (by omega)) -- CLOSED
    · refine PW.sipush (v := (-1000)) hX dX6_floor_12 (by decide) ?_
      refine PW.iload_n hX dX6_floor_15 rfl rfl ?_
      refine PW.isub hX dX6_floor_16 ?_
      refine PW.goto (tgt := 24) hX dX6_floor_17 (by decide) ?_
      refine PW.istore_n hX dX6_floor_24 rfl rfl ?_
      refine PW.aload_n hX dX6_floor_25 rfl rfl ?_
      refine PW.getfield hX fl_X6_25 dX6_floor_26 rfl rfl ?_
      refine PW.vV hX ml_X6_76 (pm_teClear T2) dX6_floor_29 [25, 26] (e1_T (swT W T2)) rfl rfl rfl rfl rfl rfl rfl rfl rfl rfl rfl rfl rfl (eh_T (swT W T2) _) ?_
      refine PW.iload_n hX dX6_floor_32 rfl rfl ?_
      refine PW.iret hX hR dX6_floor_33 rfl rfl ?_
      exact ⟨rfl, rfl⟩
  | none =>
    dsimp only at cT ⊢
    generalize wTell (swT W T2) = V at cT ⊢
    refine PM.start (Or.inl (by decide +kernel)) rfl rfl rfl ?_
    intro X hX hR hx hin
    refine PW.aload_n hX dX6_floor_0 rfl rfl ?_
    refine PW.getfield hX fl_X6_25 dX6_floor_1 rfl rfl ?_
    refine PW.vI hX ml_X6_69 (id cM) dX6_floor_4 [25, 26] (e1_T W) rfl rfl rfl rfl rfl rfl rfl rfl rfl rfl rfl rfl rfl (eh_T W _) ?_
    refine PW.istore_n hX dX6_floor_7 rfl rfl ?_
    refine PW.iload_n hX dX6_floor_8 rfl rfl ?_
    refine PW.if_lt (tgt := 20) hX dX6_floor_9 (by decide) (fun c9 => ?_) (fun c9 => ?_)
    · refine PW.aload_n hX dX6_floor_20 rfl rfl ?_
      refine PW.vIi hX ml_X6_73 (id cT) dX6_floor_21 45 rfl rfl rfl rfl rfl rfl rfl rfl rfl rfl rfl rfl rfl rfl rfl ?_
      refine PW.istore_n hX dX6_floor_24 rfl rfl ?_
      refine PW.aload_n hX dX6_floor_25 rfl rfl ?_
      refine PW.getfield hX fl_X6_25 dX6_floor_26 rfl rfl ?_
      refine PW.vV hX ml_X6_76 (pm_teClear (wpT V.2)) dX6_floor_29 [25, 26] (e1_T V.2) rfl rfl rfl rfl rfl rfl rfl rfl rfl rfl rfl rfl rfl (eh_T V.2 _) ?_
      refine PW.iload_n hX dX6_floor_32 rfl rfl ?_
      refine PW.iret hX hR dX6_floor_33 rfl rfl ?_
      exact ⟨rfl, rfl⟩
    · exact absurd (show (-9 : Int32) < 0 by decide) c9 -- CLOSED
