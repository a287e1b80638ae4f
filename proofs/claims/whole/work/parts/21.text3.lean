/-- the first wrong place -/
def wpL : Nat → Te → Option Nat × Te
  | 0, T => (none, T)
  | n + 1, T => bif (rSt T).1 then (if tepl (rSt T).2 < ten T then wpL n (rSt T).2 else (none, (rSt T).2)) else (some (tepl (rSt T).2), (rSt T).2)
theorem wpL_R : ∀ n T, TeR T → TeR (wpL n T).2 ∧ tele (wpL n T).2 = tele T ∧ ten (wpL n T).2 = ten T
  | 0, T, tr => ⟨tr, rfl, rfl⟩
  | n + 1, T, tr => by
    obtain ⟨a, b, c, d, e⟩ := rSt_R T tr
    rw [wpL]
    cases hb : (rSt T).1 with
    | false => exact ⟨a, b, c⟩
    | true =>
      simp only [cond_true]
      split
      · obtain ⟨a', b', c'⟩ := wpL_R n _ a
        exact ⟨a', b'.trans b, c'.trans c⟩
      · exact ⟨a, b, c⟩
theorem wpL_lt : ∀ n T, TeR T → ∀ k, (wpL n T).1 = some k → k ≤ ten T
  | 0, T, tr, k, h => by cases h
  | n + 1, T, tr, k, h => by
    obtain ⟨a, b, c, d, e⟩ := rSt_R T tr
    rw [wpL] at h
    cases hb : (rSt T).1 with
    | false =>
      rw [hb] at h
      have h : some (tepl (rSt T).2) = some k := h
      cases h
      rw [← c]
      exact a.2.1
    | true =>
      rw [hb] at h
      simp only [cond_true] at h
      split at h
      · have := wpL_lt n _ a k h
        omega
      · cases h
theorem pm_wrongPlace (T : Te) (tr : ten T ≤ 80 ∧ ∀ i, i < ten T → tele T i < 256) : PM mu_X4_wrongPlace 6 0 0 [.ref 0] (teB 0 T) (eqP (some (.int (oI (wpL 80 (teP T 0)).1))) (teB 0 (wpL 80 (teP T 0)).2)) := by
  have tr0 : TeR (teP T 0) := ⟨tr.1, Nat.zero_le _, tr.2⟩
  refine PM.start (Or.inl (by decide +kernel)) rfl rfl rfl ?_
  intro X hX hR hx hin
  have loop : ∀ n i : Nat, ∀ Z : Te, i + n = 80 → TeR Z → wpL 80 (teP T 0) = wpL n Z → PW X 7 [some (.ref 0), some (.int (nI i))] [] (teB 0 Z) 0 0 := by
    intro n
    induction n with
    | zero =>
      intro i Z h1 h2 h3
      rw [h3] at hR
      refine PW.iload_n hX dX4_wrongPlace_7 rfl rfl ?_
      refine PW.bipush (v := nI 80) hX dX4_wrongPlace_8 (by decide) ?_
      refine PW.icmp_ge (tgt := 45) hX dX4_wrongPlace_10 (by decide) (fun c10 => ?_) (fun c10 => ?_)
      · try rw [nI_leI (by omega) (by omega)] at c10
        refine PW.bipush (v := (-9)) hX dX4_wrongPlace_45 (by decide) ?_
        refine PW.iret hX hR dX4_wrongPlace_47 rfl rfl ?_
        exact ⟨rfl, rfl⟩
      · try rw [nI_leI (by omega) (by omega)] at c10
        exfalso; omega -- CLOSED
    | succ n ih =>
      intro i Z h1 h2 h3
      rw [show wpL (n + 1) Z = bif (rSt Z).1 then (if tepl (rSt Z).2 < ten Z then wpL n (rSt Z).2 else (none, (rSt Z).2)) else (some (tepl (rSt Z).2), (rSt Z).2) from rfl] at h3
      obtain ⟨a, b, c, d, e⟩ := rSt_R Z h2
      have cM := pm_readStatement Z h2
      have hi := ih (i + 1) (rSt Z).2 (by omega) a
      have t1 := a.1
      have t2 := a.2.1
      cases hb : (rSt Z).1 with
      | false =>
        rw [hb] at h3 cM
        have h3 : wpL 80 (teP T 0) = (some (tepl (rSt Z).2), (rSt Z).2) := h3
        rw [h3] at hR
        generalize (rSt Z).2 = Z2 at hR cM
        refine PW.iload_n hX dX4_wrongPlace_7 rfl rfl ?_
        refine PW.bipush (v := nI 80) hX dX4_wrongPlace_8 (by decide) ?_
        refine PW.icmp_ge (tgt := 45) hX dX4_wrongPlace_10 (by decide) (fun c10 => ?_) (fun c10 => ?_)
        · try rw [nI_leI (by omega) (by omega)] at c10
          exfalso; omega -- CLOSED
        · try rw [nI_leI (by omega) (by omega)] at c10
          refine PW.aload_n hX dX4_wrongPlace_13 rfl rfl ?_
          refine PW.vIi hX ml_X4_37 (id cM) dX4_wrongPlace_14 2 rfl rfl rfl rfl rfl rfl rfl rfl rfl rfl rfl rfl rfl rfl rfl ?_
          refine PW.if_ne (tgt := 25) hX dX4_wrongPlace_17 (by decide) (fun c17 => ?_) (fun c17 => ?_)
          · first | rw [bI_d0] at c17 | rw [bI_eq0] at c17 | rw [nI_eq0 (by omega)] at c17 | skip
            exact absurd rfl c17 -- CLOSED
          · first | rw [bI_d0] at c17 | rw [bI_eq0] at c17 | rw [nI_eq0 (by omega)] at c17 | skip
            refine PW.aload_n hX dX4_wrongPlace_20 rfl rfl ?_
            refine PW.getfield hX fl_X4_19 dX4_wrongPlace_21 rfl rfl ?_
            refine PW.iret hX hR dX4_wrongPlace_24 rfl rfl ?_
            exact ⟨rfl, rfl⟩
      | true =>
        rw [hb] at h3 cM
        have h3 : wpL 80 (teP T 0) = if tepl (rSt Z).2 < ten Z then wpL n (rSt Z).2 else (none, (rSt Z).2) := h3
        rw [← c] at h3
        generalize (rSt Z).2 = Z2 at h3 cM hi t1 t2 c
        refine PW.iload_n hX dX4_wrongPlace_7 rfl rfl ?_
        refine PW.bipush (v := nI 80) hX dX4_wrongPlace_8 (by decide) ?_
        refine PW.icmp_ge (tgt := 45) hX dX4_wrongPlace_10 (by decide) (fun c10 => ?_) (fun c10 => ?_)
        · try rw [nI_leI (by omega) (by omega)] at c10
          exfalso; omega -- CLOSED
        · try rw [nI_leI (by omega) (by omega)] at c10
          refine PW.aload_n hX dX4_wrongPlace_13 rfl rfl ?_
          refine PW.vIi hX ml_X4_37 (id cM) dX4_wrongPlace_14 2 rfl rfl rfl rfl rfl rfl rfl rfl rfl rfl rfl rfl rfl rfl rfl ?_
          refine PW.if_ne (tgt := 25) hX dX4_wrongPlace_17 (by decide) (fun c17 => ?_) (fun c17 => ?_)
          · first | rw [bI_d0] at c17 | rw [bI_eq0] at c17 | rw [nI_eq0 (by omega)] at c17 | skip
            refine PW.aload_n hX dX4_wrongPlace_25 rfl rfl ?_
            refine PW.getfield hX fl_X4_19 dX4_wrongPlace_26 rfl rfl ?_
            refine PW.aload_n hX dX4_wrongPlace_29 rfl rfl ?_
            refine PW.getfield hX fl_X4_15 dX4_wrongPlace_30 rfl rfl ?_
            refine PW.icmp_lt (tgt := 39) hX dX4_wrongPlace_33 (by decide) (fun c33 => ?_) (fun c33 => ?_)
            · try rw [nI_ltI (by omega) (by omega)] at c33
              rw [if_pos c33] at h3
              first | refine PW.iinc hX dX4_wrongPlace_39 rfl (iincN _) ?_ | refine PW.iinc hX dX4_wrongPlace_39 rfl rfl ?_
              refine PW.goto (tgt := 7) hX dX4_wrongPlace_42 (by decide) ?_
              exact hi h3
            · try rw [nI_ltI (by omega) (by omega)] at c33
              rw [if_neg c33] at h3
              rw [h3] at hR
              refine PW.bipush (v := (-9)) hX dX4_wrongPlace_36 (by decide) ?_
              refine PW.iret hX hR dX4_wrongPlace_38 rfl rfl ?_
              exact ⟨rfl, rfl⟩
          · first | rw [bI_d0] at c17 | rw [bI_eq0] at c17 | rw [nI_eq0 (by omega)] at c17 | skip
            exact absurd c17 (by decide) -- CLOSED
  refine PW.aload_n hX dX4_wrongPlace_0 rfl rfl ?_
  refine PW.iconst (v := nI 0) hX dX4_wrongPlace_1 (by decide) ?_
  refine PW.putI hX fp_X4_19 dX4_wrongPlace_2 rfl rfl ?_
  refine PW.iconst (v := nI 0) hX dX4_wrongPlace_5 (by decide) ?_
  refine PW.istore_n hX dX4_wrongPlace_6 rfl rfl ?_
  exact loop 80 0 (teP T 0) rfl tr0 rfl
theorem rFig_v {T : Te} (h : (rFig T).1 = true) : ∃ x, x < 10 ∧ (rFig T).2 = teF (teAdv T) (nI x) := by
  unfold rFig at h ⊢
  cases hd : dgt T with
  | none => rw [hd] at h; cases h
  | some x => exact ⟨x, (dgt_lt hd).1, rfl⟩
theorem rOwn_v {T : Te} (h : (rOwn T).1 = true) : ∃ x, x < 10 ∧ (rOwn T).2 = teO (teAdv T) (nI x) := by
  unfold rOwn at h ⊢
  cases hd : dgt T with
  | none => rw [hd] at h; cases h
  | some x => exact ⟨x, (dgt_lt hd).1, rfl⟩
theorem rMin_v {T : Te} (h : (rMin T).1 = true) : ∃ x p, x < 100 ∧ (rMin T).2 = teM (teP T p) (nI x) := by
  unfold rMin at h ⊢
  cases hd : dgt T with
  | none => rw [hd] at h; cases h
  | some x =>
    have hx := (dgt_lt hd).1
    dsimp only
    cases hd2 : dgt (teM (teAdv T) (nI x)) with
    | none => exact ⟨x, tepl T + 1, by omega, rfl⟩
    | some y => exact ⟨10 * x + y, tepl T + 1 + 1, by have := (dgt_lt hd2).1; omega, rfl⟩
theorem rSign_v {c : Nat} {T : Te} (h : (rSign c T).1 = true) : (rSign c T).2 = teAdv T := by
  unfold rSign at h ⊢
  split
  · rfl
  · rename_i q; rw [if_neg q] at h; cases h
theorem rKind_v {i : Nat} {T : Te} (h : (rKind i T).1 = true) : ∃ k, k < 6 ∧ (rKind i T).2 = teAdv (teK T (nI k)) := by
  unfold rKind at h ⊢
  split
  · rename_i q
    rw [if_pos q] at h
    cases hx : ixF i (tele T (tepl T)) 6 0 with
    | none => rw [hx] at h; cases h
    | some k => exact ⟨k, by have := ixF_lt _ _ _ _ _ hx; omega, rfl⟩
  · rename_i q; rw [if_neg q] at h; cases h
theorem andT_v {f g : Te → Bool × Te} {T : Te} (h : (andT f g T).1 = true) : (f T).1 = true ∧ andT f g T = g (f T).2 ∧ (g (f T).2).1 = true := by
  cases hf : (f T).1 with
  | false => rw [andT_f hf] at h; cases h
  | true => rw [andT_t hf] at h; exact ⟨rfl, andT_t hf, h⟩
theorem rOFM_v {T : Te} (h : (rOFM T).1 = true) : ∃ o f m p, o < 10 ∧ f < 10 ∧ m < 100 ∧ (rOFM T).2 = (tele T, ten T, p, tehd T, teki T, nI o, nI f, nI m) := by
  unfold rOFM at h ⊢
  obtain ⟨h1, e1, h⟩ := andT_v h
  obtain ⟨h2, e2, h⟩ := andT_v h
  obtain ⟨h3, e3, h⟩ := andT_v h
  obtain ⟨h4, e4, h⟩ := andT_v h
  obtain ⟨o, ho, f1⟩ := rOwn_v h1
  obtain ⟨f, hf, f2⟩ := rFig_v h2
  have f3 := rSign_v h3
  obtain ⟨m, p, hm, f4⟩ := rMin_v h4
  have f5 := rSign_v h
  refine ⟨o, f, m, p + 1, ho, hf, hm, ?_⟩
  rw [e1, e2, e3, e4, f5, f4, f3, f2, f1]
  rfl
/-- a statement that was read -/
theorem rSt_v {T : Te} (h : (rSt T).1 = true) : (∃ o f m p, o < 10 ∧ f < 10 ∧ m < 100 ∧ (rSt T).2 = (tele T, ten T, p, 106, teki T, nI o, nI f, nI m)) ∨ (∃ k f p, k < 6 ∧ f < 10 ∧ (rSt T).2 = (tele T, ten T, p, 109, nI k, teow T, nI f, temi T)) ∨ (∃ k o f m p, k < 6 ∧ o < 10 ∧ f < 10 ∧ m < 100 ∧ (rSt T).2 = (tele T, ten T, p, 116, nI k, nI o, nI f, nI m)) := by
  unfold rSt at h ⊢
  split
  · rename_i q
    rw [if_pos q] at h
    obtain ⟨o, f, m, p, ho, hf, hm, e⟩ := rOFM_v h
    exact Or.inl ⟨o, f, m, p, ho, hf, hm, e⟩
  · rename_i q1
    rw [if_neg q1] at h
    split
    · rename_i q
      rw [if_pos q] at h
      obtain ⟨h1, e1, h⟩ := andT_v h
      obtain ⟨h2, e2, h⟩ := andT_v h
      obtain ⟨k, hk, f1⟩ := rKind_v h1
      obtain ⟨f, hf, f2⟩ := rFig_v h2
      have f3 := rSign_v h
      refine Or.inr (Or.inl ⟨k, f, tepl T + 1 + 1 + 1 + 1, hk, hf, ?_⟩)
      rw [e1, e2, f3, f2, f1]
      rfl
    · rename_i q2
      rw [if_neg q2] at h
      split
      · rename_i q
        rw [if_pos q] at h
        obtain ⟨h1, e1, h⟩ := andT_v h
        obtain ⟨k, hk, f1⟩ := rKind_v h1
        obtain ⟨o, f, m, p, ho, hf, hm, e⟩ := rOFM_v h
        refine Or.inr (Or.inr ⟨k, o, f, m, p, hk, ho, hf, hm, ?_⟩)
        rw [e1, e, f1]
        rfl
      · rename_i q3
        rw [if_neg q3] at h
        cases h
/-- the statement just read is told to a plan -/
theorem pm_tellJ (P : Pl) (ok : PlOk P) (le : Nat → Nat) (n p : Nat) (ki : Int32) (o f m : Nat) (ho : o < 10) (hf : f < 10) (hm : m < 100) : PM mu_X4_tellTo 2 0 0 [.ref 0, .ref 2] (teB 0 (le, n, p, 106, ki, nI o, nI f, nI m) ++ plB 2 P) (eqP (some (.int (bI (okJ P o f m)))) (teB 0 (le, n, p, 106, ki, nI o, nI f, nI m) ++ plB 2 (bif okJ P o f m then plAddJ P o f m else P))) := by
  refine PM.start (Or.inl (by decide +kernel)) rfl rfl rfl ?_
  intro X hX hR hx hin
  refine PW.aload_n hX dX4_tellTo_0 rfl rfl ?_
  refine PW.getfield hX fl_X4_22 dX4_tellTo_1 rfl rfl ?_
  refine PW.top (show _ = nI 106 from rfl) ?_
  refine PW.lookup (off := 28) (tgt := 32) hX dX4_tellTo_4 (by decide) (by decide) (by decide) ?_
  refine PW.aload_n hX dX4_tellTo_32 rfl rfl ?_
  refine PW.aload_n hX dX4_tellTo_33 rfl rfl ?_
  refine PW.getfield hX fl_X4_28 dX4_tellTo_34 rfl rfl ?_
  refine PW.aload_n hX dX4_tellTo_37 rfl rfl ?_
  refine PW.getfield hX fl_X4_31 dX4_tellTo_38 rfl rfl ?_
  refine PW.aload_n hX dX4_tellTo_41 rfl rfl ?_
  refine PW.getfield hX fl_X4_34 dX4_tellTo_42 rfl rfl ?_
  refine PW.vI2 (h1 := teB 0 (le, n, p, 106, ki, nI o, nI f, nI m) ++ plB 2 (bif okJ P o f m then plAddJ P o f m else P)) hX ml_X4_59 (pm_addJob P ok o f m (by omega) (by omega) hm) dX4_tellTo_45 [2, 3, 4, 5, 6, 7, 8, 9] [0, 1] 10 rfl rfl rfl rfl rfl rfl rfl rfl rfl rfl rfl rfl rfl rfl rfl rfl rfl rfl (by decide) ?_
  refine PW.zret hX hR dX4_tellTo_48 (bI_01 _) rfl rfl ?_
  exact ⟨rfl, rfl⟩
theorem pm_tellT (P : Pl) (ok : PlOk P) (le : Nat → Nat) (n p : Nat) (k o f m : Nat) (ho : o < 10) (hm : m < 100) : PM mu_X4_tellTo 2 0 0 [.ref 0, .ref 2] (teB 0 (le, n, p, 116, nI k, nI o, nI f, nI m) ++ plB 2 P) (eqP (some (.int (bI (okT P o m)))) (teB 0 (le, n, p, 116, nI k, nI o, nI f, nI m) ++ plB 2 (bif okT P o m then plAddT P k o f m else P))) := by
  refine PM.start (Or.inl (by decide +kernel)) rfl rfl rfl ?_
  intro X hX hR hx hin
  refine PW.aload_n hX dX4_tellTo_0 rfl rfl ?_
  refine PW.getfield hX fl_X4_22 dX4_tellTo_1 rfl rfl ?_
  refine PW.top (show _ = nI 116 from rfl) ?_
  refine PW.lookup (off := 45) (tgt := 49) hX dX4_tellTo_4 (by decide) (by decide) (by decide) ?_
  refine PW.aload_n hX dX4_tellTo_49 rfl rfl ?_
  refine PW.aload_n hX dX4_tellTo_50 rfl rfl ?_
  refine PW.getfield hX fl_X4_25 dX4_tellTo_51 rfl rfl ?_
  refine PW.aload_n hX dX4_tellTo_54 rfl rfl ?_
  refine PW.getfield hX fl_X4_28 dX4_tellTo_55 rfl rfl ?_
  refine PW.aload_n hX dX4_tellTo_58 rfl rfl ?_
  refine PW.getfield hX fl_X4_31 dX4_tellTo_59 rfl rfl ?_
  refine PW.aload_n hX dX4_tellTo_62 rfl rfl ?_
  refine PW.getfield hX fl_X4_34 dX4_tellTo_63 rfl rfl ?_
  refine PW.vI2 (h1 := teB 0 (le, n, p, 116, nI k, nI o, nI f, nI m) ++ plB 2 (bif okT P o m then plAddT P k o f m else P)) hX ml_X4_65 (pm_addTaker P ok k o f m (by omega) hm) dX4_tellTo_66 [2, 3, 4, 5, 6, 7, 8, 9] [0, 1] 10 rfl rfl rfl rfl rfl rfl rfl rfl rfl rfl rfl rfl rfl rfl rfl rfl rfl rfl (by decide) ?_
  refine PW.zret hX hR dX4_tellTo_69 (bI_01 _) rfl rfl ?_
  exact ⟨rfl, rfl⟩
theorem pm_tellM (P : Pl) (le : Nat → Nat) (n p : Nat) (k f : Nat) (ow mi : Int32) : PM mu_X4_tellTo 2 0 0 [.ref 0, .ref 2] (teB 0 (le, n, p, 109, nI k, ow, nI f, mi) ++ plB 2 P) (eqP (some (.int (bI true))) (teB 0 (le, n, p, 109, nI k, ow, nI f, mi) ++ plB 2 (plMac P k f))) := by
  refine PM.start (Or.inl (by decide +kernel)) rfl rfl rfl ?_
  intro X hX hR hx hin
  refine PW.aload_n hX dX4_tellTo_0 rfl rfl ?_
  refine PW.getfield hX fl_X4_22 dX4_tellTo_1 rfl rfl ?_
  refine PW.top (show _ = nI 109 from rfl) ?_
  refine PW.lookup (off := 66) (tgt := 70) hX dX4_tellTo_4 (by decide) (by decide) (by decide) ?_
  refine PW.aload_n hX dX4_tellTo_70 rfl rfl ?_
  refine PW.aload_n hX dX4_tellTo_71 rfl rfl ?_
  refine PW.getfield hX fl_X4_25 dX4_tellTo_72 rfl rfl ?_
  refine PW.aload_n hX dX4_tellTo_75 rfl rfl ?_
  refine PW.getfield hX fl_X4_31 dX4_tellTo_76 rfl rfl ?_
  refine PW.vV2 (h1 := teB 0 (le, n, p, 109, nI k, ow, nI f, mi) ++ plB 2 (plMac P k f)) hX ml_X4_69 (pm_setMachine P k f) dX4_tellTo_79 [2, 3, 4, 5, 6, 7, 8, 9] [0, 1] 10 rfl rfl rfl rfl rfl rfl rfl rfl rfl rfl rfl rfl rfl rfl rfl rfl rfl rfl (by decide) ?_
  refine PW.iconst (v := nI 1) hX dX4_tellTo_82 (by decide) ?_
  refine PW.zret hX hR dX4_tellTo_83 (by first | exact Or.inl rfl | exact Or.inr rfl | assumption) rfl rfl ?_
  exact ⟨rfl, rfl⟩
