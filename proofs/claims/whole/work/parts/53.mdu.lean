/-! ===== the reference: take ===== -/
theorem mTk_iff (f : Nat → Nat) (k fi o n : Nat) (neat : Bool) (wh : Nat → Bool) (i s : Nat) : mTk f k fi o n neat wh i s = true ↔ k = 0 ∨ ((f (10 + s / 10) = o ∧ (k = 1 ∨ (neat = true ∨ (k = 5 ∧ wh (s / 10) = true)))) ∨ ((k = 2 ∧ n ≤ i + fi) ∨ (k = 4 ∧ i < fi))) := by
  unfold mTk
  simp only [Bool.or_eq_true, Bool.and_eq_true, decide_eq_true_eq]
theorem gvM_inv (tk : Nat → Nat → Bool) (o : Nat) (s : Nat → Nat) (ho : Nat → Int32) : ∀ i, (gvM tk o s ho i).2.1 ≤ i ∧ ∀ j, i ≤ j → (gvM tk o s ho i).1 j = s j := by
  intro i
  induction i with
  | zero => exact ⟨Nat.le_refl _, fun _ _ => rfl⟩
  | succ i ih =>
    obtain ⟨h1, h2⟩ := ih
    rw [gvM]
    cases hT : tk i ((gvM tk o s ho i).1 i) with
    | true => exact ⟨Nat.le_succ_of_le h1, fun j hj => h2 j (by omega)⟩
    | false =>
      refine ⟨Nat.succ_le_succ h1, fun j hj => ?_⟩
      show va_up _ _ _ j = _
      rw [va_up_ne _ _ (by omega)]
      exact h2 j (by omega)
theorem pfUpI (g h : Nat → Int32) (i : Nat) : upd (fun q => if q < i then g q else h q) i (g i) = fun q => if q < i + 1 then g q else h q := by
  funext q
  unfold upd
  by_cases e : q = i
  · rw [if_pos e, e, if_pos (by omega)]
  · rw [if_neg e]
    show (if q < i then g q else h q) = _
    by_cases l : q < i
    · rw [if_pos l, if_pos (by omega)]
    · rw [if_neg l, if_neg (by omega)]
theorem nar_b (b : Bool) : vp_nar .boolean (bI b) = bI b := by cases b <;> decide
theorem md_wh (M : Md) (C : MC) (k : Nat) (x : Int32) : (mdB (sC M C)).set 14 (.inl (2, 6, upd (cwh C) k x)) = mdB (sC M (cle C, cou C, coa C, cos C, ctr C, cly C, cho C, upd (cwh C) k x)) := rfl
theorem md_ho (M : Md) (C : MC) (k : Nat) (x : Int32) : (mdB (sC M C)).set 13 (.inl (0, 60, upd (cho C) k x)) = mdB (sC M (cle C, cou C, coa C, cos C, ctr C, cly C, upd (cho C) k x, cwh C)) := rfl
theorem pm_mtake (M : Md) (C : MC) (t : Nat) (ht : t < 6) (n6 : mno M 0 ≤ 6) (hly : cly C ≤ 100) (htr : ∀ i, i < cly C → ctr C i < 60 ∧ ctr C i / 10 < mno M 0) (hsh : ∀ j, j < mno M 0 → mno M (20 + j) < 10) (h3 : ∀ j, j < 80 → mno M j < 1000) : PM mu_X7_take 2 0 0 [.ref 0, .int (nI t)] (mdB (sC M C)) (eqP none (mdB (sC M (mTake (mno M) C t)))) := by
  have htr1 : ∀ i, i < cly C → ctr C i < 60 := fun i hi => (htr i hi).1
  have b40 := h3 (40 + t) (by omega)
  have b50 := h3 (50 + t) (by omega)
  have b60 := h3 (60 + t) (by omega)
  have cS := pm_msome M C t ht n6 hly htr1 hsh h3
  refine PM.start (Or.inl (by decide +kernel)) rfl rfl rfl ?_
  intro X hX hR hx hin
  -- the loop over the tray
  have loop2 : ∀ nt, (decide (mno M (40 + t) = 3) && mSome (mno M) C (mno M (50 + t)) (mno M 0)) = nt → ∀ n k : Nat, k ≤ cly C → cly C < k + n → ∀ Z, gvC (mno M) C t k = Z → PW X 96 [some (.ref 0), some (.int (nI t)), some (.int (nI (mno M (40 + t)))), some (.int (nI (mno M (50 + t)))), some (.int (nI (mno M (60 + t)))), some (.int (bI nt)), some (.int (nI Z.2.1)), some (.int (nI (cly C))), some (.int (nI k)), none, none, none] [] (mdB (sC M (cle C, cou C, coa C, cos C, Z.1, cly C, Z.2.2, fun q => if q < mno M 0 then bI (mWh (mno M) C q) else cwh C q))) 0 0 := by
    intro nt hnt n
    induction n with
    | zero => intro k h1 h2; exact absurd h2 (by omega)
    | succ n ih =>
      intro k h1 h2 Z hZ
      obtain ⟨z1, z2⟩ := gvM_inv (tkB (mno M) C t) (mno M (50 + t)) (ctr C) (cho C) k
      have hZ' : gvM (tkB (mno M) C t) (mno M (50 + t)) (ctr C) (cho C) k = Z := hZ
      rw [hZ'] at z1 z2
      by_cases hk : k = cly C
      · subst hk
        have em : mTake (mno M) C t = (cle C, cou C, coa C, cos C, Z.1, Z.2.1, Z.2.2, fun q => if q < mno M 0 then bI (mWh (mno M) C q) else cwh C q) := by
          unfold mTake
          rw [hZ]
        rw [em] at hR
        refine PW.iload hX dX7_take_96 rfl ?_
        refine PW.iload hX dX7_take_98 rfl ?_
        refine PW.icmp_ge (tgt := 241) hX dX7_take_100 (by decide) (fun c100 => ?_) (fun c100 => ?_)
        · try rw [nI_leI (by omega) (by omega)] at c100
          refine PW.aload_n hX dX7_take_241 rfl rfl ?_
          refine PW.iload hX dX7_take_242 rfl ?_
          refine PW.putI hX fp_X7_116 dX7_take_244 rfl rfl ?_
          refine PW.vret hX hR dX7_take_247 rfl rfl ?_
          exact ⟨rfl, rfl⟩
        · try rw [nI_leI (by omega) (by omega)] at c100
          exfalso; omega -- CLOSED
      · have ez : Z.1 k = ctr C k := z2 k (Nat.le_refl _)
        obtain ⟨q1, q2⟩ := htr k (by omega)
        have b10 := h3 (10 + ctr C k / 10) (by omega)
        have ek : gvC (mno M) C t (k + 1) = bif tkB (mno M) C t k (ctr C k) then (Z.1, Z.2.1, upd Z.2.2 (ctr C k) (nI (mno M (50 + t)))) else (va_up Z.1 Z.2.1 (ctr C k), Z.2.1 + 1, Z.2.2) := by
          show gvM (tkB (mno M) C t) (mno M (50 + t)) (ctr C) (cho C) (k + 1) = _
          rw [gvM, hZ', ez]
        have tI := mTk_iff (mno M) (mno M (40 + t)) (mno M (60 + t)) (mno M (50 + t)) (cly C) nt (mWh (mno M) C) k (ctr C k)
        have eT : tkB (mno M) C t = mTk (mno M) (mno M (40 + t)) (mno M (60 + t)) (mno M (50 + t)) (cly C) nt (mWh (mno M) C) := by unfold tkB; rw [hnt]
        rw [← eT] at tI
        generalize mno M (40 + t) = kd at *
        generalize mno M (50 + t) = o at *
        generalize mno M (60 + t) = fg at *
        have nx := ih (k + 1) (by omega) (by omega)
        have h205 : ∀ (b : Bool) (hs : Int32), tkB (mno M) C t k (ctr C k) = b → PW X 205 [some (.ref 0), some (.int (nI t)), some (.int (nI kd)), some (.int (nI o)), some (.int (nI fg)), some (.int (bI nt)), some (.int (nI Z.2.1)), some (.int (nI (cly C))), some (.int (nI k)), some (.int (nI (ctr C k))), some (.int hs), none] [.int (bI b)] (mdB (sC M (cle C, cou C, coa C, cos C, Z.1, cly C, Z.2.2, fun q => if q < mno M 0 then bI (mWh (mno M) C q) else cwh C q))) 0 0 := by
          intro b hs hb
          rw [hb] at ek
          cases b with
          | true =>
            have n2 := nx _ ek
            refine PW.istore hX dX7_take_205 rfl ?_
            refine PW.iload hX dX7_take_207 rfl ?_
            refine PW.if_eq (tgt := 223) hX dX7_take_209 (by decide) (fun c209 => ?_) (fun c209 => ?_)
            · first | rw [bI_d0] at c209 | rw [bI_eq0] at c209 | rw [nI_eq0 (by omega)] at c209 | skip
              exact absurd c209 (by decide) -- CLOSED
            · first | rw [bI_d0] at c209 | rw [bI_eq0] at c209 | rw [nI_eq0 (by omega)] at c209 | skip
              refine PW.aload_n hX dX7_take_212 rfl rfl ?_
              refine PW.getfield hX fl_X7_47 dX7_take_213 rfl rfl ?_
              refine PW.iload hX dX7_take_216 rfl ?_
              refine PW.iload_n hX dX7_take_218 rfl rfl ?_
              refine PW.iastore (k := ctr C k) hX dX7_take_219 rfl rfl rfl (by omega) ?_
              refine PW.goto (tgt := 235) hX dX7_take_220 (by decide) ?_
              first | refine PW.iinc hX dX7_take_235 rfl (iincN _) ?_ | refine PW.iinc hX dX7_take_235 rfl rfl ?_
              refine PW.goto (tgt := 96) hX dX7_take_238 (by decide) ?_
              refine PW.clr 9 (PW.clr 10 (PW.clr 11 ?_))
              exact n2
          | false =>
            have n2 := nx _ ek
            refine PW.istore hX dX7_take_205 rfl ?_
            refine PW.iload hX dX7_take_207 rfl ?_
            refine PW.if_eq (tgt := 223) hX dX7_take_209 (by decide) (fun c209 => ?_) (fun c209 => ?_)
            · first | rw [bI_d0] at c209 | rw [bI_eq0] at c209 | rw [nI_eq0 (by omega)] at c209 | skip
              refine PW.aload_n hX dX7_take_223 rfl rfl ?_
              refine PW.getfield hX fl_X7_44 dX7_take_224 rfl rfl ?_
              refine PW.iload hX dX7_take_227 rfl ?_
              refine PW.iload hX dX7_take_229 rfl ?_
              refine PW.iastore (k := Z.2.1) hX dX7_take_231 rfl rfl rfl (by omega) ?_
              refine PW.heap (md_tr M (cle C, cou C, coa C, cos C, Z.1, cly C, Z.2.2, fun q => if q < mno M 0 then bI (mWh (mno M) C q) else cwh C q) Z.2.1 (ctr C k)) ?_
              first | refine PW.iinc hX dX7_take_232 rfl (iincN _) ?_ | refine PW.iinc hX dX7_take_232 rfl rfl ?_
              first | refine PW.iinc hX dX7_take_235 rfl (iincN _) ?_ | refine PW.iinc hX dX7_take_235 rfl rfl ?_
              refine PW.goto (tgt := 96) hX dX7_take_238 (by decide) ?_
              refine PW.clr 9 (PW.clr 10 (PW.clr 11 ?_))
              exact n2
            · first | rw [bI_d0] at c209 | rw [bI_eq0] at c209 | rw [nI_eq0 (by omega)] at c209 | skip
              exact absurd rfl c209 -- CLOSED
        have h200 : ∀ hs : Int32, tkB (mno M) C t k (ctr C k) = true → PW X 200 [some (.ref 0), some (.int (nI t)), some (.int (nI kd)), some (.int (nI o)), some (.int (nI fg)), some (.int (bI nt)), some (.int (nI Z.2.1)), some (.int (nI (cly C))), some (.int (nI k)), some (.int (nI (ctr C k))), some (.int hs), none] [] (mdB (sC M (cle C, cou C, coa C, cos C, Z.1, cly C, Z.2.2, fun q => if q < mno M 0 then bI (mWh (mno M) C q) else cwh C q))) 0 0 := by
          intro hs hb
          have n2 := h205 true hs hb
          refine PW.iconst (v := nI 1) hX dX7_take_200 (by decide) ?_
          refine PW.goto (tgt := 205) hX dX7_take_201 (by decide) ?_
          exact n2
        have h204 : ∀ hs : Int32, tkB (mno M) C t k (ctr C k) = false → PW X 204 [some (.ref 0), some (.int (nI t)), some (.int (nI kd)), some (.int (nI o)), some (.int (nI fg)), some (.int (bI nt)), some (.int (nI Z.2.1)), some (.int (nI (cly C))), some (.int (nI k)), some (.int (nI (ctr C k))), some (.int hs), none] [] (mdB (sC M (cle C, cou C, coa C, cos C, Z.1, cly C, Z.2.2, fun q => if q < mno M 0 then bI (mWh (mno M) C q) else cwh C q))) 0 0 := by
          intro hs hb
          have n2 := h205 false hs hb
          refine PW.iconst (v := nI 0) hX dX7_take_204 (by decide) ?_
          exact n2
        have h188 : ∀ hs : Int32, ¬ kd = 0 → ¬ (mno M (10 + ctr C k / 10) = o ∧ (kd = 1 ∨ (nt = true ∨ (kd = 5 ∧ mWh (mno M) C (ctr C k / 10) = true)))) → ¬ (kd = 2 ∧ cly C ≤ k + fg) → PW X 188 [some (.ref 0), some (.int (nI t)), some (.int (nI kd)), some (.int (nI o)), some (.int (nI fg)), some (.int (bI nt)), some (.int (nI Z.2.1)), some (.int (nI (cly C))), some (.int (nI k)), some (.int (nI (ctr C k))), some (.int hs), none] [] (mdB (sC M (cle C, cou C, coa C, cos C, Z.1, cly C, Z.2.2, fun q => if q < mno M 0 then bI (mWh (mno M) C q) else cwh C q))) 0 0 := by
          intro hs a1 a2 a3
          have n0 := h200 hs
          have n4 := h204 hs
          refine PW.iload_n hX dX7_take_188 rfl rfl ?_
          refine PW.iconst (v := nI 4) hX dX7_take_189 (by decide) ?_
          refine PW.icmp_ne (tgt := 204) hX dX7_take_190 (by decide) (fun c190 => ?_) (fun c190 => ?_)
          · first | rw [nI_eq (by omega) (by omega)] at c190 | rw [oI_eq9] at c190 | skip
            exact n4 (Bool.eq_false_iff.mpr (fun q => (tI.mp q).elim a1 (fun q => q.elim a2 (fun q => q.elim a3 (fun q => c190 q.1)))))
          · first | rw [nI_eq (by omega) (by omega)] at c190 | rw [oI_eq9] at c190 | skip
            refine PW.iload hX dX7_take_193 rfl ?_
            refine PW.iload hX dX7_take_195 rfl ?_
            refine PW.icmp_ge (tgt := 204) hX dX7_take_197 (by decide) (fun c197 => ?_) (fun c197 => ?_)
            · try rw [nI_leI (by omega) (by omega)] at c197
              exact n4 (Bool.eq_false_iff.mpr (fun q => (tI.mp q).elim a1 (fun q => q.elim a2 (fun q => q.elim a3 (fun q => by omega)))))
            · try rw [nI_leI (by omega) (by omega)] at c197
              exact n0 (tI.mpr (Or.inr (Or.inr (Or.inr ⟨c190, by omega⟩))))
        have h173 : ∀ hs : Int32, ¬ kd = 0 → ¬ (mno M (10 + ctr C k / 10) = o ∧ (kd = 1 ∨ (nt = true ∨ (kd = 5 ∧ mWh (mno M) C (ctr C k / 10) = true)))) → PW X 173 [some (.ref 0), some (.int (nI t)), some (.int (nI kd)), some (.int (nI o)), some (.int (nI fg)), some (.int (bI nt)), some (.int (nI Z.2.1)), some (.int (nI (cly C))), some (.int (nI k)), some (.int (nI (ctr C k))), some (.int hs), none] [] (mdB (sC M (cle C, cou C, coa C, cos C, Z.1, cly C, Z.2.2, fun q => if q < mno M 0 then bI (mWh (mno M) C q) else cwh C q))) 0 0 := by
          intro hs a1 a2
          have n0 := h200 hs
          have n8 := h188 hs a1 a2
          refine PW.iload_n hX dX7_take_173 rfl rfl ?_
          refine PW.iconst (v := nI 2) hX dX7_take_174 (by decide) ?_
          refine PW.icmp_ne (tgt := 188) hX dX7_take_175 (by decide) (fun c175 => ?_) (fun c175 => ?_)
          · first | rw [nI_eq (by omega) (by omega)] at c175 | rw [oI_eq9] at c175 | skip
            exact n8 (fun q => c175 q.1)
          · first | rw [nI_eq (by omega) (by omega)] at c175 | rw [oI_eq9] at c175 | skip
            refine PW.iload hX dX7_take_178 rfl ?_
            refine PW.iload hX dX7_take_180 rfl ?_
            refine PW.iload hX dX7_take_182 rfl ?_
            refine PW.isub hX dX7_take_184 ?_
            refine PW.icmp_ge (tgt := 200) hX dX7_take_185 (by decide) (fun c185 => ?_) (fun c185 => ?_)
            · try rw [nI_leI (by omega) (by omega)] at c185
              rw [← i32_nlt, nI_lt_sub (by omega) (by omega) (by omega)] at c185
              exact n0 (tI.mpr (Or.inr (Or.inr (Or.inl ⟨c175, by omega⟩))))
            · try rw [nI_leI (by omega) (by omega)] at c185
              rw [i32_nle, nI_lt_sub (by omega) (by omega) (by omega)] at c185
              exact n8 (fun q => by omega)
        have h134 : ∀ b : Bool, decide (mno M (10 + ctr C k / 10) = o) = b → PW X 134 [some (.ref 0), some (.int (nI t)), some (.int (nI kd)), some (.int (nI o)), some (.int (nI fg)), some (.int (bI nt)), some (.int (nI Z.2.1)), some (.int (nI (cly C))), some (.int (nI k)), some (.int (nI (ctr C k))), none, none] [.int (bI b)] (mdB (sC M (cle C, cou C, coa C, cos C, Z.1, cly C, Z.2.2, fun q => if q < mno M 0 then bI (mWh (mno M) C q) else cwh C q))) 0 0 := by
          intro b hb
          have n0 := h200 (bI b)
          have n3 := h173 (bI b)
          cases b with
          | false =>
            have ho := of_decide_eq_false hb
            refine PW.istore hX dX7_take_134 rfl ?_
            refine PW.iload_n hX dX7_take_136 rfl rfl ?_
            refine PW.if_eq (tgt := 200) hX dX7_take_137 (by decide) (fun c137 => ?_) (fun c137 => ?_)
            · first | rw [bI_d0] at c137 | rw [bI_eq0] at c137 | rw [nI_eq0 (by omega)] at c137 | skip
              exact n0 (tI.mpr (Or.inl c137))
            · first | rw [bI_d0] at c137 | rw [bI_eq0] at c137 | rw [nI_eq0 (by omega)] at c137 | skip
              refine PW.iload hX dX7_take_140 rfl ?_
              refine PW.if_eq (tgt := 173) hX dX7_take_142 (by decide) (fun c142 => ?_) (fun c142 => ?_)
              · first | rw [bI_d0] at c142 | rw [bI_eq0] at c142 | rw [nI_eq0 (by omega)] at c142 | skip
                exact n3 c137 (fun q => ho q.1)
              · first | rw [bI_d0] at c142 | rw [bI_eq0] at c142 | rw [nI_eq0 (by omega)] at c142 | skip
                exact absurd rfl c142 -- CLOSED
          | true =>
            have ho := of_decide_eq_true hb
            refine PW.istore hX dX7_take_134 rfl ?_
            refine PW.iload_n hX dX7_take_136 rfl rfl ?_
            refine PW.if_eq (tgt := 200) hX dX7_take_137 (by decide) (fun c137 => ?_) (fun c137 => ?_)
            · first | rw [bI_d0] at c137 | rw [bI_eq0] at c137 | rw [nI_eq0 (by omega)] at c137 | skip
              exact n0 (tI.mpr (Or.inl c137))
            · first | rw [bI_d0] at c137 | rw [bI_eq0] at c137 | rw [nI_eq0 (by omega)] at c137 | skip
              refine PW.iload hX dX7_take_140 rfl ?_
              refine PW.if_eq (tgt := 173) hX dX7_take_142 (by decide) (fun c142 => ?_) (fun c142 => ?_)
              · first | rw [bI_d0] at c142 | rw [bI_eq0] at c142 | rw [nI_eq0 (by omega)] at c142 | skip
                exact absurd c142 (by decide) -- CLOSED
              · first | rw [bI_d0] at c142 | rw [bI_eq0] at c142 | rw [nI_eq0 (by omega)] at c142 | skip
                refine PW.iload_n hX dX7_take_145 rfl rfl ?_
                refine PW.iconst (v := nI 1) hX dX7_take_146 (by decide) ?_
                refine PW.icmp_eq (tgt := 200) hX dX7_take_147 (by decide) (fun c147 => ?_) (fun c147 => ?_)
                · first | rw [nI_eq (by omega) (by omega)] at c147 | rw [oI_eq9] at c147 | skip
                  exact n0 (tI.mpr (Or.inr (Or.inl ⟨ho, Or.inl c147⟩)))
                · first | rw [nI_eq (by omega) (by omega)] at c147 | rw [oI_eq9] at c147 | skip
                  refine PW.iload hX dX7_take_150 rfl ?_
                  refine PW.if_ne (tgt := 200) hX dX7_take_152 (by decide) (fun c152 => ?_) (fun c152 => ?_)
                  · first | rw [bI_d0] at c152 | rw [bI_eq0] at c152 | rw [nI_eq0 (by omega)] at c152 | skip
                    exact n0 (tI.mpr (Or.inr (Or.inl ⟨ho, Or.inr (Or.inl ((Bool.not_eq_false _).mp c152))⟩)))
                  · first | rw [bI_d0] at c152 | rw [bI_eq0] at c152 | rw [nI_eq0 (by omega)] at c152 | skip
                    refine PW.iload_n hX dX7_take_155 rfl rfl ?_
                    refine PW.iconst (v := nI 5) hX dX7_take_156 (by decide) ?_
                    refine PW.icmp_ne (tgt := 173) hX dX7_take_157 (by decide) (fun c157 => ?_) (fun c157 => ?_)
                    · first | rw [nI_eq (by omega) (by omega)] at c157 | rw [oI_eq9] at c157 | skip
                      exact n3 c137 (fun q => q.2.elim c147 (fun q => q.elim (fun q => by rw [c152] at q; cases q) (fun q => c157 q.1)))
                    · first | rw [nI_eq (by omega) (by omega)] at c157 | rw [oI_eq9] at c157 | skip
                      refine PW.aload_n hX dX7_take_160 rfl rfl ?_
                      refine PW.getfield hX fl_X7_50 dX7_take_161 rfl rfl ?_
                      refine PW.iload hX dX7_take_164 rfl ?_
                      refine PW.bipush (v := nI 10) hX dX7_take_166 (by decide) ?_
                      refine PW.idiv hX dX7_take_168 (by decide) ?_
                      refine PW.top (div10 (show ctr C k < 2 ^ 31 by omega)) ?_
                      refine PW.baload (k := ctr C k / 10) hX dX7_take_169 rfl rfl rfl (by omega) ?_
                      refine PW.top (show _ = bI (mWh (mno M) C (ctr C k / 10)) from if_pos q2) ?_
                      refine PW.if_ne (tgt := 200) hX dX7_take_170 (by decide) (fun c170 => ?_) (fun c170 => ?_)
                      · first | rw [bI_d0] at c170 | rw [bI_eq0] at c170 | rw [nI_eq0 (by omega)] at c170 | skip
                        exact n0 (tI.mpr (Or.inr (Or.inl ⟨ho, Or.inr (Or.inr ⟨c157, (Bool.not_eq_false _).mp c170⟩)⟩)))
                      · first | rw [bI_d0] at c170 | rw [bI_eq0] at c170 | rw [nI_eq0 (by omega)] at c170 | skip
                        exact n3 c137 (fun q => q.2.elim c147 (fun q => q.elim (fun q => by rw [c152] at q; cases q) (fun q => by rw [c170] at q; cases q.2)))
        refine PW.iload hX dX7_take_96 rfl ?_
        refine PW.iload hX dX7_take_98 rfl ?_
        refine PW.icmp_ge (tgt := 241) hX dX7_take_100 (by decide) (fun c100 => ?_) (fun c100 => ?_)
        · try rw [nI_leI (by omega) (by omega)] at c100
          exfalso; omega -- CLOSED
        · try rw [nI_leI (by omega) (by omega)] at c100
          refine PW.aload_n hX dX7_take_103 rfl rfl ?_
          refine PW.getfield hX fl_X7_44 dX7_take_104 rfl rfl ?_
          refine PW.iload hX dX7_take_107 rfl ?_
          refine PW.iaload (k := k) hX dX7_take_109 rfl rfl rfl (by omega) ?_
          refine PW.top (show _ = nI (ctr C k) from congrArg nI ez) ?_
          refine PW.istore hX dX7_take_110 rfl ?_
          refine PW.aload_n hX dX7_take_112 rfl rfl ?_
          refine PW.getfield hX fl_X7_13 dX7_take_113 rfl rfl ?_
          refine PW.bipush (v := nI 10) hX dX7_take_116 (by decide) ?_
          refine PW.iload hX dX7_take_118 rfl ?_
          refine PW.bipush (v := nI 10) hX dX7_take_120 (by decide) ?_
          refine PW.idiv hX dX7_take_122 (by decide) ?_
          refine PW.top (div10 (show ctr C k < 2 ^ 31 by omega)) ?_
          refine PW.iadd hX dX7_take_123 ?_
          refine PW.top (nI_add 10 (ctr C k / 10)) ?_
          refine PW.iaload (k := 10 + ctr C k / 10) hX dX7_take_124 rfl rfl rfl (by omega) ?_
          refine PW.top (show _ = nI (mno M (10 + ctr C k / 10)) from rfl) ?_
          refine PW.iload_n hX dX7_take_125 rfl rfl ?_
          refine PW.icmp_ne (tgt := 133) hX dX7_take_126 (by decide) (fun c126 => ?_) (fun c126 => ?_)
          · first | rw [nI_eq (by omega) (by omega)] at c126 | rw [oI_eq9] at c126 | skip
            refine PW.iconst (v := nI 0) hX dX7_take_133 (by decide) ?_
            exact h134 false (decide_eq_false c126)
          · first | rw [nI_eq (by omega) (by omega)] at c126 | rw [oI_eq9] at c126 | skip
            refine PW.iconst (v := nI 1) hX dX7_take_129 (by decide) ?_
            refine PW.goto (tgt := 134) hX dX7_take_130 (by decide) ?_
            exact h134 true (decide_eq_true c126)
  have loop1 : ∀ nt, (decide (mno M (40 + t) = 3) && mSome (mno M) C (mno M (50 + t)) (mno M 0)) = nt → ∀ n j : Nat, j ≤ mno M 0 → mno M 0 < j + n → PW X 54 [some (.ref 0), some (.int (nI t)), some (.int (nI (mno M (40 + t)))), some (.int (nI (mno M (50 + t)))), some (.int (nI (mno M (60 + t)))), some (.int (bI nt)), some (.int (nI j)), none, none, none, none, none] [] (mdB (sC M (cle C, cou C, coa C, cos C, ctr C, cly C, cho C, fun q => if q < j then bI (mWh (mno M) C q) else cwh C q))) 0 0 := by
    intro nt hnt n
    induction n with
    | zero => intro j h1 h2; exact absurd h2 (by omega)
    | succ n ih =>
      intro j h1 h2
      by_cases hj : j = mno M 0
      · subst hj
        have nx := loop2 nt hnt (cly C + 1) 0 (by omega) (by omega) _ rfl
        refine PW.iload hX dX7_take_54 rfl ?_
        refine PW.aload_n hX dX7_take_56 rfl rfl ?_
        refine PW.getfield hX fl_X7_13 dX7_take_57 rfl rfl ?_
        refine PW.iconst (v := nI 0) hX dX7_take_60 (by decide) ?_
        refine PW.iaload (k := 0) hX dX7_take_61 rfl rfl rfl (by decide) ?_
        refine PW.top (show _ = nI (mno M 0) from rfl) ?_
        refine PW.icmp_ge (tgt := 84) hX dX7_take_62 (by decide) (fun c62 => ?_) (fun c62 => ?_)
        · try rw [nI_leI (by omega) (by omega)] at c62
          refine PW.iconst (v := nI 0) hX dX7_take_84 (by decide) ?_
          refine PW.istore hX dX7_take_85 rfl ?_
          refine PW.aload_n hX dX7_take_87 rfl rfl ?_
          refine PW.getfield hX fl_X7_116 dX7_take_88 rfl rfl ?_
          refine PW.istore hX dX7_take_91 rfl ?_
          refine PW.iconst (v := nI 0) hX dX7_take_93 (by decide) ?_
          refine PW.istore hX dX7_take_94 rfl ?_
          exact nx
        · try rw [nI_leI (by omega) (by omega)] at c62
          exfalso; omega -- CLOSED
      · have nx := ih (j + 1) (by omega) (by omega)
        have cW := pm_mwhole M (cle C, cou C, coa C, cos C, ctr C, cly C, cho C, fun q => if q < j then bI (mWh (mno M) C q) else cwh C q) j (by omega) hly htr1 (hsh j (by omega))
        have eh : (mdB (sC M (cle C, cou C, coa C, cos C, ctr C, cly C, cho C, fun q => if q < j then bI (mWh (mno M) C q) else cwh C q))).set 14 (.inl (2, 6, upd (fun q => if q < j then bI (mWh (mno M) C q) else cwh C q) j (vp_nar .boolean (bI (mWh (mno M) C j))))) = mdB (sC M (cle C, cou C, coa C, cos C, ctr C, cly C, cho C, fun q => if q < j + 1 then bI (mWh (mno M) C q) else cwh C q)) := by
          rw [nar_b, pfUpI (fun q => bI (mWh (mno M) C q)) (cwh C) j]
          rfl
        refine PW.iload hX dX7_take_54 rfl ?_
        refine PW.aload_n hX dX7_take_56 rfl rfl ?_
        refine PW.getfield hX fl_X7_13 dX7_take_57 rfl rfl ?_
        refine PW.iconst (v := nI 0) hX dX7_take_60 (by decide) ?_
        refine PW.iaload (k := 0) hX dX7_take_61 rfl rfl rfl (by decide) ?_
        refine PW.top (show _ = nI (mno M 0) from rfl) ?_
        refine PW.icmp_ge (tgt := 84) hX dX7_take_62 (by decide) (fun c62 => ?_) (fun c62 => ?_)
        · try rw [nI_leI (by omega) (by omega)] at c62
          exfalso; omega -- CLOSED
        · try rw [nI_leI (by omega) (by omega)] at c62
          refine PW.aload_n hX dX7_take_65 rfl rfl ?_
          refine PW.getfield hX fl_X7_50 dX7_take_66 rfl rfl ?_
          refine PW.iload hX dX7_take_69 rfl ?_
          refine PW.aload_n hX dX7_take_71 rfl rfl ?_
          refine PW.iload hX dX7_take_72 rfl ?_
          refine PW.vIi hX ml_X7_119 (cW) dX7_take_74 17 rfl rfl rfl rfl rfl rfl rfl rfl rfl rfl rfl rfl rfl rfl rfl ?_
          refine PW.bastore (k := j) hX dX7_take_77 rfl rfl rfl (by omega) ?_
          refine PW.heap eh ?_
          first | refine PW.iinc hX dX7_take_78 rfl (iincN _) ?_ | refine PW.iinc hX dX7_take_78 rfl rfl ?_
          refine PW.goto (tgt := 54) hX dX7_take_81 (by decide) ?_
          exact nx
  have h49 : ∀ nt, (decide (mno M (40 + t) = 3) && mSome (mno M) C (mno M (50 + t)) (mno M 0)) = nt → PW X 49 [some (.ref 0), some (.int (nI t)), some (.int (nI (mno M (40 + t)))), some (.int (nI (mno M (50 + t)))), some (.int (nI (mno M (60 + t)))), none, none, none, none, none, none, none] [.int (bI nt)] (mdB (sC M C)) 0 0 := by
    intro nt hnt
    have nx := loop1 nt hnt (mno M 0 + 1) 0 (by omega) (by omega)
    simp only [Nat.not_lt_zero, if_false] at nx
    refine PW.istore hX dX7_take_49 rfl ?_
    refine PW.iconst (v := nI 0) hX dX7_take_51 (by decide) ?_
    refine PW.istore hX dX7_take_52 rfl ?_
    exact nx
  refine PW.aload_n hX dX7_take_0 rfl rfl ?_
  refine PW.getfield hX fl_X7_13 dX7_take_1 rfl rfl ?_
  refine PW.bipush (v := nI 40) hX dX7_take_4 (by decide) ?_
  refine PW.iload_n hX dX7_take_6 rfl rfl ?_
  refine PW.iadd hX dX7_take_7 ?_
  refine PW.top (show _ = nI (40 + t) from nI_add 40 t) ?_
  refine PW.iaload hX dX7_take_8 rfl rfl rfl (by omega) ?_
  refine PW.top (show _ = nI (mno M (40 + t)) from rfl) ?_
  refine PW.istore_n hX dX7_take_9 rfl rfl ?_
  refine PW.aload_n hX dX7_take_10 rfl rfl ?_
  refine PW.getfield hX fl_X7_13 dX7_take_11 rfl rfl ?_
  refine PW.bipush (v := nI 50) hX dX7_take_14 (by decide) ?_
  refine PW.iload_n hX dX7_take_16 rfl rfl ?_
  refine PW.iadd hX dX7_take_17 ?_
  refine PW.top (show _ = nI (50 + t) from nI_add 50 t) ?_
  refine PW.iaload hX dX7_take_18 rfl rfl rfl (by omega) ?_
  refine PW.top (show _ = nI (mno M (50 + t)) from rfl) ?_
  refine PW.istore_n hX dX7_take_19 rfl rfl ?_
  refine PW.aload_n hX dX7_take_20 rfl rfl ?_
  refine PW.getfield hX fl_X7_13 dX7_take_21 rfl rfl ?_
  refine PW.bipush (v := nI 60) hX dX7_take_24 (by decide) ?_
  refine PW.iload_n hX dX7_take_26 rfl rfl ?_
  refine PW.iadd hX dX7_take_27 ?_
  refine PW.top (show _ = nI (60 + t) from nI_add 60 t) ?_
  refine PW.iaload hX dX7_take_28 rfl rfl rfl (by omega) ?_
  refine PW.top (show _ = nI (mno M (60 + t)) from rfl) ?_
  refine PW.istore hX dX7_take_29 rfl ?_
  refine PW.iload_n hX dX7_take_31 rfl rfl ?_
  refine PW.iconst (v := nI 3) hX dX7_take_32 (by decide) ?_
  refine PW.icmp_ne (tgt := 48) hX dX7_take_33 (by decide) (fun c33 => ?_) (fun c33 => ?_)
  · first | rw [nI_eq (by omega) (by omega)] at c33 | rw [oI_eq9] at c33 | skip
    refine PW.iconst (v := nI 0) hX dX7_take_48 (by decide) ?_
    exact h49 false (by rw [decide_eq_false c33]; rfl)
  · first | rw [nI_eq (by omega) (by omega)] at c33 | rw [oI_eq9] at c33 | skip
    refine PW.aload_n hX dX7_take_36 rfl rfl ?_
    refine PW.iload_n hX dX7_take_37 rfl rfl ?_
    refine PW.vIi hX ml_X7_123 (cS) dX7_take_38 17 rfl rfl rfl rfl rfl rfl rfl rfl rfl rfl rfl rfl rfl rfl rfl ?_
    refine PW.if_eq (tgt := 48) hX dX7_take_41 (by decide) (fun c41 => ?_) (fun c41 => ?_)
    · first | rw [bI_d0] at c41 | rw [bI_eq0] at c41 | rw [nI_eq0 (by omega)] at c41 | skip
      refine PW.iconst (v := nI 0) hX dX7_take_48 (by decide) ?_
      exact h49 false (by rw [c41, Bool.and_false])
    · first | rw [bI_d0] at c41 | rw [bI_eq0] at c41 | rw [nI_eq0 (by omega)] at c41 | skip
      refine PW.iconst (v := nI 1) hX dX7_take_44 (by decide) ?_
      refine PW.goto (tgt := 49) hX dX7_take_45 (by decide) ?_
      exact h49 true (by rw [decide_eq_true c33, (Bool.not_eq_false _).mp c41]; rfl)
