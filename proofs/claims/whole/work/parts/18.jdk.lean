/-! ===== the two texts (refs 1000, 1001; their bytes 1010, 1011) ===== -/
section Txt
variable {X : Cx} {cc : ByteArray} {own : String} {ret : Option FieldType} {d mc ms : Nat} {pc : Nat} {L : List (Option Value)} {st rest : List Value} {h : List PCell} {kc ks : Nat} {μ : MI} {d' n : Nat} {As : List Value} {v : Int32}
theorem PW.tval (hX : Fx X cc own ret d mc ms) {idx i : Nat} (hi : i < 2) (hl : Cond.fieldLink own idx "java/lang/String" "value" "[B" ∈ AW) (hd : decode cc pc = .ok (.getfield idx, 3)) (kk : PW X (pc + 3) L (.ref (1010 + i) :: st) h kc ks) : PW X pc L (.ref (1000 + i) :: st) h kc ks := by
  intro a H locs ls S
  have e1 : a (1000 + i) = cxa X (1000 + i) := S.2.2.2.1 _ (Or.inr (by omega))
  have e2 : a (1010 + i) = cxa X (1010 + i) := S.2.2.2.1 _ (Or.inr (by omega))
  have k9 : WW X H locs kc ks (pc + 3) ls (.ref (a (1010 + i)) :: st.map (tV a)) := kk a H locs ls S
  show WW X H locs kc ks pc ls (.ref (a (1000 + i)) :: st.map (tV a))
  rw [e1]
  rw [e2] at k9
  exact vk_getf hX.x hX.b ((hX.K.2.2.1.1 i hi).2.2.1) S.2.2.1 hX.ow (hX.ts _ hl) (fun _ h => h) hd k9
theorem PW.tcod (hX : Fx X cc own ret d mc ms) {idx i : Nat} (hi : i < 2) (hl : Cond.fieldLink own idx "java/lang/String" "coder" "B" ∈ AW) (hd : decode cc pc = .ok (.getfield idx, 3)) (kk : PW X (pc + 3) L (.int 0 :: st) h kc ks) : PW X pc L (.ref (1000 + i) :: st) h kc ks := by
  intro a H locs ls S
  have e1 : a (1000 + i) = cxa X (1000 + i) := S.2.2.2.1 _ (Or.inr (by omega))
  have k9 : WW X H locs kc ks (pc + 3) ls (.int 0 :: st.map (tV a)) := kk a H locs ls S
  show WW X H locs kc ks pc ls (.ref (a (1000 + i)) :: st.map (tV a))
  rw [e1]
  exact vk_getf hX.x hX.b ((hX.K.2.2.1.1 i hi).2.1) S.2.2.1 hX.ow (hX.ts _ hl) (fun _ h => h) hd k9
theorem PW.tcmp (hX : Fx X cc own ret d mc ms) {idx : Nat} (hl : Cond.fieldLink own idx "java/lang/String" "COMPACT_STRINGS" "Z" ∈ AW) (hd : decode cc pc = .ok (.getstatic idx, 3)) (kk : PW X (pc + 3) L (.int 1 :: st) h kc ks) : PW X pc L st h kc ks := by
  intro a H locs ls S
  exact va_gets hX.x hX.b hX.K.2.2.2.2.2.2 S.2.2.1 hX.ow (hX.ts _ hl) (fun _ h => h) hd (kk a H locs ls S)
theorem PW.tlen (hX : Fx X cc own ret d mc ms) {i : Nat} (hi : i < 2) (hd : decode cc pc = .ok (.arraylength, 1)) (kk : PW X (pc + 1) L (.int (nI 6) :: st) h kc ks) : PW X pc L (.ref (1010 + i) :: st) h kc ks := by
  intro a H locs ls S
  have e2 : a (1010 + i) = cxa X (1010 + i) := S.2.2.2.1 _ (Or.inr (by omega))
  have k9 : WW X H locs kc ks (pc + 1) ls (.int (nI 6) :: st.map (tV a)) := kk a H locs ls S
  show WW X H locs kc ks pc ls (.ref (a (1010 + i)) :: st.map (tV a))
  rw [e2]
  exact va_tlen hX.x hX.b ((hX.K.2.2.1.1 i hi).2.2.2) S.2.2.1 (by rcases (show i = 0 ∨ i = 1 by omega) with rfl | rfl <;> rfl) hd k9
def txC (i k : Nat) : Int32 := (txB.getD i []).getD k 0
theorem PW.tbald (hX : Fx X cc own ret d mc ms) {i k : Nat} (hi : i < 2) (hk : k < 6) (hd : decode cc pc = .ok (.baload, 1)) (kk : PW X (pc + 1) L (.int (txC i k) :: st) h kc ks) : PW X pc L (.int (nI k) :: .ref (1010 + i) :: st) h kc ks := by
  intro a H locs ls S
  have e2 : a (1010 + i) = cxa X (1010 + i) := S.2.2.2.1 _ (Or.inr (by omega))
  have k9 : WW X H locs kc ks (pc + 1) ls (.int (txC i k) :: st.map (tV a)) := kk a H locs ls S
  show WW X H locs kc ks pc ls (.int (nI k) :: .ref (a (1010 + i)) :: st.map (tV a))
  rw [e2]
  have hT := (hX.K.2.2.1.1 i hi).2.2.2
  have h6 : ([6, 6] : List Nat).getD i 0 = 6 := by rcases (show i = 0 ∨ i = 1 by omega) with rfl | rfl <;> rfl
  rw [h6] at hT
  exact va_tb hX.x hX.b hT S.2.2.1 (vp_in_nI hk (by decide)) (by rw [nI_clamp (by omega)]; rfl) hd k9
theorem PW.ldcT0 (hX : Fx X cc RX4 ret d mc ms) (hd : decode cc pc = .ok (.ldc 44, 2)) (kk : PW X (pc + 2) L (.ref (1000 + 0) :: st) h kc ks) : PW X pc L st h kc ks := by
  intro a H locs ls S
  have e1 : a 1000 = cxa X 1000 := S.2.2.2.1 _ (Or.inr (by omega))
  have k9 : WW X H locs kc ks (pc + 2) ls (.ref (a 1000) :: st.map (tV a)) := kk a H locs ls S
  rw [e1] at k9
  exact va_ldcS hX.x hX.b hX.ow hX.K.2.2.2.1 hd k9
theorem PW.ldcT1 (hX : Fx X cc RX4 ret d mc ms) (hd : decode cc pc = .ok (.ldc 57, 2)) (kk : PW X (pc + 2) L (.ref (1000 + 1) :: st) h kc ks) : PW X pc L st h kc ks := by
  intro a H locs ls S
  have e1 : a 1001 = cxa X 1001 := S.2.2.2.1 _ (Or.inr (by omega))
  have k9 : WW X H locs kc ks (pc + 2) ls (.ref (a 1001) :: st.map (tV a)) := kk a H locs ls S
  rw [e1] at k9
  exact va_ldcS hX.x hX.b hX.ow hX.K.2.2.2.2.1 hd k9
theorem PW.ldcP (hX : Fx X cc RX6 ret d mc ms) (hd : decode cc pc = .ok (.ldc 107, 2)) (kk : PW X (pc + 2) L (.ref (1000 + 0) :: st) h kc ks) : PW X pc L st h kc ks := by
  intro a H locs ls S
  have e1 : a 1000 = cxa X 1000 := S.2.2.2.1 _ (Or.inr (by omega))
  have k9 : WW X H locs kc ks (pc + 2) ls (.ref (a 1000) :: st.map (tV a)) := kk a H locs ls S
  rw [e1] at k9
  exact va_ldcS hX.x hX.b hX.ow hX.K.2.2.2.2.2.1 hd k9
/-- a call on a text -/
theorem PW.tR (hX : Fx X cc own ret d mc ms) {idx i : Nat} (hm : MSV own idx μ n) (hcl : μ.1.cls = "java/lang/String") (hi : i < 2) (hM : PM μ d' 0 0 (.ref (1000 + i) :: As) [] (eqP (some (.int v)) [])) (hd : decode cc pc = .ok (.invokevirtual idx, 3))
    (hst : st = As.reverse ++ .ref (1000 + i) :: rest) (hAs : As.all (okV 0) = true) (hn : As.length = n) (hdd : Nat.blt d' d = true) (hcc : Nat.ble kc mc = true) (hss : Nat.ble ks ms = true) (hr : Nat.ble ((rest.map fun v => v.category).sum) 8 = true)
    (kk : PW X (pc + 3) L (.int v :: rest) h kc ks) : PW X pc L st h kc ks := by
  refine PW.core (ι := []) (hc := []) (Φ := eqP (some (.int v)) []) (rest := rest) (mc' := 0) (ms' := 0) hX rfl rfl rfl (fun r h' hr => ?_) (fun a H locs ls S => ?_) (fun r h' hr => ?_)
  · obtain ⟨rfl, rfl⟩ := hr
    exact ⟨rfl, rfl, rfl⟩
  · obtain ⟨hPc, hDc, hFc, hKc⟩ := sub_P (ι := []) (hc := []) hX S rfl rfl rfl
    obtain ⟨hlk, hin, hcd, ⟨hb1, hb2, hb3⟩, hml, him, hse⟩ := hm
    obtain ⟨r1, r2, r3, r4⟩ := hX.r
    have hdd := Nat.blt_eq.mp hdd
    have hcc := Nat.ble_eq.mp hcc
    have hss := Nat.ble_eq.mp hss
    have e1 : a (1000 + i) = cxa X (1000 + i) := S.2.2.2.1 _ (Or.inr (by omega))
    have hfA : ∀ f g : Nat → Nat, (∀ i, 1000 ≤ i → f i = g i) → As.map (tV f) = As.map (tV g) := fun f g hfg => List.map_congr_left fun w hw => tV_congr (n := 0) (fun i hi => hfg i (by omega)) (List.all_eq_true.mp hAs w hw)
    refine ⟨((Value.ref (1000 + i) :: As).map (tV (fun i => a (rho [] 0 h.length i)))).toArray, ?_⟩
    have e0 : tV (fun i => a (rho [] 0 h.length i)) (.ref (1000 + i)) = .ref (cxa X (1000 + i)) := by
      show Value.ref (a (rho [] 0 h.length (1000 + i))) = _
      rw [rho_hi (by omega) (by omega), e1]
    have e2 : ((Value.ref (1000 + i) :: As).map (tV (fun i => a (rho [] 0 h.length i)))).toArray = (Value.ref (cxa X (1000 + i)) :: As.map (tV (fun i => a (rho [] 0 h.length i)))).toArray := by rw [List.map_cons, e0]
    rw [e2]
    refine va_runV (As := As.map (tV (fun i => a (rho [] 0 h.length i)))) (b := cxa X (1000 + i)) (C := μ.1.cls) (n := n) (rest := rest.map (tV a)) (Ts := AW) (nL := cxL X) ⟨hX.x, hX.b, hX.ml, hX.ow, hX.ts⟩ (hM (cxl X) (cxD X) (cxk X) (fun i => a (rho [] 0 h.length i)) H.size) (cwV n hX.ts (fun w hw => ?_) rfl rfl rfl ⟨rfl, hb1, hb2, hb3⟩ ⟨by show d' + 1 ≤ _; omega, by show 8 + (μ.2.2.1 + 11) + 32 * d' ≤ _; omega⟩) ⟨pmP_blind, by rw [hcl]; exact vk_recv (adK := fun i => cxa X (1000 + i)) (i := i) hX.K.2.2.1 hi S.2.2.1, fun U hU hW => ?_⟩ rfl (by simpa using hn) S.2.2.2.2.1 ?_ (cat_rest hr) hd ⟨by omega, by omega⟩
    · simp only [wsV, List.mem_append, List.mem_cons, List.not_mem_nil, or_false] at hw
      rcases hw with (rfl | rfl | rfl | rfl) | (rfl | hw)
      · exact good_ws _ hlk
      · exact good_ws _ him
      · exact good_ws _ hse
      · exact good_ws _ hin
      · exact good_ws _ hcd
      · exact good_ws _ hw
    · rw [← e2]
      exact pmP_of hPc hDc hKc U hU hW
    · show st.map (tV a) = _
      rw [hst, List.map_append, List.map_reverse, List.map_cons, hfA a (fun i => a (rho [] 0 h.length i)) (fun i hi => by rw [rho_hi (by omega) hi])]
      show _ ++ Value.ref (a (1000 + i)) :: _ = _
      rw [e1]
  · obtain ⟨rfl, rfl⟩ := hr
    exact kk
end Txt
theorem pm_coder (i : Nat) (hi : i < 2) : PM mu_J0_coder_7d493 0 0 0 [.ref (1000 + i)] [] (eqP (some (.int 0)) []) := by
  refine PM.start (Or.inr (by decide +kernel)) rfl rfl rfl ?_
  intro X hX hR hx hin
  refine PW.tcmp hX jf_J0_38 dJ0_coder_7d493_0 ?_
  refine PW.if_eq (tgt := 13) hX dJ0_coder_7d493_3 (by decide) (fun c3 => ?_) (fun c3 => ?_)
  · exact absurd c3 (by decide) -- CLOSED
  · refine PW.aload_n hX dJ0_coder_7d493_6 rfl rfl ?_
    refine PW.tcod hX hi jf_J0_15 dJ0_coder_7d493_7 ?_
    refine PW.goto (tgt := 14) hX dJ0_coder_7d493_10 (by decide) ?_
    refine PW.bret hX hR dJ0_coder_7d493_14 (by first | exact Or.inl rfl | exact Or.inr rfl | assumption) rfl rfl ?_
    exact ⟨rfl, rfl⟩
theorem pm_isLatin1 (i : Nat) (hi : i < 2) : PM mu_J0_isLatin1_aae02 0 0 0 [.ref (1000 + i)] [] (eqP (some (.int (nI 1))) []) := by
  refine PM.start (Or.inr (by decide +kernel)) rfl rfl rfl ?_
  intro X hX hR hx hin
  refine PW.tcmp hX jf_J0_38 dJ0_isLatin1_aae02_0 ?_
  refine PW.if_eq (tgt := 17) hX dJ0_isLatin1_aae02_3 (by decide) (fun c3 => ?_) (fun c3 => ?_)
  · exact absurd c3 (by decide) -- CLOSED
  · refine PW.aload_n hX dJ0_isLatin1_aae02_6 rfl rfl ?_
    refine PW.tcod hX hi jf_J0_15 dJ0_isLatin1_aae02_7 ?_
    refine PW.if_ne (tgt := 17) hX dJ0_isLatin1_aae02_10 (by decide) (fun c10 => ?_) (fun c10 => ?_)
    · exact absurd rfl c10 -- CLOSED
    · refine PW.iconst (v := nI 1) hX dJ0_isLatin1_aae02_13 (by decide) ?_
      refine PW.goto (tgt := 18) hX dJ0_isLatin1_aae02_14 (by decide) ?_
      refine PW.zret hX hR dJ0_isLatin1_aae02_18 (by first | exact Or.inl rfl | exact Or.inr rfl | assumption) rfl rfl ?_
      exact ⟨rfl, rfl⟩
theorem pm_length (i : Nat) (hi : i < 2) : PM mu_J0_length_8abf5 1 0 0 [.ref (1000 + i)] [] (eqP (some (.int (nI 6))) []) := by
  refine PM.start (Or.inr (by decide +kernel)) rfl rfl rfl ?_
  intro X hX hR hx hin
  refine PW.aload_n hX dJ0_length_8abf5_0 rfl rfl ?_
  refine PW.tval hX hi jf_J0_9 dJ0_length_8abf5_1 ?_
  refine PW.tlen hX hi dJ0_length_8abf5_4 ?_
  refine PW.aload_n hX dJ0_length_8abf5_5 rfl rfl ?_
  refine PW.tR (As := []) hX ml_J0_335 rfl hi (pm_coder i hi) dJ0_length_8abf5_6 rfl rfl rfl rfl rfl rfl rfl ?_
  refine PW.ishr hX dJ0_length_8abf5_9 ?_
  refine PW.top (show _ = nI 6 by decide) ?_
  refine PW.iret hX hR dJ0_length_8abf5_10 rfl rfl ?_
  exact ⟨rfl, rfl⟩
theorem pm_canEncode (c : Nat) (hc : c < 256) : PM mu_J1_canEncode_9a6ad 0 0 0 [.int (nI c)] [] (eqP (some (.int (nI 1))) []) := by
  refine PM.start (Or.inr (by decide +kernel)) rfl rfl rfl ?_
  intro X hX hR hx hin
  refine PW.iload_n hX dJ1_canEncode_9a6ad_0 rfl rfl ?_
  refine PW.if_lt (tgt := 15) hX dJ1_canEncode_9a6ad_1 (by decide) (fun c1 => ?_) (fun c1 => ?_)
  · try rw [nI_lt0 (by omega)] at c1
    exact c1.elim -- CLOSED
  · try rw [nI_lt0 (by omega)] at c1
    refine PW.iload_n hX dJ1_canEncode_9a6ad_4 rfl rfl ?_
    refine PW.sipush (v := nI 255) hX dJ1_canEncode_9a6ad_5 (by decide) ?_
    refine PW.icmp_gt (tgt := 15) hX dJ1_canEncode_9a6ad_8 (by decide) (fun c8 => ?_) (fun c8 => ?_)
    · try rw [nI_ltI (by omega) (by omega)] at c8
      exfalso; omega -- CLOSED
    · try rw [nI_ltI (by omega) (by omega)] at c8
      refine PW.iconst (v := nI 1) hX dJ1_canEncode_9a6ad_11 (by decide) ?_
      refine PW.goto (tgt := 16) hX dJ1_canEncode_9a6ad_12 (by decide) ?_
      refine PW.zret hX hR dJ1_canEncode_9a6ad_16 (by first | exact Or.inl rfl | exact Or.inr rfl | assumption) rfl rfl ?_
      exact ⟨rfl, rfl⟩
/-- the first place of a letter in a text, from k on, n places -/
def ixF (i c : Nat) : Nat → Nat → Option Nat
  | 0, _ => none
  | n + 1, k => if txC i k = nI c then some k else ixF i c n (k + 1)
def mI : Option Nat → Int32
  | none => -1
  | some k => nI k
theorem i2b_eq : ∀ i, i < 2 → ∀ k, k < 6 → ∀ c, c < 256 → (txC i k = (nI c).toInt8.toInt32 ↔ txC i k = nI c) := by decide +kernel
theorem pm_indexOfChar (i c : Nat) (hi : i < 2) (hc : c < 256) : PM mu_J1_indexOfChar_4cfef 0 0 0 [.ref (1010 + i), .int (nI c), .int (nI 0), .int (nI 6)] [] (eqP (some (.int (mI (ixF i c 6 0)))) []) := by
  refine PM.start (Or.inr (by decide +kernel)) rfl rfl rfl ?_
  intro X hX hR hx hin
  have loop : ∀ n k : Nat, k + n = 6 → ixF i c 6 0 = ixF i c n k → PW X 7 [some (.ref (1010 + i)), some (.int (nI c)), some (.int (nI 0)), some (.int (nI 6)), some (.int (nI c).toInt8.toInt32), some (.int (nI k))] [] [] 0 0 := by
    intro n
    induction n with
    | zero =>
      intro k h1 h2
      rw [h2] at hR
      refine PW.iload hX dJ1_indexOfChar_4cfef_7 rfl ?_
      refine PW.iload_n hX dJ1_indexOfChar_4cfef_9 rfl rfl ?_
      refine PW.icmp_ge (tgt := 31) hX dJ1_indexOfChar_4cfef_10 (by decide) (fun c10 => ?_) (fun c10 => ?_)
      · try rw [nI_leI (by omega) (by omega)] at c10
        refine PW.iconst (v := (-1)) hX dJ1_indexOfChar_4cfef_31 (by decide) ?_
        refine PW.iret hX hR dJ1_indexOfChar_4cfef_32 rfl rfl ?_
        exact ⟨rfl, rfl⟩
      · try rw [nI_leI (by omega) (by omega)] at c10
        exfalso; omega -- CLOSED
    | succ n ih =>
      intro k h1 h2
      rw [show ixF i c (n + 1) k = if txC i k = nI c then some k else ixF i c n (k + 1) from rfl] at h2
      refine PW.iload hX dJ1_indexOfChar_4cfef_7 rfl ?_
      refine PW.iload_n hX dJ1_indexOfChar_4cfef_9 rfl rfl ?_
      refine PW.icmp_ge (tgt := 31) hX dJ1_indexOfChar_4cfef_10 (by decide) (fun c10 => ?_) (fun c10 => ?_)
      · try rw [nI_leI (by omega) (by omega)] at c10
        exfalso; omega -- CLOSED
      · try rw [nI_leI (by omega) (by omega)] at c10
        refine PW.aload_n hX dJ1_indexOfChar_4cfef_13 rfl rfl ?_
        refine PW.iload hX dJ1_indexOfChar_4cfef_14 rfl ?_
        refine PW.tbald hX hi (by omega) dJ1_indexOfChar_4cfef_16 ?_
        refine PW.iload hX dJ1_indexOfChar_4cfef_17 rfl ?_
        refine PW.icmp_ne (tgt := 25) hX dJ1_indexOfChar_4cfef_19 (by decide) (fun c19 => ?_) (fun c19 => ?_)
        · first | rw [nI_eq (by omega) (by omega)] at c19 | rw [oI_eq9] at c19 | skip
          rw [i2b_eq i hi k (by omega) c hc] at c19
          rw [if_neg c19] at h2
          first | refine PW.iinc hX dJ1_indexOfChar_4cfef_25 rfl (iincN _) ?_ | refine PW.iinc hX dJ1_indexOfChar_4cfef_25 rfl rfl ?_
          refine PW.goto (tgt := 7) hX dJ1_indexOfChar_4cfef_28 (by decide) ?_
          exact ih (k + 1) (by omega) h2
        · first | rw [nI_eq (by omega) (by omega)] at c19 | rw [oI_eq9] at c19 | skip
          rw [i2b_eq i hi k (by omega) c hc] at c19
          rw [if_pos c19] at h2
          rw [h2] at hR
          refine PW.iload hX dJ1_indexOfChar_4cfef_22 rfl ?_
          refine PW.iret hX hR dJ1_indexOfChar_4cfef_24 rfl rfl ?_
          exact ⟨rfl, rfl⟩
  refine PW.iload_n hX dJ1_indexOfChar_4cfef_0 rfl rfl ?_
  refine PW.i2b hX dJ1_indexOfChar_4cfef_1 rfl ?_
  refine PW.istore hX dJ1_indexOfChar_4cfef_2 rfl ?_
  refine PW.iload_n hX dJ1_indexOfChar_4cfef_4 rfl rfl ?_
  refine PW.istore hX dJ1_indexOfChar_4cfef_5 rfl ?_
  exact loop 6 0 rfl rfl
theorem pm_indexOfL (i c : Nat) (hi : i < 2) (hc : c < 256) : PM mu_J1_indexOf_4cfef 1 0 0 [.ref (1010 + i), .int (nI c), .int (nI 0), .int (nI 6)] [] (eqP (some (.int (mI (ixF i c 6 0)))) []) := by
  rcases (show i = 0 ∨ i = 1 by omega) with rfl | rfl
  · refine PM.start (Or.inr (by decide +kernel)) rfl rfl rfl ?_
    intro X hX hR hx hin
    refine PW.iload_n hX dJ1_indexOf_4cfef_0 rfl rfl ?_
    refine PW.sR hX ml_J1_88 (pm_canEncode c hc) dJ1_indexOf_4cfef_1 rfl rfl rfl rfl rfl rfl ?_
    refine PW.if_ne (tgt := 9) hX dJ1_indexOf_4cfef_4 (by decide) (fun c4 => ?_) (fun c4 => ?_)
    · first | rw [bI_d0] at c4 | rw [bI_eq0] at c4 | rw [nI_eq0 (by omega)] at c4 | skip
      refine PW.iload_n hX dJ1_indexOf_4cfef_9 rfl rfl ?_
      refine PW.iconst (v := nI 0) hX dJ1_indexOf_4cfef_10 (by decide) ?_
      refine PW.mmax hX ml_J1_92 dJ1_indexOf_4cfef_11 rfl rfl rfl rfl ?_
      refine PW.top (show _ = nI 0 by decide) ?_
      refine PW.istore_n hX dJ1_indexOf_4cfef_14 rfl rfl ?_
      refine PW.iload_n hX dJ1_indexOf_4cfef_15 rfl rfl ?_
      refine PW.aload_n hX dJ1_indexOf_4cfef_16 rfl rfl ?_
      refine PW.tlen hX hi dJ1_indexOf_4cfef_17 ?_
      refine PW.mmin hX ml_J1_38 dJ1_indexOf_4cfef_18 rfl rfl rfl rfl ?_
      refine PW.top (show _ = nI 6 by decide) ?_
      refine PW.istore_n hX dJ1_indexOf_4cfef_21 rfl rfl ?_
      refine PW.iload_n hX dJ1_indexOf_4cfef_22 rfl rfl ?_
      refine PW.iload_n hX dJ1_indexOf_4cfef_23 rfl rfl ?_
      refine PW.icmp_lt (tgt := 29) hX dJ1_indexOf_4cfef_24 (by decide) (fun c24 => ?_) (fun c24 => ?_)
      · try rw [nI_ltI (by omega) (by omega)] at c24
        refine PW.aload_n hX dJ1_indexOf_4cfef_29 rfl rfl ?_
        refine PW.iload_n hX dJ1_indexOf_4cfef_30 rfl rfl ?_
        refine PW.iload_n hX dJ1_indexOf_4cfef_31 rfl rfl ?_
        refine PW.iload_n hX dJ1_indexOf_4cfef_32 rfl rfl ?_
        refine PW.sR hX ml_J1_95 (pm_indexOfChar _ c hi hc) dJ1_indexOf_4cfef_33 rfl rfl rfl rfl rfl rfl ?_
        refine PW.iret hX hR dJ1_indexOf_4cfef_36 rfl rfl ?_
        exact ⟨rfl, rfl⟩
      · try rw [nI_ltI (by omega) (by omega)] at c24
        exfalso; omega -- CLOSED
    · first | rw [bI_d0] at c4 | rw [bI_eq0] at c4 | rw [nI_eq0 (by omega)] at c4 | skip
      exfalso; exact absurd c4 (by decide) -- CLOSED
  · refine PM.start (Or.inr (by decide +kernel)) rfl rfl rfl ?_
    intro X hX hR hx hin
    refine PW.iload_n hX dJ1_indexOf_4cfef_0 rfl rfl ?_
    refine PW.sR hX ml_J1_88 (pm_canEncode c hc) dJ1_indexOf_4cfef_1 rfl rfl rfl rfl rfl rfl ?_
    refine PW.if_ne (tgt := 9) hX dJ1_indexOf_4cfef_4 (by decide) (fun c4 => ?_) (fun c4 => ?_)
    · first | rw [bI_d0] at c4 | rw [bI_eq0] at c4 | rw [nI_eq0 (by omega)] at c4 | skip
      refine PW.iload_n hX dJ1_indexOf_4cfef_9 rfl rfl ?_
      refine PW.iconst (v := nI 0) hX dJ1_indexOf_4cfef_10 (by decide) ?_
      refine PW.mmax hX ml_J1_92 dJ1_indexOf_4cfef_11 rfl rfl rfl rfl ?_
      refine PW.top (show _ = nI 0 by decide) ?_
      refine PW.istore_n hX dJ1_indexOf_4cfef_14 rfl rfl ?_
      refine PW.iload_n hX dJ1_indexOf_4cfef_15 rfl rfl ?_
      refine PW.aload_n hX dJ1_indexOf_4cfef_16 rfl rfl ?_
      refine PW.tlen hX hi dJ1_indexOf_4cfef_17 ?_
      refine PW.mmin hX ml_J1_38 dJ1_indexOf_4cfef_18 rfl rfl rfl rfl ?_
      refine PW.top (show _ = nI 6 by decide) ?_
      refine PW.istore_n hX dJ1_indexOf_4cfef_21 rfl rfl ?_
      refine PW.iload_n hX dJ1_indexOf_4cfef_22 rfl rfl ?_
      refine PW.iload_n hX dJ1_indexOf_4cfef_23 rfl rfl ?_
      refine PW.icmp_lt (tgt := 29) hX dJ1_indexOf_4cfef_24 (by decide) (fun c24 => ?_) (fun c24 => ?_)
      · try rw [nI_ltI (by omega) (by omega)] at c24
        refine PW.aload_n hX dJ1_indexOf_4cfef_29 rfl rfl ?_
        refine PW.iload_n hX dJ1_indexOf_4cfef_30 rfl rfl ?_
        refine PW.iload_n hX dJ1_indexOf_4cfef_31 rfl rfl ?_
        refine PW.iload_n hX dJ1_indexOf_4cfef_32 rfl rfl ?_
        refine PW.sR hX ml_J1_95 (pm_indexOfChar _ c hi hc) dJ1_indexOf_4cfef_33 rfl rfl rfl rfl rfl rfl ?_
        refine PW.iret hX hR dJ1_indexOf_4cfef_36 rfl rfl ?_
        exact ⟨rfl, rfl⟩
      · try rw [nI_ltI (by omega) (by omega)] at c24
        exfalso; omega -- CLOSED
    · first | rw [bI_d0] at c4 | rw [bI_eq0] at c4 | rw [nI_eq0 (by omega)] at c4 | skip
      exfalso; exact absurd c4 (by decide) -- CLOSED
theorem pm_indexOf2 (i c : Nat) (hi : i < 2) (hc : c < 256) : PM mu_J0_indexOf_7cf53 2 0 0 [.ref (1000 + i), .int (nI c), .int (nI 0)] [] (eqP (some (.int (mI (ixF i c 6 0)))) []) := by
  rcases (show i = 0 ∨ i = 1 by omega) with rfl | rfl
  · refine PM.start (Or.inr (by decide +kernel)) rfl rfl rfl ?_
    intro X hX hR hx hin
    refine PW.aload_n hX dJ0_indexOf_7cf53_0 rfl rfl ?_
    refine PW.tR (As := []) hX ml_J0_492 rfl hi (pm_isLatin1 _ hi) dJ0_indexOf_7cf53_1 rfl rfl rfl rfl rfl rfl rfl ?_
    refine PW.if_eq (tgt := 23) hX dJ0_indexOf_7cf53_4 (by decide) (fun c4 => ?_) (fun c4 => ?_)
    · first | rw [bI_d0] at c4 | rw [bI_eq0] at c4 | rw [nI_eq0 (by omega)] at c4 | skip
      exfalso; exact absurd c4 (by decide) -- CLOSED
    · first | rw [bI_d0] at c4 | rw [bI_eq0] at c4 | rw [nI_eq0 (by omega)] at c4 | skip
      refine PW.aload_n hX dJ0_indexOf_7cf53_7 rfl rfl ?_
      refine PW.tval hX hi jf_J0_9 dJ0_indexOf_7cf53_8 ?_
      refine PW.iload_n hX dJ0_indexOf_7cf53_11 rfl rfl ?_
      refine PW.iload_n hX dJ0_indexOf_7cf53_12 rfl rfl ?_
      refine PW.aload_n hX dJ0_indexOf_7cf53_13 rfl rfl ?_
      refine PW.tR (As := []) hX ml_J0_505 rfl hi (pm_length _ hi) dJ0_indexOf_7cf53_14 rfl rfl rfl rfl rfl rfl rfl ?_
      refine PW.sR hX ml_J0_637 (pm_indexOfL _ c hi hc) dJ0_indexOf_7cf53_17 rfl rfl rfl rfl rfl rfl ?_
      refine PW.goto (tgt := 36) hX dJ0_indexOf_7cf53_20 (by decide) ?_
      refine PW.iret hX hR dJ0_indexOf_7cf53_36 rfl rfl ?_
      exact ⟨rfl, rfl⟩
  · refine PM.start (Or.inr (by decide +kernel)) rfl rfl rfl ?_
    intro X hX hR hx hin
    refine PW.aload_n hX dJ0_indexOf_7cf53_0 rfl rfl ?_
    refine PW.tR (As := []) hX ml_J0_492 rfl hi (pm_isLatin1 _ hi) dJ0_indexOf_7cf53_1 rfl rfl rfl rfl rfl rfl rfl ?_
    refine PW.if_eq (tgt := 23) hX dJ0_indexOf_7cf53_4 (by decide) (fun c4 => ?_) (fun c4 => ?_)
    · first | rw [bI_d0] at c4 | rw [bI_eq0] at c4 | rw [nI_eq0 (by omega)] at c4 | skip
      exfalso; exact absurd c4 (by decide) -- CLOSED
    · first | rw [bI_d0] at c4 | rw [bI_eq0] at c4 | rw [nI_eq0 (by omega)] at c4 | skip
      refine PW.aload_n hX dJ0_indexOf_7cf53_7 rfl rfl ?_
      refine PW.tval hX hi jf_J0_9 dJ0_indexOf_7cf53_8 ?_
      refine PW.iload_n hX dJ0_indexOf_7cf53_11 rfl rfl ?_
      refine PW.iload_n hX dJ0_indexOf_7cf53_12 rfl rfl ?_
      refine PW.aload_n hX dJ0_indexOf_7cf53_13 rfl rfl ?_
      refine PW.tR (As := []) hX ml_J0_505 rfl hi (pm_length _ hi) dJ0_indexOf_7cf53_14 rfl rfl rfl rfl rfl rfl rfl ?_
      refine PW.sR hX ml_J0_637 (pm_indexOfL _ c hi hc) dJ0_indexOf_7cf53_17 rfl rfl rfl rfl rfl rfl ?_
      refine PW.goto (tgt := 36) hX dJ0_indexOf_7cf53_20 (by decide) ?_
      refine PW.iret hX hR dJ0_indexOf_7cf53_36 rfl rfl ?_
      exact ⟨rfl, rfl⟩
theorem pm_indexOf (i c : Nat) (hi : i < 2) (hc : c < 256) : PM mu_J0_indexOf_0f7a4 3 0 0 [.ref (1000 + i), .int (nI c)] [] (eqP (some (.int (mI (ixF i c 6 0)))) []) := by
  refine PM.start (Or.inr (by decide +kernel)) rfl rfl rfl ?_
  intro X hX hR hx hin
  refine PW.aload_n hX dJ0_indexOf_0f7a4_0 rfl rfl ?_
  refine PW.iload_n hX dJ0_indexOf_0f7a4_1 rfl rfl ?_
  refine PW.iconst (v := nI 0) hX dJ0_indexOf_0f7a4_2 (by decide) ?_
  refine PW.tR (As := [.int (nI c), .int (nI 0)]) hX ml_J0_633 rfl hi (pm_indexOf2 i c hi hc) dJ0_indexOf_0f7a4_3 rfl rfl rfl rfl rfl rfl rfl ?_
  refine PW.iret hX hR dJ0_indexOf_0f7a4_6 rfl rfl ?_
  exact ⟨rfl, rfl⟩
