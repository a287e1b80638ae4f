/-! ===== the law: its loop, the whole ===== -/
theorem law_gt {a i : Nat} (ha : a < 100000) (hi : i < 100000) : (nI a - nI 4 < nI i) ↔ a < i + 4 := by
  rw [Int32.lt_iff_toInt_lt, pk_sub_toInt (by omega) (by decide), nI_toInt (by omega)]
  omega
theorem rel_0 : Rel wpZ mdZ := by
  refine ⟨⟨⟨by decide, by decide, by decide, by decide, fun j hj => absurd hj (Nat.not_lt_zero _), fun t ht => absurd ht (Nat.not_lt_zero _)⟩, fun h => (by cases h), ⟨by decide, fun i hi => absurd hi (Nat.not_lt_zero _)⟩, ⟨by decide, fun i hi => absurd hi (Nat.not_lt_zero _)⟩⟩, ⟨⟨rfl, rfl, rfl, rfl, fun j hj => absurd hj (Nat.not_lt_zero _), fun t ht => absurd ht (Nat.not_lt_zero _)⟩, fun j _ => (by decide : 0 < 100)⟩, ⟨rfl, fun h => (by cases h), fun j _ => (by decide : 0 < 100)⟩, ⟨rfl, rfl⟩, ⟨rfl, rfl, rfl⟩, rfl, fun k _ => (by decide : 0 < 100)⟩
section LawL
variable {X : Cx} {b Ln : Nat} {xs : Nat → Int32}
theorem law_case (hX : Fx X code RL ret 13 600000 7302250) (hL : LX X b Ln xs) (hLn : Ln ≤ 2048) {W : Wp} {M : Md} (h : Rel W M) {i : Nat} (hi : i + 4 ≤ Ln) {kc ks : Nat} (hk1 : kc + 1 ≤ 600000) (hk2 : ks + 20 ≤ 7302250) (nx : ∀ W' M', Rel W' M' → PW X 18 [some (.ref 1500), some (.ref 0), some (.ref 45), some (.int (nI (i + 4)))] [] (LH W' M') (kc + 1) (ks + 20)) {j : Nat} (hj : j < 32) : PW X 32 [some (.ref 1500), some (.ref 0), some (.ref 45), some (.int (nI i))] [.int (nI j)] (LH W M) kc ks := by
    have hc : j = 0 ∨ j = 1 ∨ j = 2 ∨ j = 3 ∨ j = 4 ∨ j = 5 ∨ j = 6 ∨ j = 7 ∨ j = 8 ∨ j = 9 ∨ j = 10 ∨ j = 11 ∨ j = 12 ∨ j = 13 ∨ j = 14 ∨ j = 15 ∨ j = 16 ∨ j = 17 ∨ j = 18 ∨ j = 19 ∨ j = 20 ∨ j = 21 ∨ j = 22 ∨ j = 23 ∨ j = 24 ∨ j = 25 ∨ j = 26 ∨ j = 27 ∨ j = 28 ∨ j = 29 ∨ j = 30 ∨ j = 31 := by omega
    rcases hc with rfl | rfl | rfl | rfl | rfl | rfl | rfl | rfl | rfl | rfl | rfl | rfl | rfl | rfl | rfl | rfl | rfl | rfl | rfl | rfl | rfl | rfl | rfl | rfl | rfl | rfl | rfl | rfl | rfl | rfl | rfl | rfl
    · exact PW.tableIn (off := 144) (tgt := 176) hX dL_law_32 (by decide) (by decide) (by decide) (by decide) (law_letter hX hL hLn h hi hk1 hk2 nx)
    · exact PW.tableIn (off := 167) (tgt := 199) hX dL_law_32 (by decide) (by decide) (by decide) (by decide) (law_floor hX hL hLn h hi hk1 hk2 nx)
    · exact PW.tableIn (off := 180) (tgt := 212) hX dL_law_32 (by decide) (by decide) (by decide) (by decide) (law_job hX hL hLn h hi hk1 hk2 nx)
    · exact PW.tableIn (off := 213) (tgt := 245) hX dL_law_32 (by decide) (by decide) (by decide) (by decide) (law_taker hX hL hLn h hi hk1 hk2 nx)
    · exact PW.tableIn (off := 246) (tgt := 278) hX dL_law_32 (by decide) (by decide) (by decide) (by decide) (law_sent hX hL hLn h hi hk1 hk2 nx)
    · exact PW.tableIn (off := 279) (tgt := 311) hX dL_law_32 (by decide) (by decide) (by decide) (by decide) (law_machine hX hL hLn h hi hk1 hk2 nx)
    · exact PW.tableIn (off := 312) (tgt := 344) hX dL_law_32 (by decide) (by decide) (by decide) (by decide) (law_comes hX hL hLn h hi hk1 hk2 nx)
    · exact PW.tableIn (off := 345) (tgt := 377) hX dL_law_32 (by decide) (by decide) (by decide) (by decide) (law_out hX hL hLn h hi hk1 hk2 nx)
    · exact PW.tableIn (off := 378) (tgt := 410) hX dL_law_32 (by decide) (by decide) (by decide) (by decide) (law_outMany hX hL hLn h hi hk1 hk2 nx)
    · exact PW.tableIn (off := 391) (tgt := 423) hX dL_law_32 (by decide) (by decide) (by decide) (by decide) (law_lies hX hL hLn h hi hk1 hk2 nx)
    · exact PW.tableIn (off := 424) (tgt := 456) hX dL_law_32 (by decide) (by decide) (by decide) (by decide) (law_held hX hL hLn h hi hk1 hk2 nx)
    · exact PW.tableIn (off := 457) (tgt := 489) hX dL_law_32 (by decide) (by decide) (by decide) (by decide) (law_who hX hL hLn h hi hk1 hk2 nx)
    · exact PW.tableIn (off := 480) (tgt := 512) hX dL_law_32 (by decide) (by decide) (by decide) (by decide) (law_missing hX hL hLn h hi hk1 hk2 nx)
    · exact PW.tableIn (off := 503) (tgt := 535) hX dL_law_32 (by decide) (by decide) (by decide) (by decide) (law_ask hX hL hLn h hi hk1 hk2 nx)
    · exact PW.tableIn (off := 526) (tgt := 558) hX dL_law_32 (by decide) (by decide) (by decide) (by decide) (law_ready hX hL hLn h hi hk1 hk2 nx)
    · exact PW.tableIn (off := 549) (tgt := 581) hX dL_law_32 (by decide) (by decide) (by decide) (by decide) (law_mixed hX hL hLn h hi hk1 hk2 nx)
    · exact PW.tableIn (off := 562) (tgt := 594) hX dL_law_32 (by decide) (by decide) (by decide) (by decide) (law_byKind hX hL hLn h hi hk1 hk2 nx)
    · exact PW.tableIn (off := 575) (tgt := 607) hX dL_law_32 (by decide) (by decide) (by decide) (by decide) (law_send hX hL hLn h hi hk1 hk2 nx)
    · exact PW.tableIn (off := 608) (tgt := 640) hX dL_law_32 (by decide) (by decide) (by decide) (by decide) (law_two hX hL hLn h hi hk1 hk2 nx)
    · exact PW.tableIn (off := 641) (tgt := 673) hX dL_law_32 (by decide) (by decide) (by decide) (by decide) (law_three hX hL hLn h hi hk1 hk2 nx)
    · exact PW.tableIn (off := 684) (tgt := 716) hX dL_law_32 (by decide) (by decide) (by decide) (by decide) (law_parts hX hL hLn h hi hk1 hk2 nx)
    · exact PW.tableIn (off := 697) (tgt := 729) hX dL_law_32 (by decide) (by decide) (by decide) (by decide) (law_lacks hX hL hLn h hi hk1 hk2 nx)
    · exact PW.tableIn (off := 720) (tgt := 752) hX dL_law_32 (by decide) (by decide) (by decide) (by decide) (law_laps hX hL hLn h hi hk1 hk2 nx)
    · exact PW.tableIn (off := 743) (tgt := 775) hX dL_law_32 (by decide) (by decide) (by decide) (by decide) (law_waits hX hL hLn h hi hk1 hk2 nx)
    · exact PW.tableIn (off := 786) (tgt := 818) hX dL_law_32 (by decide) (by decide) (by decide) (by decide) (law_vain hX hL hLn h hi hk1 hk2 nx)
    · exact PW.tableIn (off := 829) (tgt := 861) hX dL_law_32 (by decide) (by decide) (by decide) (by decide) (law_seen hX hL hLn h hi hk1 hk2 nx)
    · exact PW.tableIn (off := 852) (tgt := 884) hX dL_law_32 (by decide) (by decide) (by decide) (by decide) (law_row hX hL hLn h hi hk1 hk2 nx)
    · exact PW.tableIn (off := 875) (tgt := 907) hX dL_law_32 (by decide) (by decide) (by decide) (by decide) (law_judge hX hL hLn h hi hk1 hk2 nx)
    · exact PW.tableIn (off := 888) (tgt := 920) hX dL_law_32 (by decide) (by decide) (by decide) (by decide) (law_lots hX hL hLn h hi hk1 hk2 nx)
    · exact PW.tableIn (off := 921) (tgt := 953) hX dL_law_32 (by decide) (by decide) (by decide) (by decide) (law_image hX hL hLn h hi hk1 hk2 nx)
    · exact PW.tableIn (off := 934) (tgt := 966) hX dL_law_32 (by decide) (by decide) (by decide) (by decide) (law_on hX hL hLn h hi hk1 hk2 nx)
    · exact PW.tableIn (off := 947) (tgt := 979) hX dL_law_32 (by decide) (by decide) (by decide) (by decide) (law_count hX hL hLn h hi hk1 hk2 nx)
theorem law_loop (hX : Fx X code RL ret 13 600000 7302250) (hL : LX X b Ln xs) (hLn : Ln ≤ 2048) : ∀ (n i : Nat) (W : Wp) (M : Md) (kc ks : Nat), Rel W M → i ≤ Ln → Ln ≤ i + 4 * n → kc + n ≤ 600000 → ks + 20 * n ≤ 7302250 → PW X 18 [some (.ref 1500), some (.ref 0), some (.ref 45), some (.int (nI i))] [] (LH W M) kc ks := by
  have ex : ∀ (i : Nat) (W : Wp) (M : Md) (kc ks : Nat), i ≤ Ln → ¬ i + 4 ≤ Ln → kc ≤ 600000 → ks ≤ 7302250 → PW X 18 [some (.ref 1500), some (.ref 0), some (.ref 45), some (.int (nI i))] [] (LH W M) kc ks := by
    intro i W M kc ks hi hn h1 h2
    refine PW.iload_n hX dL_law_18 rfl rfl ?_
    refine PW.aload_n hX dL_law_19 rfl rfl ?_
    refine PW.slen hX hL dL_law_20 ?_
    refine PW.iconst (v := nI 4) hX dL_law_21 (by decide) ?_
    refine PW.isub hX dL_law_22 ?_
    refine PW.icmp_gt (tgt := 1008) hX dL_law_23 (by decide) (fun c23 => ?_) (fun c23 => ?_)
    · refine PW.iconst (v := nI 1) hX dL_law_1008 (by decide) ?_
      exact PW.lret hX hL dL_law_1009 h1 h2
    · exact absurd ((law_gt (by omega) (by omega)).mpr (by omega)) c23 -- CLOSED
  intro n
  induction n with
  | zero =>
    intro i W M kc ks h hi hn h1 h2
    exact ex i W M kc ks hi (by omega) (by omega) (by omega)
  | succ n ih =>
    intro i W M kc ks h hi hn h1 h2
    by_cases h4 : i + 4 ≤ Ln
    · obtain ⟨j, hj, ej⟩ := pk_andE (xs i) (m := nI 31) 5 (by decide)
      have nx := law_case hX hL hLn h h4 (kc := kc) (ks := ks) (by omega) (by omega) (fun W' M' hr => ih (i + 4) W' M' (kc + 1) (ks + 20) hr h4 (by omega) (by omega) (by omega)) (j := j) hj
      refine PW.iload_n hX dL_law_18 rfl rfl ?_
      refine PW.aload_n hX dL_law_19 rfl rfl ?_
      refine PW.slen hX hL dL_law_20 ?_
      refine PW.iconst (v := nI 4) hX dL_law_21 (by decide) ?_
      refine PW.isub hX dL_law_22 ?_
      refine PW.icmp_gt (tgt := 1008) hX dL_law_23 (by decide) (fun c23 => ?_) (fun c23 => ?_)
      · exact absurd ((law_gt (by omega) (by omega)).mp c23) (by omega) -- CLOSED
      · refine PW.aload_n hX dL_law_26 rfl rfl ?_
        refine PW.iload_n hX dL_law_27 rfl rfl ?_
        refine PW.sld hX hL (k := i) (by omega) (by omega) dL_law_28 rfl ?_
        refine PW.bipush (v := nI 31) hX dL_law_29 (by decide) ?_
        refine PW.iand hX dL_law_31 ?_
        refine PW.top ej ?_
        exact nx
    · exact ex i W M kc ks hi h4 (by omega) (by omega)
theorem law_init (hX : Fx X code RL ret 13 600000 7302250) (hL : LX X b Ln xs) (hLn : Ln ≤ 2048) (hx : cxn X = 0) : PW X 0 [some (.ref 1500), none, none, none] [] [] 0 0 := by
  refine PW.new hX [.null, .null, .null, .null, .null, .null, .null, .null, .int 0] cn_L_7 rfl dL_law_0 dfX6 rfl (by rw [hx]; exact Nat.le_of_ble_eq_true rfl) rfl rfl rfl rfl ?_
  refine PW.dup hX dL_law_3 rfl ?_
  refine PW.iS (h1 := wpB wpZ) hX ml_L_9 rfl pm_iWp dL_law_4 [0] rfl rfl rfl rfl rfl rfl rfl rfl rfl rfl (by rw [hx]; exact Nat.le_of_ble_eq_true rfl) rfl rfl rfl rfl ((joinH_last [] _ _ _).trans (congrArg (fun x => [] ++ x) (rfl : _ = wpB wpZ))) ?_
  refine PW.astore_n hX dL_law_7 rfl rfl ?_
  refine PW.new hX [.null, .null, .null, .int 0, .null, .int 0, .int 0, .int 0, .null, .null, .null, .int 0, .null, .null, .null, .null, .int 0, .null, .int 0, .null, .null, .null, .int 0, .null] cn_L_10 rfl dL_law_8 dfX7 rfl (by rw [hx]; exact Nat.le_of_ble_eq_true rfl) rfl rfl rfl rfl ?_
  refine PW.dup hX dL_law_11 rfl ?_
  refine PW.iS (h1 := LH wpZ mdZ) hX ml_L_12 rfl pm_iMd dL_law_12 [45] rfl rfl rfl rfl rfl rfl rfl rfl rfl rfl (by rw [hx]; exact Nat.le_of_ble_eq_true rfl) rfl rfl rfl rfl ((joinH_last (wpB wpZ) _ _ _).trans (congrArg (fun x => wpB wpZ ++ x) (rfl : _ = (mdB mdZ).map (rC (fun i => i + 45))))) ?_
  refine PW.astore_n hX dL_law_15 rfl rfl ?_
  refine PW.iconst (v := nI 0) hX dL_law_16 (by decide) ?_
  refine PW.istore_n hX dL_law_17 rfl rfl ?_
  exact law_loop hX hL hLn 512 0 wpZ mdZ _ _ rel_0 (Nat.zero_le _) (by omega) (by decide) (by decide)
end LawL
theorem whole_start {p : Program} {e : Env} {s : State} {m : MethodId} {below : List Frame} {meth : Method} {c : Code} (l : Launch) (hflags : l.flags = flags0) {b L : Nat} {xs : Nat → Int32} (hL : L ≤ 2048) (C0 : lw_At p s m meth c b L xs) : W p l e room_1 s m #[Value.ref b] below meth c s.heap [] 0 0 (lw_Z below #[Value.ref b] s) (entryFrame m ([Value.ref b] : List Value).toArray 4) := by
  obtain ⟨X, hX, hLX, hn, hgo⟩ := law_ctx l C0
  exact hgo (law_init hX hLX hL hn)
