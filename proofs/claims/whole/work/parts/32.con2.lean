theorem joinH_last (pre : List PCell) (c c0 : PCell) (cs : List PCell) : joinH (pre ++ [c]) [pre.length] (c0 :: cs) = pre ++ (c0 :: cs).map (rC (rho [pre.length] 1 (pre.length + 1))) := by
  have e : (pre ++ [c]).length = pre.length + 1 := by simp
  unfold joinH
  rw [e]
  simp [updH]
theorem pm_iDay : PM mu_X0_init 2 9 440 [.ref 0] [.inr (0, [.null, .null, .null, .null, .int 0, .null, .null])] (eqP none (dyB 0 dyZ)) := by
  refine PM.start (Or.inl (by decide +kernel)) rfl rfl rfl ?_
  intro X hX hR hx hin
  refine PW.aload_n hX dX0_init_0 rfl rfl ?_
  refine PW.objInit hX oi_X0_3 oi_inst oi_code dX0_init_1 rfl rfl ?_
  refine PW.aload_n hX dX0_init_4 rfl rfl ?_
  refine PW.new hX [.null, .int 0, .int 0, .int 0, .int 0] cn_X0_9 rfl dX0_init_5 dfX2 rfl (by rw [hx]; exact Nat.le_of_ble_eq_true rfl) rfl rfl rfl rfl ?_
  refine PW.dup hX dX0_init_8 rfl ?_
  refine PW.iN (h1 := [.inr (0, [.null, .null, .null, .null, .int 0, .null, .null])] ++ prB 1 prZ) hX ml_X0_11 rfl pm_iPress dX0_init_9 [1] rfl rfl rfl rfl rfl rfl rfl rfl rfl rfl (by rw [hx]; exact Nat.le_of_ble_eq_true rfl) rfl rfl rfl rfl ((joinH_last ([.inr (0, [.null, .null, .null, .null, .int 0, .null, .null])]) _ _ _).trans (congrArg (fun x => ([.inr (0, [.null, .null, .null, .null, .int 0, .null, .null])]) ++ x) (rfl : _ = prB 1 prZ))) ?_
  refine PW.putF hX fp_X0_12 hin dX0_init_12 (fun _ => ⟨rfl, rfl⟩) rfl rfl ?_
  refine PW.heap (h' := [.inr (0, [.ref 1, .null, .null, .null, .int 0, .null, .null])] ++ prB 1 prZ) rfl ?_
  refine PW.aload_n hX dX0_init_15 rfl rfl ?_
  refine PW.new hX [.null, .null, .int 0] cn_X0_18 rfl dX0_init_16 dfX5 rfl (by rw [hx]; exact Nat.le_of_ble_eq_true rfl) rfl rfl rfl rfl ?_
  refine PW.dup hX dX0_init_19 rfl ?_
  refine PW.iN (h1 := [.inr (0, [.ref 1, .null, .null, .null, .int 0, .null, .null])] ++ prB 1 prZ ++ tyB 3 tyZ) hX ml_X0_20 rfl pm_iTray dX0_init_20 [3] rfl rfl rfl rfl rfl rfl rfl rfl rfl rfl (by rw [hx]; exact Nat.le_of_ble_eq_true rfl) rfl rfl rfl rfl ((joinH_last ([.inr (0, [.ref 1, .null, .null, .null, .int 0, .null, .null])] ++ prB 1 prZ) _ _ _).trans (congrArg (fun x => ([.inr (0, [.ref 1, .null, .null, .null, .int 0, .null, .null])] ++ prB 1 prZ) ++ x) (rfl : _ = tyB 3 tyZ))) ?_
  refine PW.putF hX fp_X0_21 hin dX0_init_23 (fun _ => ⟨rfl, rfl⟩) rfl rfl ?_
  refine PW.heap (h' := [.inr (0, [.ref 1, .ref 3, .null, .null, .int 0, .null, .null])] ++ prB 1 prZ ++ tyB 3 tyZ) rfl ?_
  refine PW.aload_n hX dX0_init_26 rfl rfl ?_
  refine PW.bipush (v := nI 100) hX dX0_init_27 (by decide) ?_
  refine PW.newarr (t := 0) (ty := .int) hX acl_int rfl (fun _ => rfl) rfl (by decide) dX0_init_29 rfl (by rw [hx]; exact Nat.le_of_ble_eq_true rfl) rfl rfl rfl rfl rfl ?_
  refine PW.putF hX fp_X0_25 hin dX0_init_31 (fun _ => ⟨rfl, rfl⟩) rfl rfl ?_
  refine PW.aload_n hX dX0_init_34 rfl rfl ?_
  refine PW.bipush (v := nI 100) hX dX0_init_35 (by decide) ?_
  refine PW.newarr (t := 0) (ty := .int) hX acl_int rfl (fun _ => rfl) rfl (by decide) dX0_init_37 rfl (by rw [hx]; exact Nat.le_of_ble_eq_true rfl) rfl rfl rfl rfl rfl ?_
  refine PW.putF hX fp_X0_29 hin dX0_init_39 (fun _ => ⟨rfl, rfl⟩) rfl rfl ?_
  refine PW.aload_n hX dX0_init_42 rfl rfl ?_
  refine PW.iconst (v := nI 0) hX dX0_init_43 (by decide) ?_
  refine PW.putI hX fp_X0_32 dX0_init_44 rfl rfl ?_
  refine PW.aload_n hX dX0_init_47 rfl rfl ?_
  refine PW.bipush (v := nI 60) hX dX0_init_48 (by decide) ?_
  refine PW.newarr (t := 0) (ty := .int) hX acl_int rfl (fun _ => rfl) rfl (by decide) dX0_init_50 rfl (by rw [hx]; exact Nat.le_of_ble_eq_true rfl) rfl rfl rfl rfl rfl ?_
  refine PW.putF hX fp_X0_36 hin dX0_init_52 (fun _ => ⟨rfl, rfl⟩) rfl rfl ?_
  refine PW.aload_n hX dX0_init_55 rfl rfl ?_
  refine PW.bipush (v := nI 60) hX dX0_init_56 (by decide) ?_
  refine PW.newarr (t := 0) (ty := .int) hX acl_int rfl (fun _ => rfl) rfl (by decide) dX0_init_58 rfl (by rw [hx]; exact Nat.le_of_ble_eq_true rfl) rfl rfl rfl rfl rfl ?_
  refine PW.putF hX fp_X0_39 hin dX0_init_60 (fun _ => ⟨rfl, rfl⟩) rfl rfl ?_
  refine PW.vret hX hR dX0_init_63 rfl rfl ?_
  exact ⟨rfl, rfl⟩
theorem pm_iWp : PM mu_X6_init 3 44 1847 [.ref 0] [.inr (6, [.null, .null, .null, .null, .null, .null, .null, .null, .int 0])] (eqP none (wpB wpZ)) := by
  refine PM.start (Or.inl (by decide +kernel)) rfl rfl rfl ?_
  intro X hX hR hx hin
  refine PW.aload_n hX dX6_init_0 rfl rfl ?_
  refine PW.objInit hX oi_X6_3 oi_inst oi_code dX6_init_1 rfl rfl ?_
  refine PW.aload_n hX dX6_init_4 rfl rfl ?_
  refine PW.new hX [.null, .null, .null, .null, .null, .null, .null, .int 0, .int 0, .int 0, .int 0] cn_X6_9 rfl dX6_init_5 dfX1 rfl (by rw [hx]; exact Nat.le_of_ble_eq_true rfl) rfl rfl rfl rfl ?_
  refine PW.dup hX dX6_init_8 rfl ?_
  refine PW.iN (h1 := [.inr (6, [.null, .null, .null, .null, .null, .null, .null, .null, .int 0])] ++ plB 1 plZ) hX ml_X6_11 rfl pm_iPlan dX6_init_9 [1] rfl rfl rfl rfl rfl rfl rfl rfl rfl rfl (by rw [hx]; exact Nat.le_of_ble_eq_true rfl) rfl rfl rfl rfl ((joinH_last ([.inr (6, [.null, .null, .null, .null, .null, .null, .null, .null, .int 0])]) _ _ _).trans (congrArg (fun x => ([.inr (6, [.null, .null, .null, .null, .null, .null, .null, .null, .int 0])]) ++ x) (rfl : _ = plB 1 plZ))) ?_
  refine PW.putF hX fp_X6_12 hin dX6_init_12 (fun _ => ⟨rfl, rfl⟩) rfl rfl ?_
  refine PW.heap (h' := [.inr (6, [.ref 1, .null, .null, .null, .null, .null, .null, .null, .int 0])] ++ plB 1 plZ) rfl ?_
  refine PW.aload_n hX dX6_init_15 rfl rfl ?_
  refine PW.new hX [.null, .null, .null, .null, .null, .null, .null, .int 0, .int 0, .int 0, .int 0] cn_X6_9 rfl dX6_init_16 dfX1 rfl (by rw [hx]; exact Nat.le_of_ble_eq_true rfl) rfl rfl rfl rfl ?_
  refine PW.dup hX dX6_init_19 rfl ?_
  refine PW.iN (h1 := [.inr (6, [.ref 1, .null, .null, .null, .null, .null, .null, .null, .int 0])] ++ plB 1 plZ ++ plB 9 plZ) hX ml_X6_11 rfl pm_iPlan dX6_init_20 [9] rfl rfl rfl rfl rfl rfl rfl rfl rfl rfl (by rw [hx]; exact Nat.le_of_ble_eq_true rfl) rfl rfl rfl rfl ((joinH_last ([.inr (6, [.ref 1, .null, .null, .null, .null, .null, .null, .null, .int 0])] ++ plB 1 plZ) _ _ _).trans (congrArg (fun x => ([.inr (6, [.ref 1, .null, .null, .null, .null, .null, .null, .null, .int 0])] ++ plB 1 plZ) ++ x) (rfl : _ = plB 9 plZ))) ?_
  refine PW.putF hX fp_X6_16 hin dX6_init_23 (fun _ => ⟨rfl, rfl⟩) rfl rfl ?_
  refine PW.heap (h' := [.inr (6, [.ref 1, .ref 9, .null, .null, .null, .null, .null, .null, .int 0])] ++ plB 1 plZ ++ plB 9 plZ) rfl ?_
  refine PW.aload_n hX dX6_init_26 rfl rfl ?_
  refine PW.new hX [.null, .null, .null, .null, .null, .null, .null, .int 0, .int 0, .int 0, .int 0] cn_X6_9 rfl dX6_init_27 dfX1 rfl (by rw [hx]; exact Nat.le_of_ble_eq_true rfl) rfl rfl rfl rfl ?_
  refine PW.dup hX dX6_init_30 rfl ?_
  refine PW.iN (h1 := [.inr (6, [.ref 1, .ref 9, .null, .null, .null, .null, .null, .null, .int 0])] ++ plB 1 plZ ++ plB 9 plZ ++ plB 17 plZ) hX ml_X6_11 rfl pm_iPlan dX6_init_31 [17] rfl rfl rfl rfl rfl rfl rfl rfl rfl rfl (by rw [hx]; exact Nat.le_of_ble_eq_true rfl) rfl rfl rfl rfl ((joinH_last ([.inr (6, [.ref 1, .ref 9, .null, .null, .null, .null, .null, .null, .int 0])] ++ plB 1 plZ ++ plB 9 plZ) _ _ _).trans (congrArg (fun x => ([.inr (6, [.ref 1, .ref 9, .null, .null, .null, .null, .null, .null, .int 0])] ++ plB 1 plZ ++ plB 9 plZ) ++ x) (rfl : _ = plB 17 plZ))) ?_
  refine PW.putF hX fp_X6_19 hin dX6_init_34 (fun _ => ⟨rfl, rfl⟩) rfl rfl ?_
  refine PW.heap (h' := [.inr (6, [.ref 1, .ref 9, .ref 17, .null, .null, .null, .null, .null, .int 0])] ++ plB 1 plZ ++ plB 9 plZ ++ plB 17 plZ) rfl ?_
  refine PW.aload_n hX dX6_init_37 rfl rfl ?_
  refine PW.new hX [.null, .int 0, .int 0, .int 0, .int 0, .int 0, .int 0, .int 0] cn_X6_22 rfl dX6_init_38 dfX4 rfl (by rw [hx]; exact Nat.le_of_ble_eq_true rfl) rfl rfl rfl rfl ?_
  refine PW.dup hX dX6_init_41 rfl ?_
  refine PW.iN (h1 := [.inr (6, [.ref 1, .ref 9, .ref 17, .null, .null, .null, .null, .null, .int 0])] ++ plB 1 plZ ++ plB 9 plZ ++ plB 17 plZ ++ teB 25 teZ) hX ml_X6_24 rfl pm_iText dX6_init_42 [25] rfl rfl rfl rfl rfl rfl rfl rfl rfl rfl (by rw [hx]; exact Nat.le_of_ble_eq_true rfl) rfl rfl rfl rfl ((joinH_last ([.inr (6, [.ref 1, .ref 9, .ref 17, .null, .null, .null, .null, .null, .int 0])] ++ plB 1 plZ ++ plB 9 plZ ++ plB 17 plZ) _ _ _).trans (congrArg (fun x => ([.inr (6, [.ref 1, .ref 9, .ref 17, .null, .null, .null, .null, .null, .int 0])] ++ plB 1 plZ ++ plB 9 plZ ++ plB 17 plZ) ++ x) (rfl : _ = teB 25 teZ))) ?_
  refine PW.putF hX fp_X6_25 hin dX6_init_45 (fun _ => ⟨rfl, rfl⟩) rfl rfl ?_
  refine PW.heap (h' := [.inr (6, [.ref 1, .ref 9, .ref 17, .ref 25, .null, .null, .null, .null, .int 0])] ++ plB 1 plZ ++ plB 9 plZ ++ plB 17 plZ ++ teB 25 teZ) rfl ?_
  refine PW.aload_n hX dX6_init_48 rfl rfl ?_
  refine PW.new hX [.null, .int 0, .int 0, .int 0, .int 0] cn_X6_29 rfl dX6_init_49 dfX2 rfl (by rw [hx]; exact Nat.le_of_ble_eq_true rfl) rfl rfl rfl rfl ?_
  refine PW.dup hX dX6_init_52 rfl ?_
  refine PW.iN (h1 := [.inr (6, [.ref 1, .ref 9, .ref 17, .ref 25, .null, .null, .null, .null, .int 0])] ++ plB 1 plZ ++ plB 9 plZ ++ plB 17 plZ ++ teB 25 teZ ++ prB 27 prZ) hX ml_X6_31 rfl pm_iPress dX6_init_53 [27] rfl rfl rfl rfl rfl rfl rfl rfl rfl rfl (by rw [hx]; exact Nat.le_of_ble_eq_true rfl) rfl rfl rfl rfl ((joinH_last ([.inr (6, [.ref 1, .ref 9, .ref 17, .ref 25, .null, .null, .null, .null, .int 0])] ++ plB 1 plZ ++ plB 9 plZ ++ plB 17 plZ ++ teB 25 teZ) _ _ _).trans (congrArg (fun x => ([.inr (6, [.ref 1, .ref 9, .ref 17, .ref 25, .null, .null, .null, .null, .int 0])] ++ plB 1 plZ ++ plB 9 plZ ++ plB 17 plZ ++ teB 25 teZ) ++ x) (rfl : _ = prB 27 prZ))) ?_
  refine PW.putF hX fp_X6_32 hin dX6_init_56 (fun _ => ⟨rfl, rfl⟩) rfl rfl ?_
  refine PW.heap (h' := [.inr (6, [.ref 1, .ref 9, .ref 17, .ref 25, .ref 27, .null, .null, .null, .int 0])] ++ plB 1 plZ ++ plB 9 plZ ++ plB 17 plZ ++ teB 25 teZ ++ prB 27 prZ) rfl ?_
  refine PW.aload_n hX dX6_init_59 rfl rfl ?_
  refine PW.new hX [.null, .null, .null, .null, .int 0, .null, .null] cn_X6_36 rfl dX6_init_60 dfX0 rfl (by rw [hx]; exact Nat.le_of_ble_eq_true rfl) rfl rfl rfl rfl ?_
  refine PW.dup hX dX6_init_63 rfl ?_
  refine PW.iN (h1 := [.inr (6, [.ref 1, .ref 9, .ref 17, .ref 25, .ref 27, .null, .null, .null, .int 0])] ++ plB 1 plZ ++ plB 9 plZ ++ plB 17 plZ ++ teB 25 teZ ++ prB 27 prZ ++ dyB 29 dyZ) hX ml_X6_38 rfl pm_iDay dX6_init_64 [29] rfl rfl rfl rfl rfl rfl rfl rfl rfl rfl (by rw [hx]; exact Nat.le_of_ble_eq_true rfl) rfl rfl rfl rfl ((joinH_last ([.inr (6, [.ref 1, .ref 9, .ref 17, .ref 25, .ref 27, .null, .null, .null, .int 0])] ++ plB 1 plZ ++ plB 9 plZ ++ plB 17 plZ ++ teB 25 teZ ++ prB 27 prZ) _ _ _).trans (congrArg (fun x => ([.inr (6, [.ref 1, .ref 9, .ref 17, .ref 25, .ref 27, .null, .null, .null, .int 0])] ++ plB 1 plZ ++ plB 9 plZ ++ plB 17 plZ ++ teB 25 teZ ++ prB 27 prZ) ++ x) (rfl : _ = dyB 29 dyZ))) ?_
  refine PW.putF hX fp_X6_39 hin dX6_init_67 (fun _ => ⟨rfl, rfl⟩) rfl rfl ?_
  refine PW.heap (h' := [.inr (6, [.ref 1, .ref 9, .ref 17, .ref 25, .ref 27, .ref 29, .null, .null, .int 0])] ++ plB 1 plZ ++ plB 9 plZ ++ plB 17 plZ ++ teB 25 teZ ++ prB 27 prZ ++ dyB 29 dyZ) rfl ?_
  refine PW.aload_n hX dX6_init_70 rfl rfl ?_
  refine PW.new hX [.null, .int 0, .null, .null, .null] cn_X6_43 rfl dX6_init_71 dfX3 rfl (by rw [hx]; exact Nat.le_of_ble_eq_true rfl) rfl rfl rfl rfl ?_
  refine PW.dup hX dX6_init_74 rfl ?_
  refine PW.iN (h1 := [.inr (6, [.ref 1, .ref 9, .ref 17, .ref 25, .ref 27, .ref 29, .null, .null, .int 0])] ++ plB 1 plZ ++ plB 9 plZ ++ plB 17 plZ ++ teB 25 teZ ++ prB 27 prZ ++ dyB 29 dyZ ++ rwB 39 rwZ) hX ml_X6_45 rfl pm_iRow dX6_init_75 [39] rfl rfl rfl rfl rfl rfl rfl rfl rfl rfl (by rw [hx]; exact Nat.le_of_ble_eq_true rfl) rfl rfl rfl rfl ((joinH_last ([.inr (6, [.ref 1, .ref 9, .ref 17, .ref 25, .ref 27, .ref 29, .null, .null, .int 0])] ++ plB 1 plZ ++ plB 9 plZ ++ plB 17 plZ ++ teB 25 teZ ++ prB 27 prZ ++ dyB 29 dyZ) _ _ _).trans (congrArg (fun x => ([.inr (6, [.ref 1, .ref 9, .ref 17, .ref 25, .ref 27, .ref 29, .null, .null, .int 0])] ++ plB 1 plZ ++ plB 9 plZ ++ plB 17 plZ ++ teB 25 teZ ++ prB 27 prZ ++ dyB 29 dyZ) ++ x) (rfl : _ = rwB 39 rwZ))) ?_
  refine PW.putF hX fp_X6_46 hin dX6_init_78 (fun _ => ⟨rfl, rfl⟩) rfl rfl ?_
  refine PW.heap (h' := [.inr (6, [.ref 1, .ref 9, .ref 17, .ref 25, .ref 27, .ref 29, .ref 39, .null, .int 0])] ++ plB 1 plZ ++ plB 9 plZ ++ plB 17 plZ ++ teB 25 teZ ++ prB 27 prZ ++ dyB 29 dyZ ++ rwB 39 rwZ) rfl ?_
  refine PW.aload_n hX dX6_init_81 rfl rfl ?_
  refine PW.bipush (v := nI 7) hX dX6_init_82 (by decide) ?_
  refine PW.newarr (t := 0) (ty := .int) hX acl_int rfl (fun _ => rfl) rfl (by decide) dX6_init_84 rfl (by rw [hx]; exact Nat.le_of_ble_eq_true rfl) rfl rfl rfl rfl rfl ?_
  refine PW.putF hX fp_X6_50 hin dX6_init_86 (fun _ => ⟨rfl, rfl⟩) rfl rfl ?_
  refine PW.heap (h' := [.inr (6, [.ref 1, .ref 9, .ref 17, .ref 25, .ref 27, .ref 29, .ref 39, .ref 44, .int 0])] ++ plB 1 plZ ++ plB 9 plZ ++ plB 17 plZ ++ teB 25 teZ ++ prB 27 prZ ++ dyB 29 dyZ ++ rwB 39 rwZ ++ [.inl (0, 7, fun _ => 0)]) rfl ?_
  refine PW.aload_n hX dX6_init_89 rfl rfl ?_
  refine PW.iconst (v := nI 0) hX dX6_init_90 (by decide) ?_
  refine PW.putZ hX fp_X6_54 dX6_init_91 (by first | exact Or.inl rfl | exact Or.inr rfl | assumption) rfl rfl ?_
  refine PW.vret hX hR dX6_init_94 rfl rfl ?_
  exact ⟨rfl, by unfold wpB; simp only [← List.append_assoc]; rfl⟩
