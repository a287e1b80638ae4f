theorem ddX0 : ∀ j, j < 7 → defaultValue (tyX0 j) = vp_V [.null, .null, .null, .null, .int 0, .null, .null] j := by decide
theorem dfX0 : ∀ ty : Nat → FieldType, (∀ k, k < 7 → parseFieldDescriptor (TX0 k).2.2.1 = some (ty k)) → ∀ j, j < 7 → defaultValue (ty j) = vp_V [.null, .null, .null, .null, .int 0, .null, .null] j := fun ty h j hj => by
  rw [← ddX0 j hj]
  exact congrArg defaultValue (Option.some.inj ((h j hj).symm.trans (tyX0_ok j hj)))
theorem ddX1 : ∀ j, j < 11 → defaultValue (tyX1 j) = vp_V [.null, .null, .null, .null, .null, .null, .null, .int 0, .int 0, .int 0, .int 0] j := by decide
theorem dfX1 : ∀ ty : Nat → FieldType, (∀ k, k < 11 → parseFieldDescriptor (TX1 k).2.2.1 = some (ty k)) → ∀ j, j < 11 → defaultValue (ty j) = vp_V [.null, .null, .null, .null, .null, .null, .null, .int 0, .int 0, .int 0, .int 0] j := fun ty h j hj => by
  rw [← ddX1 j hj]
  exact congrArg defaultValue (Option.some.inj ((h j hj).symm.trans (tyX1_ok j hj)))
theorem ddX2 : ∀ j, j < 5 → defaultValue (tyX2 j) = vp_V [.null, .int 0, .int 0, .int 0, .int 0] j := by decide
theorem dfX2 : ∀ ty : Nat → FieldType, (∀ k, k < 5 → parseFieldDescriptor (TX2 k).2.2.1 = some (ty k)) → ∀ j, j < 5 → defaultValue (ty j) = vp_V [.null, .int 0, .int 0, .int 0, .int 0] j := fun ty h j hj => by
  rw [← ddX2 j hj]
  exact congrArg defaultValue (Option.some.inj ((h j hj).symm.trans (tyX2_ok j hj)))
theorem ddX3 : ∀ j, j < 5 → defaultValue (tyX3 j) = vp_V [.null, .int 0, .null, .null, .null] j := by decide
theorem dfX3 : ∀ ty : Nat → FieldType, (∀ k, k < 5 → parseFieldDescriptor (TX3 k).2.2.1 = some (ty k)) → ∀ j, j < 5 → defaultValue (ty j) = vp_V [.null, .int 0, .null, .null, .null] j := fun ty h j hj => by
  rw [← ddX3 j hj]
  exact congrArg defaultValue (Option.some.inj ((h j hj).symm.trans (tyX3_ok j hj)))
theorem ddX4 : ∀ j, j < 8 → defaultValue (tyX4 j) = vp_V [.null, .int 0, .int 0, .int 0, .int 0, .int 0, .int 0, .int 0] j := by decide
theorem dfX4 : ∀ ty : Nat → FieldType, (∀ k, k < 8 → parseFieldDescriptor (TX4 k).2.2.1 = some (ty k)) → ∀ j, j < 8 → defaultValue (ty j) = vp_V [.null, .int 0, .int 0, .int 0, .int 0, .int 0, .int 0, .int 0] j := fun ty h j hj => by
  rw [← ddX4 j hj]
  exact congrArg defaultValue (Option.some.inj ((h j hj).symm.trans (tyX4_ok j hj)))
theorem ddX5 : ∀ j, j < 3 → defaultValue (tyX5 j) = vp_V [.null, .null, .int 0] j := by decide
theorem dfX5 : ∀ ty : Nat → FieldType, (∀ k, k < 3 → parseFieldDescriptor (TX5 k).2.2.1 = some (ty k)) → ∀ j, j < 3 → defaultValue (ty j) = vp_V [.null, .null, .int 0] j := fun ty h j hj => by
  rw [← ddX5 j hj]
  exact congrArg defaultValue (Option.some.inj ((h j hj).symm.trans (tyX5_ok j hj)))
theorem ddX6 : ∀ j, j < 9 → defaultValue (tyX6 j) = vp_V [.null, .null, .null, .null, .null, .null, .null, .null, .int 0] j := by decide
theorem dfX6 : ∀ ty : Nat → FieldType, (∀ k, k < 9 → parseFieldDescriptor (TX6 k).2.2.1 = some (ty k)) → ∀ j, j < 9 → defaultValue (ty j) = vp_V [.null, .null, .null, .null, .null, .null, .null, .null, .int 0] j := fun ty h j hj => by
  rw [← ddX6 j hj]
  exact congrArg defaultValue (Option.some.inj ((h j hj).symm.trans (tyX6_ok j hj)))
theorem ddX7 : ∀ j, j < 24 → defaultValue (tyX7 j) = vp_V [.null, .null, .null, .int 0, .null, .int 0, .int 0, .int 0, .null, .null, .null, .int 0, .null, .null, .null, .null, .int 0, .null, .int 0, .null, .null, .null, .int 0, .null] j := by decide
theorem dfX7 : ∀ ty : Nat → FieldType, (∀ k, k < 24 → parseFieldDescriptor (TX7 k).2.2.1 = some (ty k)) → ∀ j, j < 24 → defaultValue (ty j) = vp_V [.null, .null, .null, .int 0, .null, .int 0, .int 0, .int 0, .null, .null, .null, .int 0, .null, .null, .null, .null, .int 0, .null, .int 0, .null, .null, .null, .int 0, .null] j := fun ty h j hj => by
  rw [← ddX7 j hj]
  exact congrArg defaultValue (Option.some.inj ((h j hj).symm.trans (tyX7_ok j hj)))
section ConE
variable {X : Cx} {cc : ByteArray} {own : String} {ret : Option FieldType} {d mc ms : Nat} {pc : Nat} {L : List (Option Value)} {st rest : List Value} {h hc h0 h1 : List PCell} {kc ks : Nat} {μ : MI} {d' mc' ms' n : Nat} {as : List Value}
theorem PW.iN (hX : Fx X cc own ret d mc ms) {idx i : Nat} (hm : MNI own idx μ n) (hnone : μ.2.2.2 = none) (hM : PM μ d' mc' ms' as hc (eqP none h0)) (hd : decode cc pc = .ok (.invokespecial idx, 3))
    (ι : List Nat) (e1 : ι.map (fun i => h[i]?) = hc.map (fun c => some (rC (rho ι ι.length h.length) c))) (hst : st = (as.map (tV (rho ι ι.length h.length))).reverse ++ rest) (hob : (as.map (tV (rho ι ι.length h.length))).head? = some (.ref i)) (hn : as.length = n + 1)
    (hnd : va_nd ι = true) (hsm : Nat.ble ι.length 1000 = true) (hdd : Nat.blt d' d = true) (hcc : Nat.ble (kc + mc') mc = true) (hss : Nat.ble (ks + ms') ms = true) (hr : Nat.ble ((rest.map fun v => v.category).sum) 8 = true) (hx0 : cxn X ≤ h.length) (hok : okS h.length L rest h = true)
    (hl : Nat.ble ι.length h0.length = true) (hbig : Nat.ble (h0.length + h.length) 1000 = true) (ho0 : okH h0.length h0 = true) (eh : joinH h ι h0 = h1)
    (kk : PW X (pc + 3) L rest h1 (kc + mc') (ks + ms')) : PW X pc L st h kc ks := by
  refine PW.callIN hX hm hnone hM hd ι e1 hst hob hn hnd hsm hdd hcc hss hr hx0 hok (fun r h' hr => ?_) (fun r h' hr => ?_)
  · obtain ⟨rfl, rfl⟩ := hr
    exact ⟨rfl, Nat.ble_eq.mp hl, Nat.ble_eq.mp hbig, ho0⟩
  · obtain ⟨rfl, rfl⟩ := hr
    rw [eh]
    exact kk
theorem PW.iS (hX : Fx X cc own ret d mc ms) {idx i : Nat} (hm : MSI own idx μ n) (hnone : μ.2.2.2 = none) (hM : PM μ d' mc' ms' as hc (eqP none h0)) (hd : decode cc pc = .ok (.invokespecial idx, 3))
    (ι : List Nat) (e1 : ι.map (fun i => h[i]?) = hc.map (fun c => some (rC (rho ι ι.length h.length) c))) (hst : st = (as.map (tV (rho ι ι.length h.length))).reverse ++ rest) (hob : (as.map (tV (rho ι ι.length h.length))).head? = some (.ref i)) (hn : as.length = n + 1)
    (hnd : va_nd ι = true) (hsm : Nat.ble ι.length 1000 = true) (hdd : Nat.blt d' d = true) (hcc : Nat.ble (kc + mc') mc = true) (hss : Nat.ble (ks + ms') ms = true) (hr : Nat.ble ((rest.map fun v => v.category).sum) 8 = true) (hx0 : cxn X ≤ h.length) (hok : okS h.length L rest h = true)
    (hl : Nat.ble ι.length h0.length = true) (hbig : Nat.ble (h0.length + h.length) 1000 = true) (ho0 : okH h0.length h0 = true) (eh : joinH h ι h0 = h1)
    (kk : PW X (pc + 3) L rest h1 (kc + mc') (ks + ms')) : PW X pc L st h kc ks := by
  refine PW.callI hX hm hnone hM hd ι e1 hst hob hn hnd hsm hdd hcc hss hr hx0 hok (fun r h' hr => ?_) (fun r h' hr => ?_)
  · obtain ⟨rfl, rfl⟩ := hr
    exact ⟨rfl, Nat.ble_eq.mp hl, Nat.ble_eq.mp hbig, ho0⟩
  · obtain ⟨rfl, rfl⟩ := hr
    rw [eh]
    exact kk
end ConE
def plZ : Pl := (fun _ => 0, fun _ => 0, fun _ => 0, fun _ => 0, fun _ => 0, fun _ => 0, fun _ => 0, 0, 0, 0, 0)
def prZ : Pr := (fun _ => 0, 0, none, 0, 0)
def rwZ : Rw := (fun _ => 0, 0, fun _ => 0, fun _ => 0, fun _ => some 0)
def teZ : Te := (fun _ => 0, 0, 0, 0, nI 0, nI 0, nI 0, nI 0)
def tyZ : Ty := (fun _ => 0, fun _ => 0, 0)
def dyZ : Dy := (prZ, tyZ, fun _ => 0, fun _ => 0, 0, fun _ => some 0, fun _ => some 0)
def wpZ : Wp := (plZ, plZ, plZ, teZ, prZ, dyZ, rwZ, fun _ => 0, false)
theorem pm_iPress : PM mu_X2_init 1 1 6 [.ref 0] [.inr (2, [.null, .int 0, .int 0, .int 0, .int 0])] (eqP none (prB 0 prZ)) := by
  refine PM.start (Or.inl (by decide +kernel)) rfl rfl rfl ?_
  intro X hX hR hx hin
  refine PW.aload_n hX dX2_init_0 rfl rfl ?_
  refine PW.objInit hX oi_X2_3 oi_inst oi_code dX2_init_1 rfl rfl ?_
  refine PW.aload_n hX dX2_init_4 rfl rfl ?_
  refine PW.bipush (v := nI 6) hX dX2_init_5 (by decide) ?_
  refine PW.newarr (t := 0) (ty := .int) hX acl_int rfl (fun _ => rfl) rfl (by decide) dX2_init_7 rfl (by rw [hx]; exact Nat.le_of_ble_eq_true rfl) rfl rfl rfl rfl rfl ?_
  refine PW.putF hX fp_X2_9 hin dX2_init_9 (fun _ => ⟨rfl, rfl⟩) rfl rfl ?_
  refine PW.aload_n hX dX2_init_12 rfl rfl ?_
  refine PW.iconst (v := nI 0) hX dX2_init_13 (by decide) ?_
  refine PW.putI hX fp_X2_15 dX2_init_14 rfl rfl ?_
  refine PW.aload_n hX dX2_init_17 rfl rfl ?_
  refine PW.bipush (v := (-9)) hX dX2_init_18 (by decide) ?_
  refine PW.putI hX fp_X2_19 dX2_init_20 rfl rfl ?_
  refine PW.aload_n hX dX2_init_23 rfl rfl ?_
  refine PW.iconst (v := nI 0) hX dX2_init_24 (by decide) ?_
  refine PW.putI hX fp_X2_22 dX2_init_25 rfl rfl ?_
  refine PW.aload_n hX dX2_init_28 rfl rfl ?_
  refine PW.iconst (v := nI 0) hX dX2_init_29 (by decide) ?_
  refine PW.putI hX fp_X2_25 dX2_init_30 rfl rfl ?_
  refine PW.vret hX hR dX2_init_33 rfl rfl ?_
  exact ⟨rfl, rfl⟩
theorem pm_iTray : PM mu_X5_init 1 2 106 [.ref 0] [.inr (5, [.null, .null, .int 0])] (eqP none (tyB 0 tyZ)) := by
  refine PM.start (Or.inl (by decide +kernel)) rfl rfl rfl ?_
  intro X hX hR hx hin
  refine PW.aload_n hX dX5_init_0 rfl rfl ?_
  refine PW.objInit hX oi_X5_3 oi_inst oi_code dX5_init_1 rfl rfl ?_
  refine PW.aload_n hX dX5_init_4 rfl rfl ?_
  refine PW.bipush (v := nI 100) hX dX5_init_5 (by decide) ?_
  refine PW.newarr (t := 0) (ty := .int) hX acl_int rfl (fun _ => rfl) rfl (by decide) dX5_init_7 rfl (by rw [hx]; exact Nat.le_of_ble_eq_true rfl) rfl rfl rfl rfl rfl ?_
  refine PW.putF hX fp_X5_9 hin dX5_init_9 (fun _ => ⟨rfl, rfl⟩) rfl rfl ?_
  refine PW.aload_n hX dX5_init_12 rfl rfl ?_
  refine PW.bipush (v := nI 6) hX dX5_init_13 (by decide) ?_
  refine PW.newarr (t := 0) (ty := .int) hX acl_int rfl (fun _ => rfl) rfl (by decide) dX5_init_15 rfl (by rw [hx]; exact Nat.le_of_ble_eq_true rfl) rfl rfl rfl rfl rfl ?_
  refine PW.putF hX fp_X5_15 hin dX5_init_17 (fun _ => ⟨rfl, rfl⟩) rfl rfl ?_
  refine PW.aload_n hX dX5_init_20 rfl rfl ?_
  refine PW.iconst (v := nI 0) hX dX5_init_21 (by decide) ?_
  refine PW.putI hX fp_X5_18 dX5_init_22 rfl rfl ?_
  refine PW.vret hX hR dX5_init_25 rfl rfl ?_
  exact ⟨rfl, rfl⟩
theorem pm_iText : PM mu_X4_init 1 1 80 [.ref 0] [.inr (4, [.null, .int 0, .int 0, .int 0, .int 0, .int 0, .int 0, .int 0])] (eqP none (teB 0 teZ)) := by
  refine PM.start (Or.inl (by decide +kernel)) rfl rfl rfl ?_
  intro X hX hR hx hin
  refine PW.aload_n hX dX4_init_0 rfl rfl ?_
  refine PW.objInit hX oi_X4_3 oi_inst oi_code dX4_init_1 rfl rfl ?_
  refine PW.aload_n hX dX4_init_4 rfl rfl ?_
  refine PW.bipush (v := nI 80) hX dX4_init_5 (by decide) ?_
  refine PW.newarr (t := 0) (ty := .int) hX acl_int rfl (fun _ => rfl) rfl (by decide) dX4_init_7 rfl (by rw [hx]; exact Nat.le_of_ble_eq_true rfl) rfl rfl rfl rfl rfl ?_
  refine PW.putF hX fp_X4_9 hin dX4_init_9 (fun _ => ⟨rfl, rfl⟩) rfl rfl ?_
  refine PW.aload_n hX dX4_init_12 rfl rfl ?_
  refine PW.iconst (v := nI 0) hX dX4_init_13 (by decide) ?_
  refine PW.putI hX fp_X4_15 dX4_init_14 rfl rfl ?_
  refine PW.aload_n hX dX4_init_17 rfl rfl ?_
  refine PW.iconst (v := nI 0) hX dX4_init_18 (by decide) ?_
  refine PW.putI hX fp_X4_19 dX4_init_19 rfl rfl ?_
  refine PW.aload_n hX dX4_init_22 rfl rfl ?_
  refine PW.iconst (v := nI 0) hX dX4_init_23 (by decide) ?_
  refine PW.putI hX fp_X4_22 dX4_init_24 rfl rfl ?_
  refine PW.aload_n hX dX4_init_27 rfl rfl ?_
  refine PW.iconst (v := nI 0) hX dX4_init_28 (by decide) ?_
  refine PW.putI hX fp_X4_25 dX4_init_29 rfl rfl ?_
  refine PW.aload_n hX dX4_init_32 rfl rfl ?_
  refine PW.iconst (v := nI 0) hX dX4_init_33 (by decide) ?_
  refine PW.putI hX fp_X4_28 dX4_init_34 rfl rfl ?_
  refine PW.aload_n hX dX4_init_37 rfl rfl ?_
  refine PW.iconst (v := nI 0) hX dX4_init_38 (by decide) ?_
  refine PW.putI hX fp_X4_31 dX4_init_39 rfl rfl ?_
  refine PW.aload_n hX dX4_init_42 rfl rfl ?_
  refine PW.iconst (v := nI 0) hX dX4_init_43 (by decide) ?_
  refine PW.putI hX fp_X4_34 dX4_init_44 rfl rfl ?_
  refine PW.vret hX hR dX4_init_47 rfl rfl ?_
  exact ⟨rfl, rfl⟩
theorem pm_iRow : PM mu_X3_init 1 4 1130 [.ref 0] [.inr (3, [.null, .int 0, .null, .null, .null])] (eqP none (rwB 0 rwZ)) := by
  refine PM.start (Or.inl (by decide +kernel)) rfl rfl rfl ?_
  intro X hX hR hx hin
  refine PW.aload_n hX dX3_init_0 rfl rfl ?_
  refine PW.objInit hX oi_X3_3 oi_inst oi_code dX3_init_1 rfl rfl ?_
  refine PW.aload_n hX dX3_init_4 rfl rfl ?_
  refine PW.bipush (v := nI 20) hX dX3_init_5 (by decide) ?_
  refine PW.newarr (t := 0) (ty := .int) hX acl_int rfl (fun _ => rfl) rfl (by decide) dX3_init_7 rfl (by rw [hx]; exact Nat.le_of_ble_eq_true rfl) rfl rfl rfl rfl rfl ?_
  refine PW.putF hX fp_X3_9 hin dX3_init_9 (fun _ => ⟨rfl, rfl⟩) rfl rfl ?_
  refine PW.aload_n hX dX3_init_12 rfl rfl ?_
  refine PW.iconst (v := nI 0) hX dX3_init_13 (by decide) ?_
  refine PW.putI hX fp_X3_15 dX3_init_14 rfl rfl ?_
  refine PW.aload_n hX dX3_init_17 rfl rfl ?_
  refine PW.sipush (v := nI 1000) hX dX3_init_18 (by decide) ?_
  refine PW.newarr (t := 0) (ty := .int) hX acl_int rfl (fun _ => rfl) rfl (by decide) dX3_init_21 rfl (by rw [hx]; exact Nat.le_of_ble_eq_true rfl) rfl rfl rfl rfl rfl ?_
  refine PW.putF hX fp_X3_19 hin dX3_init_23 (fun _ => ⟨rfl, rfl⟩) rfl rfl ?_
  refine PW.aload_n hX dX3_init_26 rfl rfl ?_
  refine PW.bipush (v := nI 10) hX dX3_init_27 (by decide) ?_
  refine PW.newarr (t := 0) (ty := .int) hX acl_int rfl (fun _ => rfl) rfl (by decide) dX3_init_29 rfl (by rw [hx]; exact Nat.le_of_ble_eq_true rfl) rfl rfl rfl rfl rfl ?_
  refine PW.putF hX fp_X3_22 hin dX3_init_31 (fun _ => ⟨rfl, rfl⟩) rfl rfl ?_
  refine PW.aload_n hX dX3_init_34 rfl rfl ?_
  refine PW.bipush (v := nI 100) hX dX3_init_35 (by decide) ?_
  refine PW.newarr (t := 0) (ty := .int) hX acl_int rfl (fun _ => rfl) rfl (by decide) dX3_init_37 rfl (by rw [hx]; exact Nat.le_of_ble_eq_true rfl) rfl rfl rfl rfl rfl ?_
  refine PW.putF hX fp_X3_25 hin dX3_init_39 (fun _ => ⟨rfl, rfl⟩) rfl rfl ?_
  refine PW.vret hX hR dX3_init_42 rfl rfl ?_
  exact ⟨rfl, rfl⟩
theorem pm_iPlan : PM mu_X1_init 1 7 42 [.ref 0] [.inr (1, [.null, .null, .null, .null, .null, .null, .null, .int 0, .int 0, .int 0, .int 0])] (eqP none (plB 0 plZ)) := by
  refine PM.start (Or.inl (by decide +kernel)) rfl rfl rfl ?_
  intro X hX hR hx hin
  refine PW.aload_n hX dX1_init_0 rfl rfl ?_
  refine PW.objInit hX oi_X1_3 oi_inst oi_code dX1_init_1 rfl rfl ?_
  refine PW.aload_n hX dX1_init_4 rfl rfl ?_
  refine PW.bipush (v := nI 6) hX dX1_init_5 (by decide) ?_
  refine PW.newarr (t := 0) (ty := .int) hX acl_int rfl (fun _ => rfl) rfl (by decide) dX1_init_7 rfl (by rw [hx]; exact Nat.le_of_ble_eq_true rfl) rfl rfl rfl rfl rfl ?_
  refine PW.putF hX fp_X1_9 hin dX1_init_9 (fun _ => ⟨rfl, rfl⟩) rfl rfl ?_
  refine PW.aload_n hX dX1_init_12 rfl rfl ?_
  refine PW.bipush (v := nI 6) hX dX1_init_13 (by decide) ?_
  refine PW.newarr (t := 0) (ty := .int) hX acl_int rfl (fun _ => rfl) rfl (by decide) dX1_init_15 rfl (by rw [hx]; exact Nat.le_of_ble_eq_true rfl) rfl rfl rfl rfl rfl ?_
  refine PW.putF hX fp_X1_15 hin dX1_init_17 (fun _ => ⟨rfl, rfl⟩) rfl rfl ?_
  refine PW.aload_n hX dX1_init_20 rfl rfl ?_
  refine PW.bipush (v := nI 6) hX dX1_init_21 (by decide) ?_
  refine PW.newarr (t := 0) (ty := .int) hX acl_int rfl (fun _ => rfl) rfl (by decide) dX1_init_23 rfl (by rw [hx]; exact Nat.le_of_ble_eq_true rfl) rfl rfl rfl rfl rfl ?_
  refine PW.putF hX fp_X1_18 hin dX1_init_25 (fun _ => ⟨rfl, rfl⟩) rfl rfl ?_
  refine PW.aload_n hX dX1_init_28 rfl rfl ?_
  refine PW.bipush (v := nI 6) hX dX1_init_29 (by decide) ?_
  refine PW.newarr (t := 0) (ty := .int) hX acl_int rfl (fun _ => rfl) rfl (by decide) dX1_init_31 rfl (by rw [hx]; exact Nat.le_of_ble_eq_true rfl) rfl rfl rfl rfl rfl ?_
  refine PW.putF hX fp_X1_21 hin dX1_init_33 (fun _ => ⟨rfl, rfl⟩) rfl rfl ?_
  refine PW.aload_n hX dX1_init_36 rfl rfl ?_
  refine PW.bipush (v := nI 6) hX dX1_init_37 (by decide) ?_
  refine PW.newarr (t := 0) (ty := .int) hX acl_int rfl (fun _ => rfl) rfl (by decide) dX1_init_39 rfl (by rw [hx]; exact Nat.le_of_ble_eq_true rfl) rfl rfl rfl rfl rfl ?_
  refine PW.putF hX fp_X1_24 hin dX1_init_41 (fun _ => ⟨rfl, rfl⟩) rfl rfl ?_
  refine PW.aload_n hX dX1_init_44 rfl rfl ?_
  refine PW.bipush (v := nI 6) hX dX1_init_45 (by decide) ?_
  refine PW.newarr (t := 0) (ty := .int) hX acl_int rfl (fun _ => rfl) rfl (by decide) dX1_init_47 rfl (by rw [hx]; exact Nat.le_of_ble_eq_true rfl) rfl rfl rfl rfl rfl ?_
  refine PW.putF hX fp_X1_27 hin dX1_init_49 (fun _ => ⟨rfl, rfl⟩) rfl rfl ?_
  refine PW.aload_n hX dX1_init_52 rfl rfl ?_
  refine PW.bipush (v := nI 6) hX dX1_init_53 (by decide) ?_
  refine PW.newarr (t := 0) (ty := .int) hX acl_int rfl (fun _ => rfl) rfl (by decide) dX1_init_55 rfl (by rw [hx]; exact Nat.le_of_ble_eq_true rfl) rfl rfl rfl rfl rfl ?_
  refine PW.putF hX fp_X1_30 hin dX1_init_57 (fun _ => ⟨rfl, rfl⟩) rfl rfl ?_
  refine PW.aload_n hX dX1_init_60 rfl rfl ?_
  refine PW.iconst (v := nI 0) hX dX1_init_61 (by decide) ?_
  refine PW.putI hX fp_X1_33 dX1_init_62 rfl rfl ?_
  refine PW.aload_n hX dX1_init_65 rfl rfl ?_
  refine PW.iconst (v := nI 0) hX dX1_init_66 (by decide) ?_
  refine PW.putI hX fp_X1_37 dX1_init_67 rfl rfl ?_
  refine PW.aload_n hX dX1_init_70 rfl rfl ?_
  refine PW.iconst (v := nI 0) hX dX1_init_71 (by decide) ?_
  refine PW.putI hX fp_X1_40 dX1_init_72 rfl rfl ?_
  refine PW.aload_n hX dX1_init_75 rfl rfl ?_
  refine PW.iconst (v := nI 0) hX dX1_init_76 (by decide) ?_
  refine PW.putI hX fp_X1_43 dX1_init_77 rfl rfl ?_
  refine PW.vret hX hR dX1_init_80 rfl rfl ?_
  exact ⟨rfl, rfl⟩
