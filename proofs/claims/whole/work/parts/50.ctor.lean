theorem dfX0 : ∀ j, j < 3 → defaultValue (tyX0 j) = vp_V [.null, .int 0, .int 0] j := by decide +kernel
theorem dfX1 : ∀ j, j < 3 → defaultValue (tyX1 j) = vp_V [.null, .int 0, .int 0] j := by decide +kernel
theorem dfX2 : ∀ j, j < 8 → defaultValue (tyX2 j) = vp_V [.int 0, .int 0, .int 0, .null, .null, .null, .null, .null] j := by decide +kernel
theorem dfX3 : ∀ j, j < 4 → defaultValue (tyX3 j) = vp_V [.null, .null, .null, .int 0] j := by decide +kernel
theorem dfX4 : ∀ j, j < 4 → defaultValue (tyX4 j) = vp_V [.null, .null, .int 0, .int 0] j := by decide +kernel
theorem dfX5 : ∀ j, j < 6 → defaultValue (tyX5 j) = vp_V [.null, .null, .int 0, .int 0, .int 0, .int 0] j := by decide +kernel
theorem dfX6 : ∀ j, j < 9 → defaultValue (tyX6 j) = vp_V [.null, .int 0, .null, .int 0, .int 0, .int 0, .int 0, .int 0, .int 0] j := by decide +kernel
theorem dfX7 : ∀ j, j < 10 → defaultValue (tyX7 j) = vp_V [.null, .null, .null, .null, .null, .null, .null, .null, .null, .long 0] j := by decide +kernel
theorem dfX8 : ∀ j, j < 19 → defaultValue (tyX8 j) = vp_V [.long 0, .null, .int 0, .null, .null, .null, .null, .int 0, .null, .null, .null, .null, .int 0, .int 0, .int 0, .int 0, .int 0, .null, .null] j := by decide +kernel
def sel10 (a0 a1 a2 a3 a4 a5 a6 a7 a8 a9 : Nat) (j : Nat) : Nat := match j with
  | 0 => a0
  | 1 => a1
  | 2 => a2
  | 3 => a3
  | 4 => a4
  | 5 => a5
  | 6 => a6
  | 7 => a7
  | 8 => a8
  | _ => a9
def sel2 (a0 a1 : Nat) (j : Nat) : Nat := match j with
  | 0 => a0
  | _ => a1
abbrev rmX0_init : Room := { frames := 1, cells := 1, slots := 8, locals := 20 }
theorem hiX0_init_0 : ∀ w ∈ wsX00, w ∈ wsX0_init := fun w h => (goodIn_r (big := wsX0_init) wsX00 [6, 7, 8] rfl (by decide +kernel) w h).1
def nX0_init (cI cZ cR : ClassId) (h0 : Nat)  (w : va_W) : Prop := ∃ (q1 : Nat), w = [(h0, .inr (0, [.ref q1, .int 0, .int 0])), (q1, .inl (cI, 8, .inl (fun _ => 0)))]
set_option maxRecDepth 100000 in
set_option maxHeartbeats 4000000 in
theorem c_X0_init (l : Launch) (D : va_G) (cI cZ cR : ClassId) (h0 : Nat)  : Cn l yX0_init wsX0_init rmX0_init D cI cZ cR [.ref h0] [(h0, .inr (0, [.null, .int 0, .int 0]))] 1 8 (nX0_init cI cZ cR h0 ) := by
  refine ent_n (cc := cX0_init) (maxL := 1) (by decide) rfl rfl (Nat.le_of_ble_eq_true rfl) ?_
  intro p e s m below meth c A Q hx hb hml hown hin hts hE hA hP hD hS hret ls hl
  have hown : s.vm.findClass RX0 = some m.cls := hown
  have hl : lv_has ls 1 [(0, .ref h0)] := hl
  have fL9 := hts (.fieldLink RX0 9 "RainShelves$Frost" "cases" "[I") (List.mem_of_getElem? (i := 5) rfl)
  refine lv_aload_n hx hb dX0_init_0 rfl (lv_at hl 0 rfl) ?_
  refine W.objInit hx hb hown (hts (.methodLink RX0 3 objectInit) (List.mem_of_getElem? (i := 1) rfl)) (hts (.instanceMethod objectInit) (List.mem_of_getElem? (i := 2) rfl)) (hts (.code objectInit ⟨#[0xb1]⟩ 1 none) (List.mem_of_getElem? (i := 3) rfl)) rfl (by rw [hml]; exact hl.1) rfl dX0_init_1 (Nat.le_of_ble_eq_true rfl) (Nat.le_of_ble_eq_true rfl) ?_
  refine W.eq (g2 := F0 m 4 ls []) rfl ?_
  refine lv_aload_n hx hb dX0_init_4 rfl (lv_at hl 0 rfl) ?_
  refine lv_bipush (v := 8) hx hb dX0_init_5 (by decide) ?_
  refine new_i (k := 8) hx hb (hts (.arrayClass .int) (List.mem_of_getElem? (i := 4) rfl)) hE hP hD hS hA (by decide) (by decide) (Nat.le_of_ble_eq_true rfl) (Nat.le_of_ble_eq_true rfl) (Nat.le_of_ble_eq_true rfl) dX0_init_7 (fun q1 H hP hD hS => ?_)
  have hPD : PD D A [(h0, .inr (0, [.null, .int 0, .int 0])), (q1, .inl (cI, 8, .inl (fun _ => 0)))] H := ⟨hP, hD⟩
  obtain ⟨hP, hD⟩ := hPD
  refine W.widen (k := 1) (n := 8) (Nat.le_of_ble_eq_true rfl) (Nat.le_of_ble_eq_true rfl) ?_
  refine va_putF (D := D) (ci := 0) (v := .ref q1) (ty := tyX0 0) (C := RX0) (T := TX0) (N := 3) hx hb hts hiX0_init_0 tyX0 tyX0_ok nmX0 hown hE.1 hP hD hS 0 rfl rfl 0 (by decide) fL9 (fun _ h9 => h9) rfl hin rfl (tyX0_ok 0 (by decide)) rfl rfl (Nat.le_of_ble_eq_true rfl) dX0_init_9 (fun H locs hP hD hS => ?_)
  have hPD : PD D A [(h0, .inr (0, [.ref q1, .int 0, .int 0])), (q1, .inl (cI, 8, .inl (fun _ => 0)))] H := ⟨hP, hD⟩
  obtain ⟨hP, hD⟩ := hPD
  exact hret _ _ _ _ _ dX0_init_12 ⟨q1, rfl⟩ hP hD hS
abbrev rmX3_init : Room := { frames := 1, cells := 3, slots := 15, locals := 20 }
theorem hiX3_init_3 : ∀ w ∈ wsX30, w ∈ wsX3_init := fun w h => (goodIn_r (big := wsX3_init) wsX30 [8, 9, 10, 11] rfl (by decide +kernel) w h).1
def nX3_init (cI cZ cR : ClassId) (h0 : Nat)  (w : va_W) : Prop := ∃ (q1 : Nat) (q2 : Nat) (q3 : Nat), w = [(h0, .inr (3, [.ref q1, .ref q2, .ref q3, .int 0])), (q1, .inl (cI, 5, .inl (fun _ => 0))), (q2, .inl (cI, 5, .inl (fun _ => 0))), (q3, .inl (cI, 5, .inl (fun _ => 0)))]
set_option maxRecDepth 100000 in
set_option maxHeartbeats 4000000 in
theorem c_X3_init (l : Launch) (D : va_G) (cI cZ cR : ClassId) (h0 : Nat)  : Cn l yX3_init wsX3_init rmX3_init D cI cZ cR [.ref h0] [(h0, .inr (3, [.null, .null, .null, .int 0]))] 3 15 (nX3_init cI cZ cR h0 ) := by
  refine ent_n (cc := cX3_init) (maxL := 1) (by decide) rfl rfl (Nat.le_of_ble_eq_true rfl) ?_
  intro p e s m below meth c A Q hx hb hml hown hin hts hE hA hP hD hS hret ls hl
  have hown : s.vm.findClass RX3 = some m.cls := hown
  have hl : lv_has ls 1 [(0, .ref h0)] := hl
  have fL9 := hts (.fieldLink RX3 9 "RainShelves$Levels" "springs" "[I") (List.mem_of_getElem? (i := 5) rfl)
  have fL15 := hts (.fieldLink RX3 15 "RainShelves$Levels" "pans" "[I") (List.mem_of_getElem? (i := 6) rfl)
  have fL18 := hts (.fieldLink RX3 18 "RainShelves$Levels" "spoons" "[I") (List.mem_of_getElem? (i := 7) rfl)
  refine lv_aload_n hx hb dX3_init_0 rfl (lv_at hl 0 rfl) ?_
  refine W.objInit hx hb hown (hts (.methodLink RX3 3 objectInit) (List.mem_of_getElem? (i := 1) rfl)) (hts (.instanceMethod objectInit) (List.mem_of_getElem? (i := 2) rfl)) (hts (.code objectInit ⟨#[0xb1]⟩ 1 none) (List.mem_of_getElem? (i := 3) rfl)) rfl (by rw [hml]; exact hl.1) rfl dX3_init_1 (Nat.le_of_ble_eq_true rfl) (Nat.le_of_ble_eq_true rfl) ?_
  refine W.eq (g2 := F0 m 4 ls []) rfl ?_
  refine lv_aload_n hx hb dX3_init_4 rfl (lv_at hl 0 rfl) ?_
  refine lv_iconst (v := 5) hx hb dX3_init_5 (by decide) ?_
  refine new_i (k := 5) hx hb (hts (.arrayClass .int) (List.mem_of_getElem? (i := 4) rfl)) hE hP hD hS hA (by decide) (by decide) (Nat.le_of_ble_eq_true rfl) (Nat.le_of_ble_eq_true rfl) (Nat.le_of_ble_eq_true rfl) dX3_init_6 (fun q1 H hP hD hS => ?_)
  have hPD : PD D A [(h0, .inr (3, [.null, .null, .null, .int 0])), (q1, .inl (cI, 5, .inl (fun _ => 0)))] H := ⟨hP, hD⟩
  obtain ⟨hP, hD⟩ := hPD
  refine W.widen (k := 1) (n := 5) (Nat.le_of_ble_eq_true rfl) (Nat.le_of_ble_eq_true rfl) ?_
  refine va_putF (D := D) (ci := 3) (v := .ref q1) (ty := tyX3 0) (C := RX3) (T := TX3) (N := 4) hx hb hts hiX3_init_3 tyX3 tyX3_ok nmX3 hown hE.1 hP hD hS 0 rfl rfl 0 (by decide) fL9 (fun _ h9 => h9) rfl hin rfl (tyX3_ok 0 (by decide)) rfl rfl (Nat.le_of_ble_eq_true rfl) dX3_init_8 (fun H locs hP hD hS => ?_)
  have hPD : PD D A [(h0, .inr (3, [.ref q1, .null, .null, .int 0])), (q1, .inl (cI, 5, .inl (fun _ => 0)))] H := ⟨hP, hD⟩
  obtain ⟨hP, hD⟩ := hPD
  refine lv_aload_n hx hb dX3_init_11 rfl (lv_at hl 0 rfl) ?_
  refine lv_iconst (v := 5) hx hb dX3_init_12 (by decide) ?_
  refine new_i (k := 5) hx hb (hts (.arrayClass .int) (List.mem_of_getElem? (i := 4) rfl)) hE hP hD hS hA (by decide) (by decide) (Nat.le_of_ble_eq_true rfl) (Nat.le_of_ble_eq_true rfl) (Nat.le_of_ble_eq_true rfl) dX3_init_13 (fun q2 H hP hD hS => ?_)
  have hPD : PD D A [(h0, .inr (3, [.ref q1, .null, .null, .int 0])), (q1, .inl (cI, 5, .inl (fun _ => 0))), (q2, .inl (cI, 5, .inl (fun _ => 0)))] H := ⟨hP, hD⟩
  obtain ⟨hP, hD⟩ := hPD
  refine W.widen (k := 2) (n := 10) (Nat.le_of_ble_eq_true rfl) (Nat.le_of_ble_eq_true rfl) ?_
  refine va_putF (D := D) (ci := 3) (v := .ref q2) (ty := tyX3 1) (C := RX3) (T := TX3) (N := 4) hx hb hts hiX3_init_3 tyX3 tyX3_ok nmX3 hown hE.1 hP hD hS 0 rfl rfl 1 (by decide) fL15 (fun _ h9 => h9) rfl hin rfl (tyX3_ok 1 (by decide)) rfl rfl (Nat.le_of_ble_eq_true rfl) dX3_init_15 (fun H locs hP hD hS => ?_)
  have hPD : PD D A [(h0, .inr (3, [.ref q1, .ref q2, .null, .int 0])), (q1, .inl (cI, 5, .inl (fun _ => 0))), (q2, .inl (cI, 5, .inl (fun _ => 0)))] H := ⟨hP, hD⟩
  obtain ⟨hP, hD⟩ := hPD
  refine lv_aload_n hx hb dX3_init_18 rfl (lv_at hl 0 rfl) ?_
  refine lv_iconst (v := 5) hx hb dX3_init_19 (by decide) ?_
  refine new_i (k := 5) hx hb (hts (.arrayClass .int) (List.mem_of_getElem? (i := 4) rfl)) hE hP hD hS hA (by decide) (by decide) (Nat.le_of_ble_eq_true rfl) (Nat.le_of_ble_eq_true rfl) (Nat.le_of_ble_eq_true rfl) dX3_init_20 (fun q3 H hP hD hS => ?_)
  have hPD : PD D A [(h0, .inr (3, [.ref q1, .ref q2, .null, .int 0])), (q1, .inl (cI, 5, .inl (fun _ => 0))), (q2, .inl (cI, 5, .inl (fun _ => 0))), (q3, .inl (cI, 5, .inl (fun _ => 0)))] H := ⟨hP, hD⟩
  obtain ⟨hP, hD⟩ := hPD
  refine W.widen (k := 3) (n := 15) (Nat.le_of_ble_eq_true rfl) (Nat.le_of_ble_eq_true rfl) ?_
  refine va_putF (D := D) (ci := 3) (v := .ref q3) (ty := tyX3 2) (C := RX3) (T := TX3) (N := 4) hx hb hts hiX3_init_3 tyX3 tyX3_ok nmX3 hown hE.1 hP hD hS 0 rfl rfl 2 (by decide) fL18 (fun _ h9 => h9) rfl hin rfl (tyX3_ok 2 (by decide)) rfl rfl (Nat.le_of_ble_eq_true rfl) dX3_init_22 (fun H locs hP hD hS => ?_)
  have hPD : PD D A [(h0, .inr (3, [.ref q1, .ref q2, .ref q3, .int 0])), (q1, .inl (cI, 5, .inl (fun _ => 0))), (q2, .inl (cI, 5, .inl (fun _ => 0))), (q3, .inl (cI, 5, .inl (fun _ => 0)))] H := ⟨hP, hD⟩
  obtain ⟨hP, hD⟩ := hPD
  exact hret _ _ _ _ _ dX3_init_25 ⟨q1, q2, q3, rfl⟩ hP hD hS
abbrev rmX5_init : Room := { frames := 1, cells := 2, slots := 256, locals := 20 }
theorem hiX5_init_5 : ∀ w ∈ wsX50, w ∈ wsX5_init := fun w h => (goodIn_r (big := wsX5_init) wsX50 [7, 8, 9, 10, 11, 12] rfl (by decide +kernel) w h).1
def nX5_init (cI cZ cR : ClassId) (h0 : Nat)  (w : va_W) : Prop := ∃ (q1 : Nat) (q2 : Nat), w = [(h0, .inr (5, [.ref q1, .ref q2, .int 0, .int 0, .int 0, .int 0])), (q1, .inl (cI, 128, .inl (fun _ => 0))), (q2, .inl (cI, 128, .inl (fun _ => 0)))]
set_option maxRecDepth 100000 in
set_option maxHeartbeats 4000000 in
theorem c_X5_init (l : Launch) (D : va_G) (cI cZ cR : ClassId) (h0 : Nat)  : Cn l yX5_init wsX5_init rmX5_init D cI cZ cR [.ref h0] [(h0, .inr (5, [.null, .null, .int 0, .int 0, .int 0, .int 0]))] 2 256 (nX5_init cI cZ cR h0 ) := by
  refine ent_n (cc := cX5_init) (maxL := 1) (by decide) rfl rfl (Nat.le_of_ble_eq_true rfl) ?_
  intro p e s m below meth c A Q hx hb hml hown hin hts hE hA hP hD hS hret ls hl
  have hown : s.vm.findClass RX5 = some m.cls := hown
  have hl : lv_has ls 1 [(0, .ref h0)] := hl
  have fL9 := hts (.fieldLink RX5 9 "RainShelves$Sets" "weights" "[I") (List.mem_of_getElem? (i := 5) rfl)
  have fL15 := hts (.fieldLink RX5 15 "RainShelves$Sets" "fewest" "[I") (List.mem_of_getElem? (i := 6) rfl)
  refine lv_aload_n hx hb dX5_init_0 rfl (lv_at hl 0 rfl) ?_
  refine W.objInit hx hb hown (hts (.methodLink RX5 3 objectInit) (List.mem_of_getElem? (i := 1) rfl)) (hts (.instanceMethod objectInit) (List.mem_of_getElem? (i := 2) rfl)) (hts (.code objectInit ⟨#[0xb1]⟩ 1 none) (List.mem_of_getElem? (i := 3) rfl)) rfl (by rw [hml]; exact hl.1) rfl dX5_init_1 (Nat.le_of_ble_eq_true rfl) (Nat.le_of_ble_eq_true rfl) ?_
  refine W.eq (g2 := F0 m 4 ls []) rfl ?_
  refine lv_aload_n hx hb dX5_init_4 rfl (lv_at hl 0 rfl) ?_
  refine lv_sipush (v := 128) hx hb dX5_init_5 (by decide) ?_
  refine new_i (k := 128) hx hb (hts (.arrayClass .int) (List.mem_of_getElem? (i := 4) rfl)) hE hP hD hS hA (by decide) (by decide) (Nat.le_of_ble_eq_true rfl) (Nat.le_of_ble_eq_true rfl) (Nat.le_of_ble_eq_true rfl) dX5_init_8 (fun q1 H hP hD hS => ?_)
  have hPD : PD D A [(h0, .inr (5, [.null, .null, .int 0, .int 0, .int 0, .int 0])), (q1, .inl (cI, 128, .inl (fun _ => 0)))] H := ⟨hP, hD⟩
  obtain ⟨hP, hD⟩ := hPD
  refine W.widen (k := 1) (n := 128) (Nat.le_of_ble_eq_true rfl) (Nat.le_of_ble_eq_true rfl) ?_
  refine va_putF (D := D) (ci := 5) (v := .ref q1) (ty := tyX5 0) (C := RX5) (T := TX5) (N := 6) hx hb hts hiX5_init_5 tyX5 tyX5_ok nmX5 hown hE.1 hP hD hS 0 rfl rfl 0 (by decide) fL9 (fun _ h9 => h9) rfl hin rfl (tyX5_ok 0 (by decide)) rfl rfl (Nat.le_of_ble_eq_true rfl) dX5_init_10 (fun H locs hP hD hS => ?_)
  have hPD : PD D A [(h0, .inr (5, [.ref q1, .null, .int 0, .int 0, .int 0, .int 0])), (q1, .inl (cI, 128, .inl (fun _ => 0)))] H := ⟨hP, hD⟩
  obtain ⟨hP, hD⟩ := hPD
  refine lv_aload_n hx hb dX5_init_13 rfl (lv_at hl 0 rfl) ?_
  refine lv_sipush (v := 128) hx hb dX5_init_14 (by decide) ?_
  refine new_i (k := 128) hx hb (hts (.arrayClass .int) (List.mem_of_getElem? (i := 4) rfl)) hE hP hD hS hA (by decide) (by decide) (Nat.le_of_ble_eq_true rfl) (Nat.le_of_ble_eq_true rfl) (Nat.le_of_ble_eq_true rfl) dX5_init_17 (fun q2 H hP hD hS => ?_)
  have hPD : PD D A [(h0, .inr (5, [.ref q1, .null, .int 0, .int 0, .int 0, .int 0])), (q1, .inl (cI, 128, .inl (fun _ => 0))), (q2, .inl (cI, 128, .inl (fun _ => 0)))] H := ⟨hP, hD⟩
  obtain ⟨hP, hD⟩ := hPD
  refine W.widen (k := 2) (n := 256) (Nat.le_of_ble_eq_true rfl) (Nat.le_of_ble_eq_true rfl) ?_
  refine va_putF (D := D) (ci := 5) (v := .ref q2) (ty := tyX5 1) (C := RX5) (T := TX5) (N := 6) hx hb hts hiX5_init_5 tyX5 tyX5_ok nmX5 hown hE.1 hP hD hS 0 rfl rfl 1 (by decide) fL15 (fun _ h9 => h9) rfl hin rfl (tyX5_ok 1 (by decide)) rfl rfl (Nat.le_of_ble_eq_true rfl) dX5_init_19 (fun H locs hP hD hS => ?_)
  have hPD : PD D A [(h0, .inr (5, [.ref q1, .ref q2, .int 0, .int 0, .int 0, .int 0])), (q1, .inl (cI, 128, .inl (fun _ => 0))), (q2, .inl (cI, 128, .inl (fun _ => 0)))] H := ⟨hP, hD⟩
  obtain ⟨hP, hD⟩ := hPD
  exact hret _ _ _ _ _ dX5_init_22 ⟨q1, q2, rfl⟩ hP hD hS
abbrev rmX4_init : Room := { frames := 1, cells := 1, slots := 49, locals := 20 }
theorem hiX4_init_4 : ∀ w ∈ wsX40, w ∈ wsX4_init := fun w h => (goodIn_r (big := wsX4_init) wsX40 [7, 8, 9, 10] rfl (by decide +kernel) w h).1
def nX4_init (cI cZ cR : ClassId) (h0 : Nat) (hh : Nat)  (w : va_W) : Prop := ∃ (q1 : Nat), w = [(h0, .inr (4, [.ref hh, .ref q1, .int 0, .int 0])), (q1, .inl (cI, 49, .inl (fun _ => 0)))]
set_option maxRecDepth 100000 in
set_option maxHeartbeats 4000000 in
theorem c_X4_init (l : Launch) (D : va_G) (cI cZ cR : ClassId) (h0 : Nat) (hh : Nat)  : Cn l yX4_init wsX4_init rmX4_init D cI cZ cR [.ref h0, .ref hh] [(h0, .inr (4, [.null, .null, .int 0, .int 0]))] 1 49 (nX4_init cI cZ cR h0 hh) := by
  refine ent_n (cc := cX4_init) (maxL := 2) (by decide) rfl rfl (Nat.le_of_ble_eq_true rfl) ?_
  intro p e s m below meth c A Q hx hb hml hown hin hts hE hA hP hD hS hret ls hl
  have hown : s.vm.findClass RX4 = some m.cls := hown
  have hl : lv_has ls 2 [(0, .ref h0), (1, .ref hh)] := hl
  have fL9 := hts (.fieldLink RX4 9 "RainShelves$Rain" "spoons" "[I") (List.mem_of_getElem? (i := 5) rfl)
  have fL15 := hts (.fieldLink RX4 15 "RainShelves$Rain" "house" "LRainShelves$House;") (List.mem_of_getElem? (i := 6) rfl)
  refine lv_aload_n hx hb dX4_init_0 rfl (lv_at hl 0 rfl) ?_
  refine W.objInit hx hb hown (hts (.methodLink RX4 3 objectInit) (List.mem_of_getElem? (i := 1) rfl)) (hts (.instanceMethod objectInit) (List.mem_of_getElem? (i := 2) rfl)) (hts (.code objectInit ⟨#[0xb1]⟩ 1 none) (List.mem_of_getElem? (i := 3) rfl)) rfl (by rw [hml]; exact hl.1) rfl dX4_init_1 (Nat.le_of_ble_eq_true rfl) (Nat.le_of_ble_eq_true rfl) ?_
  refine W.eq (g2 := F0 m 4 ls []) rfl ?_
  refine lv_aload_n hx hb dX4_init_4 rfl (lv_at hl 0 rfl) ?_
  refine lv_bipush (v := 49) hx hb dX4_init_5 (by decide) ?_
  refine new_i (k := 49) hx hb (hts (.arrayClass .int) (List.mem_of_getElem? (i := 4) rfl)) hE hP hD hS hA (by decide) (by decide) (Nat.le_of_ble_eq_true rfl) (Nat.le_of_ble_eq_true rfl) (Nat.le_of_ble_eq_true rfl) dX4_init_7 (fun q1 H hP hD hS => ?_)
  have hPD : PD D A [(h0, .inr (4, [.null, .null, .int 0, .int 0])), (q1, .inl (cI, 49, .inl (fun _ => 0)))] H := ⟨hP, hD⟩
  obtain ⟨hP, hD⟩ := hPD
  refine W.widen (k := 1) (n := 49) (Nat.le_of_ble_eq_true rfl) (Nat.le_of_ble_eq_true rfl) ?_
  refine va_putF (D := D) (ci := 4) (v := .ref q1) (ty := tyX4 1) (C := RX4) (T := TX4) (N := 4) hx hb hts hiX4_init_4 tyX4 tyX4_ok nmX4 hown hE.1 hP hD hS 0 rfl rfl 1 (by decide) fL9 (fun _ h9 => h9) rfl hin rfl (tyX4_ok 1 (by decide)) rfl rfl (Nat.le_of_ble_eq_true rfl) dX4_init_9 (fun H locs hP hD hS => ?_)
  have hPD : PD D A [(h0, .inr (4, [.null, .ref q1, .int 0, .int 0])), (q1, .inl (cI, 49, .inl (fun _ => 0)))] H := ⟨hP, hD⟩
  obtain ⟨hP, hD⟩ := hPD
  refine lv_aload_n hx hb dX4_init_12 rfl (lv_at hl 0 rfl) ?_
  refine lv_aload_n hx hb dX4_init_13 rfl (lv_at hl 1 rfl) ?_
  refine va_putF (D := D) (ci := 4) (v := .ref hh) (ty := tyX4 0) (C := RX4) (T := TX4) (N := 4) hx hb hts hiX4_init_4 tyX4 tyX4_ok nmX4 hown hE.1 hP hD hS 0 rfl rfl 0 (by decide) fL15 (fun _ h9 => h9) rfl hin rfl (tyX4_ok 0 (by decide)) rfl rfl (Nat.le_of_ble_eq_true rfl) dX4_init_14 (fun H locs hP hD hS => ?_)
  have hPD : PD D A [(h0, .inr (4, [.ref hh, .ref q1, .int 0, .int 0])), (q1, .inl (cI, 49, .inl (fun _ => 0)))] H := ⟨hP, hD⟩
  obtain ⟨hP, hD⟩ := hPD
  exact hret _ _ _ _ _ dX4_init_17 ⟨q1, rfl⟩ hP hD hS
abbrev rmX2_init : Room := { frames := 1, cells := 5, slots := 35, locals := 20 }
theorem hiX2_init_2 : ∀ w ∈ wsX20, w ∈ wsX2_init := fun w h => (goodIn_r (big := wsX2_init) wsX20 [18, 19, 20, 21, 22, 23, 24, 25] rfl (by decide +kernel) w h).1
theorem cw_X2_init_X2_empty_27 {s : State} {args : Array Value} (hts : ∀ x ∈ wsX2_init, x.before args s = true) : CallW rmX2_init s args RX2 RX2 27 yX2_empty cX2_empty 1 none wsX2_empty rmX2_empty 0 0 0 := cwV 0 hts gX2_init_X2_empty rfl rfl rfl (by decide +kernel) ⟨Nat.le_of_ble_eq_true rfl, Nat.le_of_ble_eq_true rfl⟩
def nX2_init (cI cZ cR : ClassId) (h0 : Nat)  (w : va_W) : Prop := ∃ (q1 : Nat) (q2 : Nat) (q3 : Nat) (q4 : Nat) (q5 : Nat), w = [(h0, .inr (2, [.int 0, .int 5, .int 60, .ref q1, .ref q2, .ref q3, .ref q4, .ref q5])), (q1, .inl (cI, 7, .inl (fun _ => 0))), (q2, .inl (cI, 7, .inl (fun _ => 0))), (q3, .inl (cI, 7, .inl (fun _ => 0))), (q4, .inl (cI, 7, .inl (fun _ => 0))), (q5, .inl (cI, 7, .inl (fun _ => 0)))]
set_option maxRecDepth 100000 in
set_option maxHeartbeats 4000000 in
theorem c_X2_init (l : Launch) (D : va_G) (cI cZ cR : ClassId) (h0 : Nat)  : Cn l yX2_init wsX2_init rmX2_init D cI cZ cR [.ref h0] [(h0, .inr (2, [.int 0, .int 0, .int 0, .null, .null, .null, .null, .null]))] 5 35 (nX2_init cI cZ cR h0 ) := by
  refine ent_n (cc := cX2_init) (maxL := 1) (by decide) rfl rfl (Nat.le_of_ble_eq_true rfl) ?_
  intro p e s m below meth c A Q hx hb hml hown hin hts hE hA hP hD hS hret ls hl
  have hown : s.vm.findClass RX2 = some m.cls := hown
  have hl : lv_has ls 1 [(0, .ref h0)] := hl
  have fL9 := hts (.fieldLink RX2 9 "RainShelves$House" "years" "[I") (List.mem_of_getElem? (i := 5) rfl)
  have fL15 := hts (.fieldLink RX2 15 "RainShelves$House" "spoons" "[I") (List.mem_of_getElem? (i := 6) rfl)
  have fL18 := hts (.fieldLink RX2 18 "RainShelves$House" "shrinks" "[I") (List.mem_of_getElem? (i := 7) rfl)
  have fL21 := hts (.fieldLink RX2 21 "RainShelves$House" "sorts" "[I") (List.mem_of_getElem? (i := 8) rfl)
  have fL24 := hts (.fieldLink RX2 24 "RainShelves$House" "byAge" "[I") (List.mem_of_getElem? (i := 9) rfl)
  refine lv_aload_n hx hb dX2_init_0 rfl (lv_at hl 0 rfl) ?_
  refine W.objInit hx hb hown (hts (.methodLink RX2 3 objectInit) (List.mem_of_getElem? (i := 1) rfl)) (hts (.instanceMethod objectInit) (List.mem_of_getElem? (i := 2) rfl)) (hts (.code objectInit ⟨#[0xb1]⟩ 1 none) (List.mem_of_getElem? (i := 3) rfl)) rfl (by rw [hml]; exact hl.1) rfl dX2_init_1 (Nat.le_of_ble_eq_true rfl) (Nat.le_of_ble_eq_true rfl) ?_
  refine W.eq (g2 := F0 m 4 ls []) rfl ?_
  refine lv_aload_n hx hb dX2_init_4 rfl (lv_at hl 0 rfl) ?_
  refine lv_bipush (v := 7) hx hb dX2_init_5 (by decide) ?_
  refine new_i (k := 7) hx hb (hts (.arrayClass .int) (List.mem_of_getElem? (i := 4) rfl)) hE hP hD hS hA (by decide) (by decide) (Nat.le_of_ble_eq_true rfl) (Nat.le_of_ble_eq_true rfl) (Nat.le_of_ble_eq_true rfl) dX2_init_7 (fun q1 H hP hD hS => ?_)
  have hPD : PD D A [(h0, .inr (2, [.int 0, .int 0, .int 0, .null, .null, .null, .null, .null])), (q1, .inl (cI, 7, .inl (fun _ => 0)))] H := ⟨hP, hD⟩
  obtain ⟨hP, hD⟩ := hPD
  refine W.widen (k := 1) (n := 7) (Nat.le_of_ble_eq_true rfl) (Nat.le_of_ble_eq_true rfl) ?_
  refine va_putF (D := D) (ci := 2) (v := .ref q1) (ty := tyX2 3) (C := RX2) (T := TX2) (N := 8) hx hb hts hiX2_init_2 tyX2 tyX2_ok nmX2 hown hE.1 hP hD hS 0 rfl rfl 3 (by decide) fL9 (fun _ h9 => h9) rfl hin rfl (tyX2_ok 3 (by decide)) rfl rfl (Nat.le_of_ble_eq_true rfl) dX2_init_9 (fun H locs hP hD hS => ?_)
  have hPD : PD D A [(h0, .inr (2, [.int 0, .int 0, .int 0, .ref q1, .null, .null, .null, .null])), (q1, .inl (cI, 7, .inl (fun _ => 0)))] H := ⟨hP, hD⟩
  obtain ⟨hP, hD⟩ := hPD
  refine lv_aload_n hx hb dX2_init_12 rfl (lv_at hl 0 rfl) ?_
  refine lv_bipush (v := 7) hx hb dX2_init_13 (by decide) ?_
  refine new_i (k := 7) hx hb (hts (.arrayClass .int) (List.mem_of_getElem? (i := 4) rfl)) hE hP hD hS hA (by decide) (by decide) (Nat.le_of_ble_eq_true rfl) (Nat.le_of_ble_eq_true rfl) (Nat.le_of_ble_eq_true rfl) dX2_init_15 (fun q2 H hP hD hS => ?_)
  have hPD : PD D A [(h0, .inr (2, [.int 0, .int 0, .int 0, .ref q1, .null, .null, .null, .null])), (q1, .inl (cI, 7, .inl (fun _ => 0))), (q2, .inl (cI, 7, .inl (fun _ => 0)))] H := ⟨hP, hD⟩
  obtain ⟨hP, hD⟩ := hPD
  refine W.widen (k := 2) (n := 14) (Nat.le_of_ble_eq_true rfl) (Nat.le_of_ble_eq_true rfl) ?_
  refine va_putF (D := D) (ci := 2) (v := .ref q2) (ty := tyX2 4) (C := RX2) (T := TX2) (N := 8) hx hb hts hiX2_init_2 tyX2 tyX2_ok nmX2 hown hE.1 hP hD hS 0 rfl rfl 4 (by decide) fL15 (fun _ h9 => h9) rfl hin rfl (tyX2_ok 4 (by decide)) rfl rfl (Nat.le_of_ble_eq_true rfl) dX2_init_17 (fun H locs hP hD hS => ?_)
  have hPD : PD D A [(h0, .inr (2, [.int 0, .int 0, .int 0, .ref q1, .ref q2, .null, .null, .null])), (q1, .inl (cI, 7, .inl (fun _ => 0))), (q2, .inl (cI, 7, .inl (fun _ => 0)))] H := ⟨hP, hD⟩
  obtain ⟨hP, hD⟩ := hPD
  refine lv_aload_n hx hb dX2_init_20 rfl (lv_at hl 0 rfl) ?_
  refine lv_bipush (v := 7) hx hb dX2_init_21 (by decide) ?_
  refine new_i (k := 7) hx hb (hts (.arrayClass .int) (List.mem_of_getElem? (i := 4) rfl)) hE hP hD hS hA (by decide) (by decide) (Nat.le_of_ble_eq_true rfl) (Nat.le_of_ble_eq_true rfl) (Nat.le_of_ble_eq_true rfl) dX2_init_23 (fun q3 H hP hD hS => ?_)
  have hPD : PD D A [(h0, .inr (2, [.int 0, .int 0, .int 0, .ref q1, .ref q2, .null, .null, .null])), (q1, .inl (cI, 7, .inl (fun _ => 0))), (q2, .inl (cI, 7, .inl (fun _ => 0))), (q3, .inl (cI, 7, .inl (fun _ => 0)))] H := ⟨hP, hD⟩
  obtain ⟨hP, hD⟩ := hPD
  refine W.widen (k := 3) (n := 21) (Nat.le_of_ble_eq_true rfl) (Nat.le_of_ble_eq_true rfl) ?_
  refine va_putF (D := D) (ci := 2) (v := .ref q3) (ty := tyX2 5) (C := RX2) (T := TX2) (N := 8) hx hb hts hiX2_init_2 tyX2 tyX2_ok nmX2 hown hE.1 hP hD hS 0 rfl rfl 5 (by decide) fL18 (fun _ h9 => h9) rfl hin rfl (tyX2_ok 5 (by decide)) rfl rfl (Nat.le_of_ble_eq_true rfl) dX2_init_25 (fun H locs hP hD hS => ?_)
  have hPD : PD D A [(h0, .inr (2, [.int 0, .int 0, .int 0, .ref q1, .ref q2, .ref q3, .null, .null])), (q1, .inl (cI, 7, .inl (fun _ => 0))), (q2, .inl (cI, 7, .inl (fun _ => 0))), (q3, .inl (cI, 7, .inl (fun _ => 0)))] H := ⟨hP, hD⟩
  obtain ⟨hP, hD⟩ := hPD
  refine lv_aload_n hx hb dX2_init_28 rfl (lv_at hl 0 rfl) ?_
  refine lv_bipush (v := 7) hx hb dX2_init_29 (by decide) ?_
  refine new_i (k := 7) hx hb (hts (.arrayClass .int) (List.mem_of_getElem? (i := 4) rfl)) hE hP hD hS hA (by decide) (by decide) (Nat.le_of_ble_eq_true rfl) (Nat.le_of_ble_eq_true rfl) (Nat.le_of_ble_eq_true rfl) dX2_init_31 (fun q4 H hP hD hS => ?_)
  have hPD : PD D A [(h0, .inr (2, [.int 0, .int 0, .int 0, .ref q1, .ref q2, .ref q3, .null, .null])), (q1, .inl (cI, 7, .inl (fun _ => 0))), (q2, .inl (cI, 7, .inl (fun _ => 0))), (q3, .inl (cI, 7, .inl (fun _ => 0))), (q4, .inl (cI, 7, .inl (fun _ => 0)))] H := ⟨hP, hD⟩
  obtain ⟨hP, hD⟩ := hPD
  refine W.widen (k := 4) (n := 28) (Nat.le_of_ble_eq_true rfl) (Nat.le_of_ble_eq_true rfl) ?_
  refine va_putF (D := D) (ci := 2) (v := .ref q4) (ty := tyX2 6) (C := RX2) (T := TX2) (N := 8) hx hb hts hiX2_init_2 tyX2 tyX2_ok nmX2 hown hE.1 hP hD hS 0 rfl rfl 6 (by decide) fL21 (fun _ h9 => h9) rfl hin rfl (tyX2_ok 6 (by decide)) rfl rfl (Nat.le_of_ble_eq_true rfl) dX2_init_33 (fun H locs hP hD hS => ?_)
  have hPD : PD D A [(h0, .inr (2, [.int 0, .int 0, .int 0, .ref q1, .ref q2, .ref q3, .ref q4, .null])), (q1, .inl (cI, 7, .inl (fun _ => 0))), (q2, .inl (cI, 7, .inl (fun _ => 0))), (q3, .inl (cI, 7, .inl (fun _ => 0))), (q4, .inl (cI, 7, .inl (fun _ => 0)))] H := ⟨hP, hD⟩
  obtain ⟨hP, hD⟩ := hPD
  refine lv_aload_n hx hb dX2_init_36 rfl (lv_at hl 0 rfl) ?_
  refine lv_bipush (v := 7) hx hb dX2_init_37 (by decide) ?_
  refine new_i (k := 7) hx hb (hts (.arrayClass .int) (List.mem_of_getElem? (i := 4) rfl)) hE hP hD hS hA (by decide) (by decide) (Nat.le_of_ble_eq_true rfl) (Nat.le_of_ble_eq_true rfl) (Nat.le_of_ble_eq_true rfl) dX2_init_39 (fun q5 H hP hD hS => ?_)
  have hPD : PD D A [(h0, .inr (2, [.int 0, .int 0, .int 0, .ref q1, .ref q2, .ref q3, .ref q4, .null])), (q1, .inl (cI, 7, .inl (fun _ => 0))), (q2, .inl (cI, 7, .inl (fun _ => 0))), (q3, .inl (cI, 7, .inl (fun _ => 0))), (q4, .inl (cI, 7, .inl (fun _ => 0))), (q5, .inl (cI, 7, .inl (fun _ => 0)))] H := ⟨hP, hD⟩
  obtain ⟨hP, hD⟩ := hPD
  refine W.widen (k := 5) (n := 35) (Nat.le_of_ble_eq_true rfl) (Nat.le_of_ble_eq_true rfl) ?_
  refine va_putF (D := D) (ci := 2) (v := .ref q5) (ty := tyX2 7) (C := RX2) (T := TX2) (N := 8) hx hb hts hiX2_init_2 tyX2 tyX2_ok nmX2 hown hE.1 hP hD hS 0 rfl rfl 7 (by decide) fL24 (fun _ h9 => h9) rfl hin rfl (tyX2_ok 7 (by decide)) rfl rfl (Nat.le_of_ble_eq_true rfl) dX2_init_41 (fun H locs hP hD hS => ?_)
  have hPD : PD D A [(h0, .inr (2, [.int 0, .int 0, .int 0, .ref q1, .ref q2, .ref q3, .ref q4, .ref q5])), (q1, .inl (cI, 7, .inl (fun _ => 0))), (q2, .inl (cI, 7, .inl (fun _ => 0))), (q3, .inl (cI, 7, .inl (fun _ => 0))), (q4, .inl (cI, 7, .inl (fun _ => 0))), (q5, .inl (cI, 7, .inl (fun _ => 0)))] H := ⟨hP, hD⟩
  obtain ⟨hP, hD⟩ := hPD
  refine lv_aload_n hx hb dX2_init_44 rfl (lv_at hl 0 rfl) ?_
  refine cl_vV (As := []) (rest := []) ⟨hx, hb, hml, hown, hts⟩ (c_X2_empty l D cI cZ cR h0 q1 q2 q3 q4 q5 0 0 0 (0, 5, 60) rfl) (cw_X2_init_X2_empty_27 hts) hE hP hD hS hA [0] rfl rfl [h0] rfl rfl 0 2 rfl rfl rfl hl.1 rfl (Nat.le_of_ble_eq_true rfl) dX2_init_45 ⟨Nat.le_of_ble_eq_true rfl, Nat.le_of_ble_eq_true rfl⟩ (fun H locs hP hD hS => ?_)
  have hPD : PD D A [(h0, .inr (2, [.int 0, .int 5, .int 60, .ref q1, .ref q2, .ref q3, .ref q4, .ref q5])), (q1, .inl (cI, 7, .inl (fun _ => 0))), (q2, .inl (cI, 7, .inl (fun _ => 0))), (q3, .inl (cI, 7, .inl (fun _ => 0))), (q4, .inl (cI, 7, .inl (fun _ => 0))), (q5, .inl (cI, 7, .inl (fun _ => 0)))] H := ⟨hP, hD⟩
  obtain ⟨hP, hD⟩ := hPD
  exact hret _ _ _ _ _ dX2_init_48 ⟨q1, q2, q3, q4, q5, rfl⟩ hP hD hS
abbrev rmX6_init : Room := { frames := 2, cells := 7, slots := 243, locals := 40 }
theorem hiX6_init_2 : ∀ w ∈ wsX20, w ∈ wsX6_init := fun w h => (goodIn_r (big := wsX6_init) wsX20 [34, 35, 36, 37, 38, 39, 40, 41] rfl (by decide +kernel) w h).1
theorem hiX6_init_6 : ∀ w ∈ wsX60, w ∈ wsX6_init := fun w h => (goodIn_r (big := wsX6_init) wsX60 [25, 26, 27, 28, 29, 30, 31, 32, 33] rfl (by decide +kernel) w h).1
theorem cw_X6_init_X2_init_17 {s : State} {args : Array Value} {D : va_G} {cI cZ cR : ClassId} (hE : EV D cI cZ cR s) (hts : ∀ x ∈ wsX6_init, x.before args s = true) : va_CN rmX6_init s args RX6 17 yX2_init "RainShelves" cX2_init 1 none wsX2_init rmX2_init 5 35 0 ∧ yX2_init.name = "<init>" ∧ (Cond.instanceMethod yX2_init).before args s = true := ⟨va_cnB 0 hts gX6_init_X2_init_n17 rfl rfl rfl (hE.nm 2 rfl) (hts (.initialized RX2) (List.mem_of_getElem? (i := 8) rfl)) (by decide +kernel) ⟨Nat.le_of_ble_eq_true rfl, Nat.le_of_ble_eq_true rfl⟩, rfl, (hts (.instanceMethod yX2_init) (List.mem_of_getElem? (i := 10) rfl))⟩
def nX6_init (cI cZ cR : ClassId) (h0 : Nat)  (w : va_W) : Prop := ∃ (ql : Nat) (qd : Nat) (q1 : Nat) (q2 : Nat) (q3 : Nat) (q4 : Nat) (q5 : Nat), w = [(h0, .inr (6, [.ref ql, .int 0, .ref qd, .int 0, .int 0, .int 0, .int 0, .int 0, .int 0])), (ql, .inl (cI, 200, .inl (fun _ => 0))), (qd, .inr (2, [.int 0, .int 5, .int 60, .ref q1, .ref q2, .ref q3, .ref q4, .ref q5])), (q1, .inl (cI, 7, .inl (fun _ => 0))), (q2, .inl (cI, 7, .inl (fun _ => 0))), (q3, .inl (cI, 7, .inl (fun _ => 0))), (q4, .inl (cI, 7, .inl (fun _ => 0))), (q5, .inl (cI, 7, .inl (fun _ => 0)))]
set_option maxRecDepth 100000 in
set_option maxHeartbeats 4000000 in
theorem c_X6_init (l : Launch) (D : va_G) (cI cZ cR : ClassId) (h0 : Nat)  : Cn l yX6_init wsX6_init rmX6_init D cI cZ cR [.ref h0] [(h0, .inr (6, [.null, .int 0, .null, .int 0, .int 0, .int 0, .int 0, .int 0, .int 0]))] 7 243 (nX6_init cI cZ cR h0 ) := by
  refine ent_n (cc := cX6_init) (maxL := 1) (by decide) rfl rfl (Nat.le_of_ble_eq_true rfl) ?_
  intro p e s m below meth c A Q hx hb hml hown hin hts hE hA hP hD hS hret ls hl
  have hown : s.vm.findClass RX6 = some m.cls := hown
  have hl : lv_has ls 1 [(0, .ref h0)] := hl
  have fL9 := hts (.fieldLink RX6 9 "RainShelves$Text" "letters" "[I") (List.mem_of_getElem? (i := 5) rfl)
  have fL18 := hts (.fieldLink RX6 18 "RainShelves$Text" "draft" "LRainShelves$House;") (List.mem_of_getElem? (i := 9) rfl)
  refine lv_aload_n hx hb dX6_init_0 rfl (lv_at hl 0 rfl) ?_
  refine W.objInit hx hb hown (hts (.methodLink RX6 3 objectInit) (List.mem_of_getElem? (i := 1) rfl)) (hts (.instanceMethod objectInit) (List.mem_of_getElem? (i := 2) rfl)) (hts (.code objectInit ⟨#[0xb1]⟩ 1 none) (List.mem_of_getElem? (i := 3) rfl)) rfl (by rw [hml]; exact hl.1) rfl dX6_init_1 (Nat.le_of_ble_eq_true rfl) (Nat.le_of_ble_eq_true rfl) ?_
  refine W.eq (g2 := F0 m 4 ls []) rfl ?_
  refine lv_aload_n hx hb dX6_init_4 rfl (lv_at hl 0 rfl) ?_
  refine lv_sipush (v := 200) hx hb dX6_init_5 (by decide) ?_
  refine new_i (k := 200) hx hb (hts (.arrayClass .int) (List.mem_of_getElem? (i := 4) rfl)) hE hP hD hS hA (by decide) (by decide) (Nat.le_of_ble_eq_true rfl) (Nat.le_of_ble_eq_true rfl) (Nat.le_of_ble_eq_true rfl) dX6_init_8 (fun ql H hP hD hS => ?_)
  have hPD : PD D A [(h0, .inr (6, [.null, .int 0, .null, .int 0, .int 0, .int 0, .int 0, .int 0, .int 0])), (ql, .inl (cI, 200, .inl (fun _ => 0)))] H := ⟨hP, hD⟩
  obtain ⟨hP, hD⟩ := hPD
  refine W.widen (k := 1) (n := 200) (Nat.le_of_ble_eq_true rfl) (Nat.le_of_ble_eq_true rfl) ?_
  refine va_putF (D := D) (ci := 6) (v := .ref ql) (ty := tyX6 0) (C := RX6) (T := TX6) (N := 9) hx hb hts hiX6_init_6 tyX6 tyX6_ok nmX6 hown hE.1 hP hD hS 0 rfl rfl 0 (by decide) fL9 (fun _ h9 => h9) rfl hin rfl (tyX6_ok 0 (by decide)) rfl rfl (Nat.le_of_ble_eq_true rfl) dX6_init_10 (fun H locs hP hD hS => ?_)
  have hPD : PD D A [(h0, .inr (6, [.ref ql, .int 0, .null, .int 0, .int 0, .int 0, .int 0, .int 0, .int 0])), (ql, .inl (cI, 200, .inl (fun _ => 0)))] H := ⟨hP, hD⟩
  obtain ⟨hP, hD⟩ := hPD
  refine lv_aload_n hx hb dX6_init_13 rfl (lv_at hl 0 rfl) ?_
  refine va_new (ci := 2) (fs := [.int 0, .int 0, .int 0, .null, .null, .null, .null, .null]) (C := RX2) (T := TX2) (N := 8) hx hb hts hiX6_init_2 tyX2 tyX2_ok hown (hts (.classLink RX6 15 RX2) (List.mem_of_getElem? (i := 6) rfl)) (hts (.instantiable RX2 8) (List.mem_of_getElem? (i := 7) rfl)) (hts (.initialized RX2) (List.mem_of_getElem? (i := 8) rfl)) hE.1 hP hD hS hA rfl dfX2 (Nat.le_of_ble_eq_true rfl) (Nat.le_of_ble_eq_true rfl) dX6_init_14 (fun qd H hP hD hS => ?_)
  have hPD : PD D A [(h0, .inr (6, [.ref ql, .int 0, .null, .int 0, .int 0, .int 0, .int 0, .int 0, .int 0])), (ql, .inl (cI, 200, .inl (fun _ => 0))), (qd, .inr (2, [.int 0, .int 0, .int 0, .null, .null, .null, .null, .null]))] H := ⟨hP, hD⟩
  obtain ⟨hP, hD⟩ := hPD
  refine W.widen (k := 2) (n := 208) (Nat.le_of_ble_eq_true rfl) (Nat.le_of_ble_eq_true rfl) ?_
  refine lv_dup hx hb dX6_init_17 rfl ?_
  refine cl_nN (As := []) (rest := [.ref qd, .ref h0]) (wr := [(h0, .inr (6, [.ref ql, .int 0, .null, .int 0, .int 0, .int 0, .int 0, .int 0, .int 0])), (ql, .inl (cI, 200, .inl (fun _ => 0)))]) ⟨hx, hb, hml, hown, hts⟩ (c_X2_init l D cI cZ cR qd) (cw_X6_init_X2_init_17 hE hts) hE hP hD hS hA [2] [0, 1] rfl rfl rfl rfl (by decide) rfl hl.1 rfl (Nat.le_of_ble_eq_true rfl) dX6_init_18 ⟨Nat.le_of_ble_eq_true rfl, Nat.le_of_ble_eq_true rfl⟩ (fun w1 H locs hN hP hD hS => ?_)
  obtain ⟨q1, q2, q3, q4, q5, rfl⟩ := hN
  have hPD : PD D A [(h0, .inr (6, [.ref ql, .int 0, .null, .int 0, .int 0, .int 0, .int 0, .int 0, .int 0])), (ql, .inl (cI, 200, .inl (fun _ => 0))), (qd, .inr (2, [.int 0, .int 5, .int 60, .ref q1, .ref q2, .ref q3, .ref q4, .ref q5])), (q1, .inl (cI, 7, .inl (fun _ => 0))), (q2, .inl (cI, 7, .inl (fun _ => 0))), (q3, .inl (cI, 7, .inl (fun _ => 0))), (q4, .inl (cI, 7, .inl (fun _ => 0))), (q5, .inl (cI, 7, .inl (fun _ => 0)))] H := ⟨hP, hD⟩
  obtain ⟨hP, hD⟩ := hPD
  refine W.widen (k := 7) (n := 243) (Nat.le_of_ble_eq_true rfl) (Nat.le_of_ble_eq_true rfl) ?_
  refine va_putF (D := D) (ci := 6) (v := .ref qd) (ty := tyX6 2) (C := RX6) (T := TX6) (N := 9) hx hb hts hiX6_init_6 tyX6 tyX6_ok nmX6 hown hE.1 hP hD hS 0 rfl rfl 2 (by decide) fL18 (fun _ h9 => h9) rfl hin rfl (tyX6_ok 2 (by decide)) rfl rfl (Nat.le_of_ble_eq_true rfl) dX6_init_21 (fun H locs hP hD hS => ?_)
  have hPD : PD D A [(h0, .inr (6, [.ref ql, .int 0, .ref qd, .int 0, .int 0, .int 0, .int 0, .int 0, .int 0])), (ql, .inl (cI, 200, .inl (fun _ => 0))), (qd, .inr (2, [.int 0, .int 5, .int 60, .ref q1, .ref q2, .ref q3, .ref q4, .ref q5])), (q1, .inl (cI, 7, .inl (fun _ => 0))), (q2, .inl (cI, 7, .inl (fun _ => 0))), (q3, .inl (cI, 7, .inl (fun _ => 0))), (q4, .inl (cI, 7, .inl (fun _ => 0))), (q5, .inl (cI, 7, .inl (fun _ => 0)))] H := ⟨hP, hD⟩
  obtain ⟨hP, hD⟩ := hPD
  exact hret _ _ _ _ _ dX6_init_24 ⟨ql, qd, q1, q2, q3, q4, q5, rfl⟩ hP hD hS
abbrev rmX1_init : Room := { frames := 2, cells := 21, slots := 540, locals := 41 }
theorem hiX1_init_1 : ∀ w ∈ wsX10, w ∈ wsX1_init := fun w h => (goodIn_r (big := wsX1_init) wsX10 [14, 15, 16] rfl (by decide +kernel) w h).1
theorem hiX1_init_4 : ∀ w ∈ wsX40, w ∈ wsX1_init := fun w h => (goodIn_r (big := wsX1_init) wsX40 [17, 18, 19, 20] rfl (by decide +kernel) w h).1
theorem cw_X1_init_X4_init_17 {s : State} {args : Array Value} {D : va_G} {cI cZ cR : ClassId} (hE : EV D cI cZ cR s) (hts : ∀ x ∈ wsX1_init, x.before args s = true) : va_CN rmX1_init s args RX1 17 yX4_init "RainShelves" cX4_init 2 none wsX4_init rmX4_init 1 49 1 ∧ yX4_init.name = "<init>" ∧ (Cond.instanceMethod yX4_init).before args s = true := ⟨va_cnB 1 hts gX1_init_X4_init_n17 rfl rfl rfl (hE.nm 5 rfl) (hts (.initialized RX4) (List.mem_of_getElem? (i := 7) rfl)) (by decide +kernel) ⟨Nat.le_of_ble_eq_true rfl, Nat.le_of_ble_eq_true rfl⟩, rfl, (hts (.instanceMethod yX4_init) (List.mem_of_getElem? (i := 8) rfl))⟩
def nX1_init (cI cZ cR : ClassId) (h0 : Nat) (hh : Nat)  (w : va_W) : Prop := ∃ (qa : Nat) (rr : Nat → Nat) (rs : Nat → Nat), w = [(h0, .inr (1, [.ref qa, .int 0, .int 0])), (qa, .inl (cR, 10, .inr (.inr (.inr (.inr (fun j => some (rr j))))))), (rr 0, .inr (4, [.ref hh, .ref (rs 0), .int 0, .int 0])), (rs 0, .inl (cI, 49, .inl (fun _ => 0))), (rr 1, .inr (4, [.ref hh, .ref (rs 1), .int 0, .int 0])), (rs 1, .inl (cI, 49, .inl (fun _ => 0))), (rr 2, .inr (4, [.ref hh, .ref (rs 2), .int 0, .int 0])), (rs 2, .inl (cI, 49, .inl (fun _ => 0))), (rr 3, .inr (4, [.ref hh, .ref (rs 3), .int 0, .int 0])), (rs 3, .inl (cI, 49, .inl (fun _ => 0))), (rr 4, .inr (4, [.ref hh, .ref (rs 4), .int 0, .int 0])), (rs 4, .inl (cI, 49, .inl (fun _ => 0))), (rr 5, .inr (4, [.ref hh, .ref (rs 5), .int 0, .int 0])), (rs 5, .inl (cI, 49, .inl (fun _ => 0))), (rr 6, .inr (4, [.ref hh, .ref (rs 6), .int 0, .int 0])), (rs 6, .inl (cI, 49, .inl (fun _ => 0))), (rr 7, .inr (4, [.ref hh, .ref (rs 7), .int 0, .int 0])), (rs 7, .inl (cI, 49, .inl (fun _ => 0))), (rr 8, .inr (4, [.ref hh, .ref (rs 8), .int 0, .int 0])), (rs 8, .inl (cI, 49, .inl (fun _ => 0))), (rr 9, .inr (4, [.ref hh, .ref (rs 9), .int 0, .int 0])), (rs 9, .inl (cI, 49, .inl (fun _ => 0)))]
set_option maxRecDepth 100000 in
set_option maxHeartbeats 4000000 in
theorem c_X1_init (l : Launch) (D : va_G) (cI cZ cR : ClassId) (h0 : Nat) (hh : Nat)  : Cn l yX1_init wsX1_init rmX1_init D cI cZ cR [.ref h0, .ref hh] [(h0, .inr (1, [.null, .int 0, .int 0]))] 21 540 (nX1_init cI cZ cR h0 hh) := by
  refine ent_n (cc := cX1_init) (maxL := 3) (by decide) rfl rfl (Nat.le_of_ble_eq_true rfl) ?_
  intro p e s m below meth c A Q hx hb hml hown hin hts hE hA hP hD hS hret ls hl
  have hown : s.vm.findClass RX1 = some m.cls := hown
  have hl : lv_has ls 3 [(0, .ref h0), (1, .ref hh)] := hl
  have fL11 := hts (.fieldLink RX1 11 "RainShelves$History" "rows" "[LRainShelves$Rain;") (List.mem_of_getElem? (i := 5) rfl)
  refine lv_aload_n hx hb dX1_init_0 rfl (lv_at hl 0 rfl) ?_
  refine W.objInit hx hb hown (hts (.methodLink RX1 3 objectInit) (List.mem_of_getElem? (i := 1) rfl)) (hts (.instanceMethod objectInit) (List.mem_of_getElem? (i := 2) rfl)) (hts (.code objectInit ⟨#[0xb1]⟩ 1 none) (List.mem_of_getElem? (i := 3) rfl)) rfl (by rw [hml]; exact hl.1) rfl dX1_init_1 (Nat.le_of_ble_eq_true rfl) (Nat.le_of_ble_eq_true rfl) ?_
  refine W.eq (g2 := F0 m 4 ls []) rfl ?_
  refine lv_aload_n hx hb dX1_init_4 rfl (lv_at hl 0 rfl) ?_
  refine lv_bipush (v := 10) hx hb dX1_init_5 (by decide) ?_
  refine new_r (k := 10) hx hb hown (hts (.classLink RX1 9 RX4) (List.mem_of_getElem? (i := 4) rfl)) hE hP hD hS hA (by decide) (by decide) (Nat.le_of_ble_eq_true rfl) (Nat.le_of_ble_eq_true rfl) (Nat.le_of_ble_eq_true rfl) dX1_init_7 (fun qa H hP hD hS => ?_)
  have hPD : PD D A [(h0, .inr (1, [.null, .int 0, .int 0])), (qa, .inl (cR, 10, .inr (.inr (.inr (.inr (fun _ => none))))))] H := ⟨hP, hD⟩
  obtain ⟨hP, hD⟩ := hPD
  refine W.widen (k := 1) (n := 10) (Nat.le_of_ble_eq_true rfl) (Nat.le_of_ble_eq_true rfl) ?_
  refine va_putF (D := D) (ci := 1) (v := .ref qa) (ty := tyX1 0) (C := RX1) (T := TX1) (N := 3) hx hb hts hiX1_init_1 tyX1 tyX1_ok nmX1 hown hE.1 hP hD hS 0 rfl rfl 0 (by decide) fL11 (fun _ h9 => h9) rfl hin rfl (tyX1_ok 0 (by decide)) rfl rfl (Nat.le_of_ble_eq_true rfl) dX1_init_10 (fun H locs hP hD hS => ?_)
  have hPD : PD D A [(h0, .inr (1, [.ref qa, .int 0, .int 0])), (qa, .inl (cR, 10, .inr (.inr (.inr (.inr (fun _ => none))))))] H := ⟨hP, hD⟩
  obtain ⟨hP, hD⟩ := hPD
  refine lv_iconst (v := 0) hx hb dX1_init_13 (by decide) ?_
  refine lv_istore_n (lv' := [(2, .int 0), (0, .ref h0), (1, .ref hh)]) hx hb dX1_init_14 rfl hl (by decide) rfl (fun ls hl => ?_)
  refine lv_iload_n hx hb dX1_init_15 rfl (lv_at hl 0 rfl) ?_
  refine lv_bipush (v := 10) hx hb dX1_init_16 (by decide) ?_
  refine lv_icmp_ge (tgt := 41) hx hb dX1_init_18 (by decide) (fun hn => absurd hn (by decide)) (fun _ => ?_)
  refine lv_aload_n hx hb dX1_init_21 rfl (lv_at hl 1 rfl) ?_
  refine va_get (D := D) (ci := 1) (v := .ref qa) (C := RX1) (T := TX1) (N := 3) hx hb hts hiX1_init_1 hown hE.1 hP 0 rfl rfl 0 (by decide) fL11 (fun _ h9 => h9) rfl dX1_init_22 ?_
  refine lv_iload_n hx hb dX1_init_25 rfl (lv_at hl 0 rfl) ?_
  refine va_new (ci := 4) (fs := [.null, .null, .int 0, .int 0]) (C := RX4) (T := TX4) (N := 4) hx hb hts hiX1_init_4 tyX4 tyX4_ok hown (hts (.classLink RX1 9 RX4) (List.mem_of_getElem? (i := 4) rfl)) (hts (.instantiable RX4 4) (List.mem_of_getElem? (i := 6) rfl)) (hts (.initialized RX4) (List.mem_of_getElem? (i := 7) rfl)) hE.1 hP hD hS hA rfl dfX4 (Nat.le_of_ble_eq_true rfl) (Nat.le_of_ble_eq_true rfl) dX1_init_26 (fun r0 H hP hD hS => ?_)
  have hPD : PD D A [(h0, .inr (1, [.ref qa, .int 0, .int 0])), (qa, .inl (cR, 10, .inr (.inr (.inr (.inr (fun _ => none)))))), (r0, .inr (4, [.null, .null, .int 0, .int 0]))] H := ⟨hP, hD⟩
  obtain ⟨hP, hD⟩ := hPD
  refine W.widen (k := 2) (n := 14) (Nat.le_of_ble_eq_true rfl) (Nat.le_of_ble_eq_true rfl) ?_
  refine lv_dup hx hb dX1_init_29 rfl ?_
  refine lv_aload_n hx hb dX1_init_30 rfl (lv_at hl 2 rfl) ?_
  refine cl_nN (As := [.ref hh]) (rest := [.ref r0, .int 0, .ref qa]) (wr := [(h0, .inr (1, [.ref qa, .int 0, .int 0])), (qa, .inl (cR, 10, .inr (.inr (.inr (.inr (fun _ => none))))))]) ⟨hx, hb, hml, hown, hts⟩ (c_X4_init l D cI cZ cR r0 hh) (cw_X1_init_X4_init_17 hE hts) hE hP hD hS hA [2] [0, 1] rfl rfl rfl rfl (by decide) rfl hl.1 rfl (Nat.le_of_ble_eq_true rfl) dX1_init_31 ⟨Nat.le_of_ble_eq_true rfl, Nat.le_of_ble_eq_true rfl⟩ (fun w1 H locs hN hP hD hS => ?_)
  obtain ⟨s0, rfl⟩ := hN
  have hPD : PD D A [(h0, .inr (1, [.ref qa, .int 0, .int 0])), (qa, .inl (cR, 10, .inr (.inr (.inr (.inr (fun _ => none)))))), (r0, .inr (4, [.ref hh, .ref s0, .int 0, .int 0])), (s0, .inl (cI, 49, .inl (fun _ => 0)))] H := ⟨hP, hD⟩
  obtain ⟨hP, hD⟩ := hPD
  refine W.widen (k := 3) (n := 63) (Nat.le_of_ble_eq_true rfl) (Nat.le_of_ble_eq_true rfl) ?_
  refine va_astq hx hb hE.1 hP hD hS 1 2 2 4 rfl rfl rfl rfl (ix_in rfl) dX1_init_34 (fun H locs hP hD hS => ?_)
  have hPD : PD D A [(h0, .inr (1, [.ref qa, .int 0, .int 0])), (qa, .inl (cR, 10, .inr (.inr (.inr (.inr (va_up (fun _ => none) 0 (some r0))))))), (r0, .inr (4, [.ref hh, .ref s0, .int 0, .int 0])), (s0, .inl (cI, 49, .inl (fun _ => 0)))] H := ⟨hP, hD⟩
  obtain ⟨hP, hD⟩ := hPD
  refine lv_iinc (v := 1) (lv' := [(2, .int 1), (0, .ref h0), (1, .ref hh)]) hx hb dX1_init_35 hl (k := 0) rfl (by decide) (by decide) rfl (fun ls hl => ?_)
  refine lv_goto (tgt := 15) hx hb dX1_init_38 (by decide) ?_
  refine lv_iload_n hx hb dX1_init_15 rfl (lv_at hl 0 rfl) ?_
  refine lv_bipush (v := 10) hx hb dX1_init_16 (by decide) ?_
  refine lv_icmp_ge (tgt := 41) hx hb dX1_init_18 (by decide) (fun hn => absurd hn (by decide)) (fun _ => ?_)
  refine lv_aload_n hx hb dX1_init_21 rfl (lv_at hl 1 rfl) ?_
  refine va_get (D := D) (ci := 1) (v := .ref qa) (C := RX1) (T := TX1) (N := 3) hx hb hts hiX1_init_1 hown hE.1 hP 0 rfl rfl 0 (by decide) fL11 (fun _ h9 => h9) rfl dX1_init_22 ?_
  refine lv_iload_n hx hb dX1_init_25 rfl (lv_at hl 0 rfl) ?_
  refine va_new (ci := 4) (fs := [.null, .null, .int 0, .int 0]) (C := RX4) (T := TX4) (N := 4) hx hb hts hiX1_init_4 tyX4 tyX4_ok hown (hts (.classLink RX1 9 RX4) (List.mem_of_getElem? (i := 4) rfl)) (hts (.instantiable RX4 4) (List.mem_of_getElem? (i := 6) rfl)) (hts (.initialized RX4) (List.mem_of_getElem? (i := 7) rfl)) hE.1 hP hD hS hA rfl dfX4 (Nat.le_of_ble_eq_true rfl) (Nat.le_of_ble_eq_true rfl) dX1_init_26 (fun r1 H hP hD hS => ?_)
  have hPD : PD D A [(h0, .inr (1, [.ref qa, .int 0, .int 0])), (qa, .inl (cR, 10, .inr (.inr (.inr (.inr (va_up (fun _ => none) 0 (some r0))))))), (r0, .inr (4, [.ref hh, .ref s0, .int 0, .int 0])), (s0, .inl (cI, 49, .inl (fun _ => 0))), (r1, .inr (4, [.null, .null, .int 0, .int 0]))] H := ⟨hP, hD⟩
  obtain ⟨hP, hD⟩ := hPD
  refine W.widen (k := 4) (n := 67) (Nat.le_of_ble_eq_true rfl) (Nat.le_of_ble_eq_true rfl) ?_
  refine lv_dup hx hb dX1_init_29 rfl ?_
  refine lv_aload_n hx hb dX1_init_30 rfl (lv_at hl 2 rfl) ?_
  refine cl_nN (As := [.ref hh]) (rest := [.ref r1, .int 1, .ref qa]) (wr := [(h0, .inr (1, [.ref qa, .int 0, .int 0])), (qa, .inl (cR, 10, .inr (.inr (.inr (.inr (va_up (fun _ => none) 0 (some r0))))))), (r0, .inr (4, [.ref hh, .ref s0, .int 0, .int 0])), (s0, .inl (cI, 49, .inl (fun _ => 0)))]) ⟨hx, hb, hml, hown, hts⟩ (c_X4_init l D cI cZ cR r1 hh) (cw_X1_init_X4_init_17 hE hts) hE hP hD hS hA [4] [0, 1, 2, 3] rfl rfl rfl rfl (by decide) rfl hl.1 rfl (Nat.le_of_ble_eq_true rfl) dX1_init_31 ⟨Nat.le_of_ble_eq_true rfl, Nat.le_of_ble_eq_true rfl⟩ (fun w1 H locs hN hP hD hS => ?_)
  obtain ⟨s1, rfl⟩ := hN
  have hPD : PD D A [(h0, .inr (1, [.ref qa, .int 0, .int 0])), (qa, .inl (cR, 10, .inr (.inr (.inr (.inr (va_up (fun _ => none) 0 (some r0))))))), (r0, .inr (4, [.ref hh, .ref s0, .int 0, .int 0])), (s0, .inl (cI, 49, .inl (fun _ => 0))), (r1, .inr (4, [.ref hh, .ref s1, .int 0, .int 0])), (s1, .inl (cI, 49, .inl (fun _ => 0)))] H := ⟨hP, hD⟩
  obtain ⟨hP, hD⟩ := hPD
  refine W.widen (k := 5) (n := 116) (Nat.le_of_ble_eq_true rfl) (Nat.le_of_ble_eq_true rfl) ?_
  refine va_astq hx hb hE.1 hP hD hS 1 2 4 4 rfl rfl rfl rfl (ix_in rfl) dX1_init_34 (fun H locs hP hD hS => ?_)
  have hPD : PD D A [(h0, .inr (1, [.ref qa, .int 0, .int 0])), (qa, .inl (cR, 10, .inr (.inr (.inr (.inr (va_up (va_up (fun _ => none) 0 (some r0)) 1 (some r1))))))), (r0, .inr (4, [.ref hh, .ref s0, .int 0, .int 0])), (s0, .inl (cI, 49, .inl (fun _ => 0))), (r1, .inr (4, [.ref hh, .ref s1, .int 0, .int 0])), (s1, .inl (cI, 49, .inl (fun _ => 0)))] H := ⟨hP, hD⟩
  obtain ⟨hP, hD⟩ := hPD
  refine lv_iinc (v := 2) (lv' := [(2, .int 2), (0, .ref h0), (1, .ref hh)]) hx hb dX1_init_35 hl (k := 0) rfl (by decide) (by decide) rfl (fun ls hl => ?_)
  refine lv_goto (tgt := 15) hx hb dX1_init_38 (by decide) ?_
  refine lv_iload_n hx hb dX1_init_15 rfl (lv_at hl 0 rfl) ?_
  refine lv_bipush (v := 10) hx hb dX1_init_16 (by decide) ?_
  refine lv_icmp_ge (tgt := 41) hx hb dX1_init_18 (by decide) (fun hn => absurd hn (by decide)) (fun _ => ?_)
  refine lv_aload_n hx hb dX1_init_21 rfl (lv_at hl 1 rfl) ?_
  refine va_get (D := D) (ci := 1) (v := .ref qa) (C := RX1) (T := TX1) (N := 3) hx hb hts hiX1_init_1 hown hE.1 hP 0 rfl rfl 0 (by decide) fL11 (fun _ h9 => h9) rfl dX1_init_22 ?_
  refine lv_iload_n hx hb dX1_init_25 rfl (lv_at hl 0 rfl) ?_
  refine va_new (ci := 4) (fs := [.null, .null, .int 0, .int 0]) (C := RX4) (T := TX4) (N := 4) hx hb hts hiX1_init_4 tyX4 tyX4_ok hown (hts (.classLink RX1 9 RX4) (List.mem_of_getElem? (i := 4) rfl)) (hts (.instantiable RX4 4) (List.mem_of_getElem? (i := 6) rfl)) (hts (.initialized RX4) (List.mem_of_getElem? (i := 7) rfl)) hE.1 hP hD hS hA rfl dfX4 (Nat.le_of_ble_eq_true rfl) (Nat.le_of_ble_eq_true rfl) dX1_init_26 (fun r2 H hP hD hS => ?_)
  have hPD : PD D A [(h0, .inr (1, [.ref qa, .int 0, .int 0])), (qa, .inl (cR, 10, .inr (.inr (.inr (.inr (va_up (va_up (fun _ => none) 0 (some r0)) 1 (some r1))))))), (r0, .inr (4, [.ref hh, .ref s0, .int 0, .int 0])), (s0, .inl (cI, 49, .inl (fun _ => 0))), (r1, .inr (4, [.ref hh, .ref s1, .int 0, .int 0])), (s1, .inl (cI, 49, .inl (fun _ => 0))), (r2, .inr (4, [.null, .null, .int 0, .int 0]))] H := ⟨hP, hD⟩
  obtain ⟨hP, hD⟩ := hPD
  refine W.widen (k := 6) (n := 120) (Nat.le_of_ble_eq_true rfl) (Nat.le_of_ble_eq_true rfl) ?_
  refine lv_dup hx hb dX1_init_29 rfl ?_
  refine lv_aload_n hx hb dX1_init_30 rfl (lv_at hl 2 rfl) ?_
  refine cl_nN (As := [.ref hh]) (rest := [.ref r2, .int 2, .ref qa]) (wr := [(h0, .inr (1, [.ref qa, .int 0, .int 0])), (qa, .inl (cR, 10, .inr (.inr (.inr (.inr (va_up (va_up (fun _ => none) 0 (some r0)) 1 (some r1))))))), (r0, .inr (4, [.ref hh, .ref s0, .int 0, .int 0])), (s0, .inl (cI, 49, .inl (fun _ => 0))), (r1, .inr (4, [.ref hh, .ref s1, .int 0, .int 0])), (s1, .inl (cI, 49, .inl (fun _ => 0)))]) ⟨hx, hb, hml, hown, hts⟩ (c_X4_init l D cI cZ cR r2 hh) (cw_X1_init_X4_init_17 hE hts) hE hP hD hS hA [6] [0, 1, 2, 3, 4, 5] rfl rfl rfl rfl (by decide) rfl hl.1 rfl (Nat.le_of_ble_eq_true rfl) dX1_init_31 ⟨Nat.le_of_ble_eq_true rfl, Nat.le_of_ble_eq_true rfl⟩ (fun w1 H locs hN hP hD hS => ?_)
  obtain ⟨s2, rfl⟩ := hN
  have hPD : PD D A [(h0, .inr (1, [.ref qa, .int 0, .int 0])), (qa, .inl (cR, 10, .inr (.inr (.inr (.inr (va_up (va_up (fun _ => none) 0 (some r0)) 1 (some r1))))))), (r0, .inr (4, [.ref hh, .ref s0, .int 0, .int 0])), (s0, .inl (cI, 49, .inl (fun _ => 0))), (r1, .inr (4, [.ref hh, .ref s1, .int 0, .int 0])), (s1, .inl (cI, 49, .inl (fun _ => 0))), (r2, .inr (4, [.ref hh, .ref s2, .int 0, .int 0])), (s2, .inl (cI, 49, .inl (fun _ => 0)))] H := ⟨hP, hD⟩
  obtain ⟨hP, hD⟩ := hPD
  refine W.widen (k := 7) (n := 169) (Nat.le_of_ble_eq_true rfl) (Nat.le_of_ble_eq_true rfl) ?_
  refine va_astq hx hb hE.1 hP hD hS 1 2 6 4 rfl rfl rfl rfl (ix_in rfl) dX1_init_34 (fun H locs hP hD hS => ?_)
  have hPD : PD D A [(h0, .inr (1, [.ref qa, .int 0, .int 0])), (qa, .inl (cR, 10, .inr (.inr (.inr (.inr (va_up (va_up (va_up (fun _ => none) 0 (some r0)) 1 (some r1)) 2 (some r2))))))), (r0, .inr (4, [.ref hh, .ref s0, .int 0, .int 0])), (s0, .inl (cI, 49, .inl (fun _ => 0))), (r1, .inr (4, [.ref hh, .ref s1, .int 0, .int 0])), (s1, .inl (cI, 49, .inl (fun _ => 0))), (r2, .inr (4, [.ref hh, .ref s2, .int 0, .int 0])), (s2, .inl (cI, 49, .inl (fun _ => 0)))] H := ⟨hP, hD⟩
  obtain ⟨hP, hD⟩ := hPD
  refine lv_iinc (v := 3) (lv' := [(2, .int 3), (0, .ref h0), (1, .ref hh)]) hx hb dX1_init_35 hl (k := 0) rfl (by decide) (by decide) rfl (fun ls hl => ?_)
  refine lv_goto (tgt := 15) hx hb dX1_init_38 (by decide) ?_
  refine lv_iload_n hx hb dX1_init_15 rfl (lv_at hl 0 rfl) ?_
  refine lv_bipush (v := 10) hx hb dX1_init_16 (by decide) ?_
  refine lv_icmp_ge (tgt := 41) hx hb dX1_init_18 (by decide) (fun hn => absurd hn (by decide)) (fun _ => ?_)
  refine lv_aload_n hx hb dX1_init_21 rfl (lv_at hl 1 rfl) ?_
  refine va_get (D := D) (ci := 1) (v := .ref qa) (C := RX1) (T := TX1) (N := 3) hx hb hts hiX1_init_1 hown hE.1 hP 0 rfl rfl 0 (by decide) fL11 (fun _ h9 => h9) rfl dX1_init_22 ?_
  refine lv_iload_n hx hb dX1_init_25 rfl (lv_at hl 0 rfl) ?_
  refine va_new (ci := 4) (fs := [.null, .null, .int 0, .int 0]) (C := RX4) (T := TX4) (N := 4) hx hb hts hiX1_init_4 tyX4 tyX4_ok hown (hts (.classLink RX1 9 RX4) (List.mem_of_getElem? (i := 4) rfl)) (hts (.instantiable RX4 4) (List.mem_of_getElem? (i := 6) rfl)) (hts (.initialized RX4) (List.mem_of_getElem? (i := 7) rfl)) hE.1 hP hD hS hA rfl dfX4 (Nat.le_of_ble_eq_true rfl) (Nat.le_of_ble_eq_true rfl) dX1_init_26 (fun r3 H hP hD hS => ?_)
  have hPD : PD D A [(h0, .inr (1, [.ref qa, .int 0, .int 0])), (qa, .inl (cR, 10, .inr (.inr (.inr (.inr (va_up (va_up (va_up (fun _ => none) 0 (some r0)) 1 (some r1)) 2 (some r2))))))), (r0, .inr (4, [.ref hh, .ref s0, .int 0, .int 0])), (s0, .inl (cI, 49, .inl (fun _ => 0))), (r1, .inr (4, [.ref hh, .ref s1, .int 0, .int 0])), (s1, .inl (cI, 49, .inl (fun _ => 0))), (r2, .inr (4, [.ref hh, .ref s2, .int 0, .int 0])), (s2, .inl (cI, 49, .inl (fun _ => 0))), (r3, .inr (4, [.null, .null, .int 0, .int 0]))] H := ⟨hP, hD⟩
  obtain ⟨hP, hD⟩ := hPD
  refine W.widen (k := 8) (n := 173) (Nat.le_of_ble_eq_true rfl) (Nat.le_of_ble_eq_true rfl) ?_
  refine lv_dup hx hb dX1_init_29 rfl ?_
  refine lv_aload_n hx hb dX1_init_30 rfl (lv_at hl 2 rfl) ?_
  refine cl_nN (As := [.ref hh]) (rest := [.ref r3, .int 3, .ref qa]) (wr := [(h0, .inr (1, [.ref qa, .int 0, .int 0])), (qa, .inl (cR, 10, .inr (.inr (.inr (.inr (va_up (va_up (va_up (fun _ => none) 0 (some r0)) 1 (some r1)) 2 (some r2))))))), (r0, .inr (4, [.ref hh, .ref s0, .int 0, .int 0])), (s0, .inl (cI, 49, .inl (fun _ => 0))), (r1, .inr (4, [.ref hh, .ref s1, .int 0, .int 0])), (s1, .inl (cI, 49, .inl (fun _ => 0))), (r2, .inr (4, [.ref hh, .ref s2, .int 0, .int 0])), (s2, .inl (cI, 49, .inl (fun _ => 0)))]) ⟨hx, hb, hml, hown, hts⟩ (c_X4_init l D cI cZ cR r3 hh) (cw_X1_init_X4_init_17 hE hts) hE hP hD hS hA [8] [0, 1, 2, 3, 4, 5, 6, 7] rfl rfl rfl rfl (by decide) rfl hl.1 rfl (Nat.le_of_ble_eq_true rfl) dX1_init_31 ⟨Nat.le_of_ble_eq_true rfl, Nat.le_of_ble_eq_true rfl⟩ (fun w1 H locs hN hP hD hS => ?_)
  obtain ⟨s3, rfl⟩ := hN
  have hPD : PD D A [(h0, .inr (1, [.ref qa, .int 0, .int 0])), (qa, .inl (cR, 10, .inr (.inr (.inr (.inr (va_up (va_up (va_up (fun _ => none) 0 (some r0)) 1 (some r1)) 2 (some r2))))))), (r0, .inr (4, [.ref hh, .ref s0, .int 0, .int 0])), (s0, .inl (cI, 49, .inl (fun _ => 0))), (r1, .inr (4, [.ref hh, .ref s1, .int 0, .int 0])), (s1, .inl (cI, 49, .inl (fun _ => 0))), (r2, .inr (4, [.ref hh, .ref s2, .int 0, .int 0])), (s2, .inl (cI, 49, .inl (fun _ => 0))), (r3, .inr (4, [.ref hh, .ref s3, .int 0, .int 0])), (s3, .inl (cI, 49, .inl (fun _ => 0)))] H := ⟨hP, hD⟩
  obtain ⟨hP, hD⟩ := hPD
  refine W.widen (k := 9) (n := 222) (Nat.le_of_ble_eq_true rfl) (Nat.le_of_ble_eq_true rfl) ?_
  refine va_astq hx hb hE.1 hP hD hS 1 2 8 4 rfl rfl rfl rfl (ix_in rfl) dX1_init_34 (fun H locs hP hD hS => ?_)
  have hPD : PD D A [(h0, .inr (1, [.ref qa, .int 0, .int 0])), (qa, .inl (cR, 10, .inr (.inr (.inr (.inr (va_up (va_up (va_up (va_up (fun _ => none) 0 (some r0)) 1 (some r1)) 2 (some r2)) 3 (some r3))))))), (r0, .inr (4, [.ref hh, .ref s0, .int 0, .int 0])), (s0, .inl (cI, 49, .inl (fun _ => 0))), (r1, .inr (4, [.ref hh, .ref s1, .int 0, .int 0])), (s1, .inl (cI, 49, .inl (fun _ => 0))), (r2, .inr (4, [.ref hh, .ref s2, .int 0, .int 0])), (s2, .inl (cI, 49, .inl (fun _ => 0))), (r3, .inr (4, [.ref hh, .ref s3, .int 0, .int 0])), (s3, .inl (cI, 49, .inl (fun _ => 0)))] H := ⟨hP, hD⟩
  obtain ⟨hP, hD⟩ := hPD
  refine lv_iinc (v := 4) (lv' := [(2, .int 4), (0, .ref h0), (1, .ref hh)]) hx hb dX1_init_35 hl (k := 0) rfl (by decide) (by decide) rfl (fun ls hl => ?_)
  refine lv_goto (tgt := 15) hx hb dX1_init_38 (by decide) ?_
  refine lv_iload_n hx hb dX1_init_15 rfl (lv_at hl 0 rfl) ?_
  refine lv_bipush (v := 10) hx hb dX1_init_16 (by decide) ?_
  refine lv_icmp_ge (tgt := 41) hx hb dX1_init_18 (by decide) (fun hn => absurd hn (by decide)) (fun _ => ?_)
  refine lv_aload_n hx hb dX1_init_21 rfl (lv_at hl 1 rfl) ?_
  refine va_get (D := D) (ci := 1) (v := .ref qa) (C := RX1) (T := TX1) (N := 3) hx hb hts hiX1_init_1 hown hE.1 hP 0 rfl rfl 0 (by decide) fL11 (fun _ h9 => h9) rfl dX1_init_22 ?_
  refine lv_iload_n hx hb dX1_init_25 rfl (lv_at hl 0 rfl) ?_
  refine va_new (ci := 4) (fs := [.null, .null, .int 0, .int 0]) (C := RX4) (T := TX4) (N := 4) hx hb hts hiX1_init_4 tyX4 tyX4_ok hown (hts (.classLink RX1 9 RX4) (List.mem_of_getElem? (i := 4) rfl)) (hts (.instantiable RX4 4) (List.mem_of_getElem? (i := 6) rfl)) (hts (.initialized RX4) (List.mem_of_getElem? (i := 7) rfl)) hE.1 hP hD hS hA rfl dfX4 (Nat.le_of_ble_eq_true rfl) (Nat.le_of_ble_eq_true rfl) dX1_init_26 (fun r4 H hP hD hS => ?_)
  have hPD : PD D A [(h0, .inr (1, [.ref qa, .int 0, .int 0])), (qa, .inl (cR, 10, .inr (.inr (.inr (.inr (va_up (va_up (va_up (va_up (fun _ => none) 0 (some r0)) 1 (some r1)) 2 (some r2)) 3 (some r3))))))), (r0, .inr (4, [.ref hh, .ref s0, .int 0, .int 0])), (s0, .inl (cI, 49, .inl (fun _ => 0))), (r1, .inr (4, [.ref hh, .ref s1, .int 0, .int 0])), (s1, .inl (cI, 49, .inl (fun _ => 0))), (r2, .inr (4, [.ref hh, .ref s2, .int 0, .int 0])), (s2, .inl (cI, 49, .inl (fun _ => 0))), (r3, .inr (4, [.ref hh, .ref s3, .int 0, .int 0])), (s3, .inl (cI, 49, .inl (fun _ => 0))), (r4, .inr (4, [.null, .null, .int 0, .int 0]))] H := ⟨hP, hD⟩
  obtain ⟨hP, hD⟩ := hPD
  refine W.widen (k := 10) (n := 226) (Nat.le_of_ble_eq_true rfl) (Nat.le_of_ble_eq_true rfl) ?_
  refine lv_dup hx hb dX1_init_29 rfl ?_
  refine lv_aload_n hx hb dX1_init_30 rfl (lv_at hl 2 rfl) ?_
  refine cl_nN (As := [.ref hh]) (rest := [.ref r4, .int 4, .ref qa]) (wr := [(h0, .inr (1, [.ref qa, .int 0, .int 0])), (qa, .inl (cR, 10, .inr (.inr (.inr (.inr (va_up (va_up (va_up (va_up (fun _ => none) 0 (some r0)) 1 (some r1)) 2 (some r2)) 3 (some r3))))))), (r0, .inr (4, [.ref hh, .ref s0, .int 0, .int 0])), (s0, .inl (cI, 49, .inl (fun _ => 0))), (r1, .inr (4, [.ref hh, .ref s1, .int 0, .int 0])), (s1, .inl (cI, 49, .inl (fun _ => 0))), (r2, .inr (4, [.ref hh, .ref s2, .int 0, .int 0])), (s2, .inl (cI, 49, .inl (fun _ => 0))), (r3, .inr (4, [.ref hh, .ref s3, .int 0, .int 0])), (s3, .inl (cI, 49, .inl (fun _ => 0)))]) ⟨hx, hb, hml, hown, hts⟩ (c_X4_init l D cI cZ cR r4 hh) (cw_X1_init_X4_init_17 hE hts) hE hP hD hS hA [10] [0, 1, 2, 3, 4, 5, 6, 7, 8, 9] rfl rfl rfl rfl (by decide) rfl hl.1 rfl (Nat.le_of_ble_eq_true rfl) dX1_init_31 ⟨Nat.le_of_ble_eq_true rfl, Nat.le_of_ble_eq_true rfl⟩ (fun w1 H locs hN hP hD hS => ?_)
  obtain ⟨s4, rfl⟩ := hN
  have hPD : PD D A [(h0, .inr (1, [.ref qa, .int 0, .int 0])), (qa, .inl (cR, 10, .inr (.inr (.inr (.inr (va_up (va_up (va_up (va_up (fun _ => none) 0 (some r0)) 1 (some r1)) 2 (some r2)) 3 (some r3))))))), (r0, .inr (4, [.ref hh, .ref s0, .int 0, .int 0])), (s0, .inl (cI, 49, .inl (fun _ => 0))), (r1, .inr (4, [.ref hh, .ref s1, .int 0, .int 0])), (s1, .inl (cI, 49, .inl (fun _ => 0))), (r2, .inr (4, [.ref hh, .ref s2, .int 0, .int 0])), (s2, .inl (cI, 49, .inl (fun _ => 0))), (r3, .inr (4, [.ref hh, .ref s3, .int 0, .int 0])), (s3, .inl (cI, 49, .inl (fun _ => 0))), (r4, .inr (4, [.ref hh, .ref s4, .int 0, .int 0])), (s4, .inl (cI, 49, .inl (fun _ => 0)))] H := ⟨hP, hD⟩
  obtain ⟨hP, hD⟩ := hPD
  refine W.widen (k := 11) (n := 275) (Nat.le_of_ble_eq_true rfl) (Nat.le_of_ble_eq_true rfl) ?_
  refine va_astq hx hb hE.1 hP hD hS 1 2 10 4 rfl rfl rfl rfl (ix_in rfl) dX1_init_34 (fun H locs hP hD hS => ?_)
  have hPD : PD D A [(h0, .inr (1, [.ref qa, .int 0, .int 0])), (qa, .inl (cR, 10, .inr (.inr (.inr (.inr (va_up (va_up (va_up (va_up (va_up (fun _ => none) 0 (some r0)) 1 (some r1)) 2 (some r2)) 3 (some r3)) 4 (some r4))))))), (r0, .inr (4, [.ref hh, .ref s0, .int 0, .int 0])), (s0, .inl (cI, 49, .inl (fun _ => 0))), (r1, .inr (4, [.ref hh, .ref s1, .int 0, .int 0])), (s1, .inl (cI, 49, .inl (fun _ => 0))), (r2, .inr (4, [.ref hh, .ref s2, .int 0, .int 0])), (s2, .inl (cI, 49, .inl (fun _ => 0))), (r3, .inr (4, [.ref hh, .ref s3, .int 0, .int 0])), (s3, .inl (cI, 49, .inl (fun _ => 0))), (r4, .inr (4, [.ref hh, .ref s4, .int 0, .int 0])), (s4, .inl (cI, 49, .inl (fun _ => 0)))] H := ⟨hP, hD⟩
  obtain ⟨hP, hD⟩ := hPD
  refine lv_iinc (v := 5) (lv' := [(2, .int 5), (0, .ref h0), (1, .ref hh)]) hx hb dX1_init_35 hl (k := 0) rfl (by decide) (by decide) rfl (fun ls hl => ?_)
  refine lv_goto (tgt := 15) hx hb dX1_init_38 (by decide) ?_
  refine lv_iload_n hx hb dX1_init_15 rfl (lv_at hl 0 rfl) ?_
  refine lv_bipush (v := 10) hx hb dX1_init_16 (by decide) ?_
  refine lv_icmp_ge (tgt := 41) hx hb dX1_init_18 (by decide) (fun hn => absurd hn (by decide)) (fun _ => ?_)
  refine lv_aload_n hx hb dX1_init_21 rfl (lv_at hl 1 rfl) ?_
  refine va_get (D := D) (ci := 1) (v := .ref qa) (C := RX1) (T := TX1) (N := 3) hx hb hts hiX1_init_1 hown hE.1 hP 0 rfl rfl 0 (by decide) fL11 (fun _ h9 => h9) rfl dX1_init_22 ?_
  refine lv_iload_n hx hb dX1_init_25 rfl (lv_at hl 0 rfl) ?_
  refine va_new (ci := 4) (fs := [.null, .null, .int 0, .int 0]) (C := RX4) (T := TX4) (N := 4) hx hb hts hiX1_init_4 tyX4 tyX4_ok hown (hts (.classLink RX1 9 RX4) (List.mem_of_getElem? (i := 4) rfl)) (hts (.instantiable RX4 4) (List.mem_of_getElem? (i := 6) rfl)) (hts (.initialized RX4) (List.mem_of_getElem? (i := 7) rfl)) hE.1 hP hD hS hA rfl dfX4 (Nat.le_of_ble_eq_true rfl) (Nat.le_of_ble_eq_true rfl) dX1_init_26 (fun r5 H hP hD hS => ?_)
  have hPD : PD D A [(h0, .inr (1, [.ref qa, .int 0, .int 0])), (qa, .inl (cR, 10, .inr (.inr (.inr (.inr (va_up (va_up (va_up (va_up (va_up (fun _ => none) 0 (some r0)) 1 (some r1)) 2 (some r2)) 3 (some r3)) 4 (some r4))))))), (r0, .inr (4, [.ref hh, .ref s0, .int 0, .int 0])), (s0, .inl (cI, 49, .inl (fun _ => 0))), (r1, .inr (4, [.ref hh, .ref s1, .int 0, .int 0])), (s1, .inl (cI, 49, .inl (fun _ => 0))), (r2, .inr (4, [.ref hh, .ref s2, .int 0, .int 0])), (s2, .inl (cI, 49, .inl (fun _ => 0))), (r3, .inr (4, [.ref hh, .ref s3, .int 0, .int 0])), (s3, .inl (cI, 49, .inl (fun _ => 0))), (r4, .inr (4, [.ref hh, .ref s4, .int 0, .int 0])), (s4, .inl (cI, 49, .inl (fun _ => 0))), (r5, .inr (4, [.null, .null, .int 0, .int 0]))] H := ⟨hP, hD⟩
  obtain ⟨hP, hD⟩ := hPD
  refine W.widen (k := 12) (n := 279) (Nat.le_of_ble_eq_true rfl) (Nat.le_of_ble_eq_true rfl) ?_
  refine lv_dup hx hb dX1_init_29 rfl ?_
  refine lv_aload_n hx hb dX1_init_30 rfl (lv_at hl 2 rfl) ?_
  refine cl_nN (As := [.ref hh]) (rest := [.ref r5, .int 5, .ref qa]) (wr := [(h0, .inr (1, [.ref qa, .int 0, .int 0])), (qa, .inl (cR, 10, .inr (.inr (.inr (.inr (va_up (va_up (va_up (va_up (va_up (fun _ => none) 0 (some r0)) 1 (some r1)) 2 (some r2)) 3 (some r3)) 4 (some r4))))))), (r0, .inr (4, [.ref hh, .ref s0, .int 0, .int 0])), (s0, .inl (cI, 49, .inl (fun _ => 0))), (r1, .inr (4, [.ref hh, .ref s1, .int 0, .int 0])), (s1, .inl (cI, 49, .inl (fun _ => 0))), (r2, .inr (4, [.ref hh, .ref s2, .int 0, .int 0])), (s2, .inl (cI, 49, .inl (fun _ => 0))), (r3, .inr (4, [.ref hh, .ref s3, .int 0, .int 0])), (s3, .inl (cI, 49, .inl (fun _ => 0))), (r4, .inr (4, [.ref hh, .ref s4, .int 0, .int 0])), (s4, .inl (cI, 49, .inl (fun _ => 0)))]) ⟨hx, hb, hml, hown, hts⟩ (c_X4_init l D cI cZ cR r5 hh) (cw_X1_init_X4_init_17 hE hts) hE hP hD hS hA [12] [0, 1, 2, 3, 4, 5, 6, 7, 8, 9, 10, 11] rfl rfl rfl rfl (by decide) rfl hl.1 rfl (Nat.le_of_ble_eq_true rfl) dX1_init_31 ⟨Nat.le_of_ble_eq_true rfl, Nat.le_of_ble_eq_true rfl⟩ (fun w1 H locs hN hP hD hS => ?_)
  obtain ⟨s5, rfl⟩ := hN
  have hPD : PD D A [(h0, .inr (1, [.ref qa, .int 0, .int 0])), (qa, .inl (cR, 10, .inr (.inr (.inr (.inr (va_up (va_up (va_up (va_up (va_up (fun _ => none) 0 (some r0)) 1 (some r1)) 2 (some r2)) 3 (some r3)) 4 (some r4))))))), (r0, .inr (4, [.ref hh, .ref s0, .int 0, .int 0])), (s0, .inl (cI, 49, .inl (fun _ => 0))), (r1, .inr (4, [.ref hh, .ref s1, .int 0, .int 0])), (s1, .inl (cI, 49, .inl (fun _ => 0))), (r2, .inr (4, [.ref hh, .ref s2, .int 0, .int 0])), (s2, .inl (cI, 49, .inl (fun _ => 0))), (r3, .inr (4, [.ref hh, .ref s3, .int 0, .int 0])), (s3, .inl (cI, 49, .inl (fun _ => 0))), (r4, .inr (4, [.ref hh, .ref s4, .int 0, .int 0])), (s4, .inl (cI, 49, .inl (fun _ => 0))), (r5, .inr (4, [.ref hh, .ref s5, .int 0, .int 0])), (s5, .inl (cI, 49, .inl (fun _ => 0)))] H := ⟨hP, hD⟩
  obtain ⟨hP, hD⟩ := hPD
  refine W.widen (k := 13) (n := 328) (Nat.le_of_ble_eq_true rfl) (Nat.le_of_ble_eq_true rfl) ?_
  refine va_astq hx hb hE.1 hP hD hS 1 2 12 4 rfl rfl rfl rfl (ix_in rfl) dX1_init_34 (fun H locs hP hD hS => ?_)
  have hPD : PD D A [(h0, .inr (1, [.ref qa, .int 0, .int 0])), (qa, .inl (cR, 10, .inr (.inr (.inr (.inr (va_up (va_up (va_up (va_up (va_up (va_up (fun _ => none) 0 (some r0)) 1 (some r1)) 2 (some r2)) 3 (some r3)) 4 (some r4)) 5 (some r5))))))), (r0, .inr (4, [.ref hh, .ref s0, .int 0, .int 0])), (s0, .inl (cI, 49, .inl (fun _ => 0))), (r1, .inr (4, [.ref hh, .ref s1, .int 0, .int 0])), (s1, .inl (cI, 49, .inl (fun _ => 0))), (r2, .inr (4, [.ref hh, .ref s2, .int 0, .int 0])), (s2, .inl (cI, 49, .inl (fun _ => 0))), (r3, .inr (4, [.ref hh, .ref s3, .int 0, .int 0])), (s3, .inl (cI, 49, .inl (fun _ => 0))), (r4, .inr (4, [.ref hh, .ref s4, .int 0, .int 0])), (s4, .inl (cI, 49, .inl (fun _ => 0))), (r5, .inr (4, [.ref hh, .ref s5, .int 0, .int 0])), (s5, .inl (cI, 49, .inl (fun _ => 0)))] H := ⟨hP, hD⟩
  obtain ⟨hP, hD⟩ := hPD
  refine lv_iinc (v := 6) (lv' := [(2, .int 6), (0, .ref h0), (1, .ref hh)]) hx hb dX1_init_35 hl (k := 0) rfl (by decide) (by decide) rfl (fun ls hl => ?_)
  refine lv_goto (tgt := 15) hx hb dX1_init_38 (by decide) ?_
  refine lv_iload_n hx hb dX1_init_15 rfl (lv_at hl 0 rfl) ?_
  refine lv_bipush (v := 10) hx hb dX1_init_16 (by decide) ?_
  refine lv_icmp_ge (tgt := 41) hx hb dX1_init_18 (by decide) (fun hn => absurd hn (by decide)) (fun _ => ?_)
  refine lv_aload_n hx hb dX1_init_21 rfl (lv_at hl 1 rfl) ?_
  refine va_get (D := D) (ci := 1) (v := .ref qa) (C := RX1) (T := TX1) (N := 3) hx hb hts hiX1_init_1 hown hE.1 hP 0 rfl rfl 0 (by decide) fL11 (fun _ h9 => h9) rfl dX1_init_22 ?_
  refine lv_iload_n hx hb dX1_init_25 rfl (lv_at hl 0 rfl) ?_
  refine va_new (ci := 4) (fs := [.null, .null, .int 0, .int 0]) (C := RX4) (T := TX4) (N := 4) hx hb hts hiX1_init_4 tyX4 tyX4_ok hown (hts (.classLink RX1 9 RX4) (List.mem_of_getElem? (i := 4) rfl)) (hts (.instantiable RX4 4) (List.mem_of_getElem? (i := 6) rfl)) (hts (.initialized RX4) (List.mem_of_getElem? (i := 7) rfl)) hE.1 hP hD hS hA rfl dfX4 (Nat.le_of_ble_eq_true rfl) (Nat.le_of_ble_eq_true rfl) dX1_init_26 (fun r6 H hP hD hS => ?_)
  have hPD : PD D A [(h0, .inr (1, [.ref qa, .int 0, .int 0])), (qa, .inl (cR, 10, .inr (.inr (.inr (.inr (va_up (va_up (va_up (va_up (va_up (va_up (fun _ => none) 0 (some r0)) 1 (some r1)) 2 (some r2)) 3 (some r3)) 4 (some r4)) 5 (some r5))))))), (r0, .inr (4, [.ref hh, .ref s0, .int 0, .int 0])), (s0, .inl (cI, 49, .inl (fun _ => 0))), (r1, .inr (4, [.ref hh, .ref s1, .int 0, .int 0])), (s1, .inl (cI, 49, .inl (fun _ => 0))), (r2, .inr (4, [.ref hh, .ref s2, .int 0, .int 0])), (s2, .inl (cI, 49, .inl (fun _ => 0))), (r3, .inr (4, [.ref hh, .ref s3, .int 0, .int 0])), (s3, .inl (cI, 49, .inl (fun _ => 0))), (r4, .inr (4, [.ref hh, .ref s4, .int 0, .int 0])), (s4, .inl (cI, 49, .inl (fun _ => 0))), (r5, .inr (4, [.ref hh, .ref s5, .int 0, .int 0])), (s5, .inl (cI, 49, .inl (fun _ => 0))), (r6, .inr (4, [.null, .null, .int 0, .int 0]))] H := ⟨hP, hD⟩
  obtain ⟨hP, hD⟩ := hPD
  refine W.widen (k := 14) (n := 332) (Nat.le_of_ble_eq_true rfl) (Nat.le_of_ble_eq_true rfl) ?_
  refine lv_dup hx hb dX1_init_29 rfl ?_
  refine lv_aload_n hx hb dX1_init_30 rfl (lv_at hl 2 rfl) ?_
  refine cl_nN (As := [.ref hh]) (rest := [.ref r6, .int 6, .ref qa]) (wr := [(h0, .inr (1, [.ref qa, .int 0, .int 0])), (qa, .inl (cR, 10, .inr (.inr (.inr (.inr (va_up (va_up (va_up (va_up (va_up (va_up (fun _ => none) 0 (some r0)) 1 (some r1)) 2 (some r2)) 3 (some r3)) 4 (some r4)) 5 (some r5))))))), (r0, .inr (4, [.ref hh, .ref s0, .int 0, .int 0])), (s0, .inl (cI, 49, .inl (fun _ => 0))), (r1, .inr (4, [.ref hh, .ref s1, .int 0, .int 0])), (s1, .inl (cI, 49, .inl (fun _ => 0))), (r2, .inr (4, [.ref hh, .ref s2, .int 0, .int 0])), (s2, .inl (cI, 49, .inl (fun _ => 0))), (r3, .inr (4, [.ref hh, .ref s3, .int 0, .int 0])), (s3, .inl (cI, 49, .inl (fun _ => 0))), (r4, .inr (4, [.ref hh, .ref s4, .int 0, .int 0])), (s4, .inl (cI, 49, .inl (fun _ => 0))), (r5, .inr (4, [.ref hh, .ref s5, .int 0, .int 0])), (s5, .inl (cI, 49, .inl (fun _ => 0)))]) ⟨hx, hb, hml, hown, hts⟩ (c_X4_init l D cI cZ cR r6 hh) (cw_X1_init_X4_init_17 hE hts) hE hP hD hS hA [14] [0, 1, 2, 3, 4, 5, 6, 7, 8, 9, 10, 11, 12, 13] rfl rfl rfl rfl (by decide) rfl hl.1 rfl (Nat.le_of_ble_eq_true rfl) dX1_init_31 ⟨Nat.le_of_ble_eq_true rfl, Nat.le_of_ble_eq_true rfl⟩ (fun w1 H locs hN hP hD hS => ?_)
  obtain ⟨s6, rfl⟩ := hN
  have hPD : PD D A [(h0, .inr (1, [.ref qa, .int 0, .int 0])), (qa, .inl (cR, 10, .inr (.inr (.inr (.inr (va_up (va_up (va_up (va_up (va_up (va_up (fun _ => none) 0 (some r0)) 1 (some r1)) 2 (some r2)) 3 (some r3)) 4 (some r4)) 5 (some r5))))))), (r0, .inr (4, [.ref hh, .ref s0, .int 0, .int 0])), (s0, .inl (cI, 49, .inl (fun _ => 0))), (r1, .inr (4, [.ref hh, .ref s1, .int 0, .int 0])), (s1, .inl (cI, 49, .inl (fun _ => 0))), (r2, .inr (4, [.ref hh, .ref s2, .int 0, .int 0])), (s2, .inl (cI, 49, .inl (fun _ => 0))), (r3, .inr (4, [.ref hh, .ref s3, .int 0, .int 0])), (s3, .inl (cI, 49, .inl (fun _ => 0))), (r4, .inr (4, [.ref hh, .ref s4, .int 0, .int 0])), (s4, .inl (cI, 49, .inl (fun _ => 0))), (r5, .inr (4, [.ref hh, .ref s5, .int 0, .int 0])), (s5, .inl (cI, 49, .inl (fun _ => 0))), (r6, .inr (4, [.ref hh, .ref s6, .int 0, .int 0])), (s6, .inl (cI, 49, .inl (fun _ => 0)))] H := ⟨hP, hD⟩
  obtain ⟨hP, hD⟩ := hPD
  refine W.widen (k := 15) (n := 381) (Nat.le_of_ble_eq_true rfl) (Nat.le_of_ble_eq_true rfl) ?_
  refine va_astq hx hb hE.1 hP hD hS 1 2 14 4 rfl rfl rfl rfl (ix_in rfl) dX1_init_34 (fun H locs hP hD hS => ?_)
  have hPD : PD D A [(h0, .inr (1, [.ref qa, .int 0, .int 0])), (qa, .inl (cR, 10, .inr (.inr (.inr (.inr (va_up (va_up (va_up (va_up (va_up (va_up (va_up (fun _ => none) 0 (some r0)) 1 (some r1)) 2 (some r2)) 3 (some r3)) 4 (some r4)) 5 (some r5)) 6 (some r6))))))), (r0, .inr (4, [.ref hh, .ref s0, .int 0, .int 0])), (s0, .inl (cI, 49, .inl (fun _ => 0))), (r1, .inr (4, [.ref hh, .ref s1, .int 0, .int 0])), (s1, .inl (cI, 49, .inl (fun _ => 0))), (r2, .inr (4, [.ref hh, .ref s2, .int 0, .int 0])), (s2, .inl (cI, 49, .inl (fun _ => 0))), (r3, .inr (4, [.ref hh, .ref s3, .int 0, .int 0])), (s3, .inl (cI, 49, .inl (fun _ => 0))), (r4, .inr (4, [.ref hh, .ref s4, .int 0, .int 0])), (s4, .inl (cI, 49, .inl (fun _ => 0))), (r5, .inr (4, [.ref hh, .ref s5, .int 0, .int 0])), (s5, .inl (cI, 49, .inl (fun _ => 0))), (r6, .inr (4, [.ref hh, .ref s6, .int 0, .int 0])), (s6, .inl (cI, 49, .inl (fun _ => 0)))] H := ⟨hP, hD⟩
  obtain ⟨hP, hD⟩ := hPD
  refine lv_iinc (v := 7) (lv' := [(2, .int 7), (0, .ref h0), (1, .ref hh)]) hx hb dX1_init_35 hl (k := 0) rfl (by decide) (by decide) rfl (fun ls hl => ?_)
  refine lv_goto (tgt := 15) hx hb dX1_init_38 (by decide) ?_
  refine lv_iload_n hx hb dX1_init_15 rfl (lv_at hl 0 rfl) ?_
  refine lv_bipush (v := 10) hx hb dX1_init_16 (by decide) ?_
  refine lv_icmp_ge (tgt := 41) hx hb dX1_init_18 (by decide) (fun hn => absurd hn (by decide)) (fun _ => ?_)
  refine lv_aload_n hx hb dX1_init_21 rfl (lv_at hl 1 rfl) ?_
  refine va_get (D := D) (ci := 1) (v := .ref qa) (C := RX1) (T := TX1) (N := 3) hx hb hts hiX1_init_1 hown hE.1 hP 0 rfl rfl 0 (by decide) fL11 (fun _ h9 => h9) rfl dX1_init_22 ?_
  refine lv_iload_n hx hb dX1_init_25 rfl (lv_at hl 0 rfl) ?_
  refine va_new (ci := 4) (fs := [.null, .null, .int 0, .int 0]) (C := RX4) (T := TX4) (N := 4) hx hb hts hiX1_init_4 tyX4 tyX4_ok hown (hts (.classLink RX1 9 RX4) (List.mem_of_getElem? (i := 4) rfl)) (hts (.instantiable RX4 4) (List.mem_of_getElem? (i := 6) rfl)) (hts (.initialized RX4) (List.mem_of_getElem? (i := 7) rfl)) hE.1 hP hD hS hA rfl dfX4 (Nat.le_of_ble_eq_true rfl) (Nat.le_of_ble_eq_true rfl) dX1_init_26 (fun r7 H hP hD hS => ?_)
  have hPD : PD D A [(h0, .inr (1, [.ref qa, .int 0, .int 0])), (qa, .inl (cR, 10, .inr (.inr (.inr (.inr (va_up (va_up (va_up (va_up (va_up (va_up (va_up (fun _ => none) 0 (some r0)) 1 (some r1)) 2 (some r2)) 3 (some r3)) 4 (some r4)) 5 (some r5)) 6 (some r6))))))), (r0, .inr (4, [.ref hh, .ref s0, .int 0, .int 0])), (s0, .inl (cI, 49, .inl (fun _ => 0))), (r1, .inr (4, [.ref hh, .ref s1, .int 0, .int 0])), (s1, .inl (cI, 49, .inl (fun _ => 0))), (r2, .inr (4, [.ref hh, .ref s2, .int 0, .int 0])), (s2, .inl (cI, 49, .inl (fun _ => 0))), (r3, .inr (4, [.ref hh, .ref s3, .int 0, .int 0])), (s3, .inl (cI, 49, .inl (fun _ => 0))), (r4, .inr (4, [.ref hh, .ref s4, .int 0, .int 0])), (s4, .inl (cI, 49, .inl (fun _ => 0))), (r5, .inr (4, [.ref hh, .ref s5, .int 0, .int 0])), (s5, .inl (cI, 49, .inl (fun _ => 0))), (r6, .inr (4, [.ref hh, .ref s6, .int 0, .int 0])), (s6, .inl (cI, 49, .inl (fun _ => 0))), (r7, .inr (4, [.null, .null, .int 0, .int 0]))] H := ⟨hP, hD⟩
  obtain ⟨hP, hD⟩ := hPD
  refine W.widen (k := 16) (n := 385) (Nat.le_of_ble_eq_true rfl) (Nat.le_of_ble_eq_true rfl) ?_
  refine lv_dup hx hb dX1_init_29 rfl ?_
  refine lv_aload_n hx hb dX1_init_30 rfl (lv_at hl 2 rfl) ?_
  refine cl_nN (As := [.ref hh]) (rest := [.ref r7, .int 7, .ref qa]) (wr := [(h0, .inr (1, [.ref qa, .int 0, .int 0])), (qa, .inl (cR, 10, .inr (.inr (.inr (.inr (va_up (va_up (va_up (va_up (va_up (va_up (va_up (fun _ => none) 0 (some r0)) 1 (some r1)) 2 (some r2)) 3 (some r3)) 4 (some r4)) 5 (some r5)) 6 (some r6))))))), (r0, .inr (4, [.ref hh, .ref s0, .int 0, .int 0])), (s0, .inl (cI, 49, .inl (fun _ => 0))), (r1, .inr (4, [.ref hh, .ref s1, .int 0, .int 0])), (s1, .inl (cI, 49, .inl (fun _ => 0))), (r2, .inr (4, [.ref hh, .ref s2, .int 0, .int 0])), (s2, .inl (cI, 49, .inl (fun _ => 0))), (r3, .inr (4, [.ref hh, .ref s3, .int 0, .int 0])), (s3, .inl (cI, 49, .inl (fun _ => 0))), (r4, .inr (4, [.ref hh, .ref s4, .int 0, .int 0])), (s4, .inl (cI, 49, .inl (fun _ => 0))), (r5, .inr (4, [.ref hh, .ref s5, .int 0, .int 0])), (s5, .inl (cI, 49, .inl (fun _ => 0))), (r6, .inr (4, [.ref hh, .ref s6, .int 0, .int 0])), (s6, .inl (cI, 49, .inl (fun _ => 0)))]) ⟨hx, hb, hml, hown, hts⟩ (c_X4_init l D cI cZ cR r7 hh) (cw_X1_init_X4_init_17 hE hts) hE hP hD hS hA [16] [0, 1, 2, 3, 4, 5, 6, 7, 8, 9, 10, 11, 12, 13, 14, 15] rfl rfl rfl rfl (by decide) rfl hl.1 rfl (Nat.le_of_ble_eq_true rfl) dX1_init_31 ⟨Nat.le_of_ble_eq_true rfl, Nat.le_of_ble_eq_true rfl⟩ (fun w1 H locs hN hP hD hS => ?_)
  obtain ⟨s7, rfl⟩ := hN
  have hPD : PD D A [(h0, .inr (1, [.ref qa, .int 0, .int 0])), (qa, .inl (cR, 10, .inr (.inr (.inr (.inr (va_up (va_up (va_up (va_up (va_up (va_up (va_up (fun _ => none) 0 (some r0)) 1 (some r1)) 2 (some r2)) 3 (some r3)) 4 (some r4)) 5 (some r5)) 6 (some r6))))))), (r0, .inr (4, [.ref hh, .ref s0, .int 0, .int 0])), (s0, .inl (cI, 49, .inl (fun _ => 0))), (r1, .inr (4, [.ref hh, .ref s1, .int 0, .int 0])), (s1, .inl (cI, 49, .inl (fun _ => 0))), (r2, .inr (4, [.ref hh, .ref s2, .int 0, .int 0])), (s2, .inl (cI, 49, .inl (fun _ => 0))), (r3, .inr (4, [.ref hh, .ref s3, .int 0, .int 0])), (s3, .inl (cI, 49, .inl (fun _ => 0))), (r4, .inr (4, [.ref hh, .ref s4, .int 0, .int 0])), (s4, .inl (cI, 49, .inl (fun _ => 0))), (r5, .inr (4, [.ref hh, .ref s5, .int 0, .int 0])), (s5, .inl (cI, 49, .inl (fun _ => 0))), (r6, .inr (4, [.ref hh, .ref s6, .int 0, .int 0])), (s6, .inl (cI, 49, .inl (fun _ => 0))), (r7, .inr (4, [.ref hh, .ref s7, .int 0, .int 0])), (s7, .inl (cI, 49, .inl (fun _ => 0)))] H := ⟨hP, hD⟩
  obtain ⟨hP, hD⟩ := hPD
  refine W.widen (k := 17) (n := 434) (Nat.le_of_ble_eq_true rfl) (Nat.le_of_ble_eq_true rfl) ?_
  refine va_astq hx hb hE.1 hP hD hS 1 2 16 4 rfl rfl rfl rfl (ix_in rfl) dX1_init_34 (fun H locs hP hD hS => ?_)
  have hPD : PD D A [(h0, .inr (1, [.ref qa, .int 0, .int 0])), (qa, .inl (cR, 10, .inr (.inr (.inr (.inr (va_up (va_up (va_up (va_up (va_up (va_up (va_up (va_up (fun _ => none) 0 (some r0)) 1 (some r1)) 2 (some r2)) 3 (some r3)) 4 (some r4)) 5 (some r5)) 6 (some r6)) 7 (some r7))))))), (r0, .inr (4, [.ref hh, .ref s0, .int 0, .int 0])), (s0, .inl (cI, 49, .inl (fun _ => 0))), (r1, .inr (4, [.ref hh, .ref s1, .int 0, .int 0])), (s1, .inl (cI, 49, .inl (fun _ => 0))), (r2, .inr (4, [.ref hh, .ref s2, .int 0, .int 0])), (s2, .inl (cI, 49, .inl (fun _ => 0))), (r3, .inr (4, [.ref hh, .ref s3, .int 0, .int 0])), (s3, .inl (cI, 49, .inl (fun _ => 0))), (r4, .inr (4, [.ref hh, .ref s4, .int 0, .int 0])), (s4, .inl (cI, 49, .inl (fun _ => 0))), (r5, .inr (4, [.ref hh, .ref s5, .int 0, .int 0])), (s5, .inl (cI, 49, .inl (fun _ => 0))), (r6, .inr (4, [.ref hh, .ref s6, .int 0, .int 0])), (s6, .inl (cI, 49, .inl (fun _ => 0))), (r7, .inr (4, [.ref hh, .ref s7, .int 0, .int 0])), (s7, .inl (cI, 49, .inl (fun _ => 0)))] H := ⟨hP, hD⟩
  obtain ⟨hP, hD⟩ := hPD
  refine lv_iinc (v := 8) (lv' := [(2, .int 8), (0, .ref h0), (1, .ref hh)]) hx hb dX1_init_35 hl (k := 0) rfl (by decide) (by decide) rfl (fun ls hl => ?_)
  refine lv_goto (tgt := 15) hx hb dX1_init_38 (by decide) ?_
  refine lv_iload_n hx hb dX1_init_15 rfl (lv_at hl 0 rfl) ?_
  refine lv_bipush (v := 10) hx hb dX1_init_16 (by decide) ?_
  refine lv_icmp_ge (tgt := 41) hx hb dX1_init_18 (by decide) (fun hn => absurd hn (by decide)) (fun _ => ?_)
  refine lv_aload_n hx hb dX1_init_21 rfl (lv_at hl 1 rfl) ?_
  refine va_get (D := D) (ci := 1) (v := .ref qa) (C := RX1) (T := TX1) (N := 3) hx hb hts hiX1_init_1 hown hE.1 hP 0 rfl rfl 0 (by decide) fL11 (fun _ h9 => h9) rfl dX1_init_22 ?_
  refine lv_iload_n hx hb dX1_init_25 rfl (lv_at hl 0 rfl) ?_
  refine va_new (ci := 4) (fs := [.null, .null, .int 0, .int 0]) (C := RX4) (T := TX4) (N := 4) hx hb hts hiX1_init_4 tyX4 tyX4_ok hown (hts (.classLink RX1 9 RX4) (List.mem_of_getElem? (i := 4) rfl)) (hts (.instantiable RX4 4) (List.mem_of_getElem? (i := 6) rfl)) (hts (.initialized RX4) (List.mem_of_getElem? (i := 7) rfl)) hE.1 hP hD hS hA rfl dfX4 (Nat.le_of_ble_eq_true rfl) (Nat.le_of_ble_eq_true rfl) dX1_init_26 (fun r8 H hP hD hS => ?_)
  have hPD : PD D A [(h0, .inr (1, [.ref qa, .int 0, .int 0])), (qa, .inl (cR, 10, .inr (.inr (.inr (.inr (va_up (va_up (va_up (va_up (va_up (va_up (va_up (va_up (fun _ => none) 0 (some r0)) 1 (some r1)) 2 (some r2)) 3 (some r3)) 4 (some r4)) 5 (some r5)) 6 (some r6)) 7 (some r7))))))), (r0, .inr (4, [.ref hh, .ref s0, .int 0, .int 0])), (s0, .inl (cI, 49, .inl (fun _ => 0))), (r1, .inr (4, [.ref hh, .ref s1, .int 0, .int 0])), (s1, .inl (cI, 49, .inl (fun _ => 0))), (r2, .inr (4, [.ref hh, .ref s2, .int 0, .int 0])), (s2, .inl (cI, 49, .inl (fun _ => 0))), (r3, .inr (4, [.ref hh, .ref s3, .int 0, .int 0])), (s3, .inl (cI, 49, .inl (fun _ => 0))), (r4, .inr (4, [.ref hh, .ref s4, .int 0, .int 0])), (s4, .inl (cI, 49, .inl (fun _ => 0))), (r5, .inr (4, [.ref hh, .ref s5, .int 0, .int 0])), (s5, .inl (cI, 49, .inl (fun _ => 0))), (r6, .inr (4, [.ref hh, .ref s6, .int 0, .int 0])), (s6, .inl (cI, 49, .inl (fun _ => 0))), (r7, .inr (4, [.ref hh, .ref s7, .int 0, .int 0])), (s7, .inl (cI, 49, .inl (fun _ => 0))), (r8, .inr (4, [.null, .null, .int 0, .int 0]))] H := ⟨hP, hD⟩
  obtain ⟨hP, hD⟩ := hPD
  refine W.widen (k := 18) (n := 438) (Nat.le_of_ble_eq_true rfl) (Nat.le_of_ble_eq_true rfl) ?_
  refine lv_dup hx hb dX1_init_29 rfl ?_
  refine lv_aload_n hx hb dX1_init_30 rfl (lv_at hl 2 rfl) ?_
  refine cl_nN (As := [.ref hh]) (rest := [.ref r8, .int 8, .ref qa]) (wr := [(h0, .inr (1, [.ref qa, .int 0, .int 0])), (qa, .inl (cR, 10, .inr (.inr (.inr (.inr (va_up (va_up (va_up (va_up (va_up (va_up (va_up (va_up (fun _ => none) 0 (some r0)) 1 (some r1)) 2 (some r2)) 3 (some r3)) 4 (some r4)) 5 (some r5)) 6 (some r6)) 7 (some r7))))))), (r0, .inr (4, [.ref hh, .ref s0, .int 0, .int 0])), (s0, .inl (cI, 49, .inl (fun _ => 0))), (r1, .inr (4, [.ref hh, .ref s1, .int 0, .int 0])), (s1, .inl (cI, 49, .inl (fun _ => 0))), (r2, .inr (4, [.ref hh, .ref s2, .int 0, .int 0])), (s2, .inl (cI, 49, .inl (fun _ => 0))), (r3, .inr (4, [.ref hh, .ref s3, .int 0, .int 0])), (s3, .inl (cI, 49, .inl (fun _ => 0))), (r4, .inr (4, [.ref hh, .ref s4, .int 0, .int 0])), (s4, .inl (cI, 49, .inl (fun _ => 0))), (r5, .inr (4, [.ref hh, .ref s5, .int 0, .int 0])), (s5, .inl (cI, 49, .inl (fun _ => 0))), (r6, .inr (4, [.ref hh, .ref s6, .int 0, .int 0])), (s6, .inl (cI, 49, .inl (fun _ => 0))), (r7, .inr (4, [.ref hh, .ref s7, .int 0, .int 0])), (s7, .inl (cI, 49, .inl (fun _ => 0)))]) ⟨hx, hb, hml, hown, hts⟩ (c_X4_init l D cI cZ cR r8 hh) (cw_X1_init_X4_init_17 hE hts) hE hP hD hS hA [18] [0, 1, 2, 3, 4, 5, 6, 7, 8, 9, 10, 11, 12, 13, 14, 15, 16, 17] rfl rfl rfl rfl (by decide) rfl hl.1 rfl (Nat.le_of_ble_eq_true rfl) dX1_init_31 ⟨Nat.le_of_ble_eq_true rfl, Nat.le_of_ble_eq_true rfl⟩ (fun w1 H locs hN hP hD hS => ?_)
  obtain ⟨s8, rfl⟩ := hN
  have hPD : PD D A [(h0, .inr (1, [.ref qa, .int 0, .int 0])), (qa, .inl (cR, 10, .inr (.inr (.inr (.inr (va_up (va_up (va_up (va_up (va_up (va_up (va_up (va_up (fun _ => none) 0 (some r0)) 1 (some r1)) 2 (some r2)) 3 (some r3)) 4 (some r4)) 5 (some r5)) 6 (some r6)) 7 (some r7))))))), (r0, .inr (4, [.ref hh, .ref s0, .int 0, .int 0])), (s0, .inl (cI, 49, .inl (fun _ => 0))), (r1, .inr (4, [.ref hh, .ref s1, .int 0, .int 0])), (s1, .inl (cI, 49, .inl (fun _ => 0))), (r2, .inr (4, [.ref hh, .ref s2, .int 0, .int 0])), (s2, .inl (cI, 49, .inl (fun _ => 0))), (r3, .inr (4, [.ref hh, .ref s3, .int 0, .int 0])), (s3, .inl (cI, 49, .inl (fun _ => 0))), (r4, .inr (4, [.ref hh, .ref s4, .int 0, .int 0])), (s4, .inl (cI, 49, .inl (fun _ => 0))), (r5, .inr (4, [.ref hh, .ref s5, .int 0, .int 0])), (s5, .inl (cI, 49, .inl (fun _ => 0))), (r6, .inr (4, [.ref hh, .ref s6, .int 0, .int 0])), (s6, .inl (cI, 49, .inl (fun _ => 0))), (r7, .inr (4, [.ref hh, .ref s7, .int 0, .int 0])), (s7, .inl (cI, 49, .inl (fun _ => 0))), (r8, .inr (4, [.ref hh, .ref s8, .int 0, .int 0])), (s8, .inl (cI, 49, .inl (fun _ => 0)))] H := ⟨hP, hD⟩
  obtain ⟨hP, hD⟩ := hPD
  refine W.widen (k := 19) (n := 487) (Nat.le_of_ble_eq_true rfl) (Nat.le_of_ble_eq_true rfl) ?_
  refine va_astq hx hb hE.1 hP hD hS 1 2 18 4 rfl rfl rfl rfl (ix_in rfl) dX1_init_34 (fun H locs hP hD hS => ?_)
  have hPD : PD D A [(h0, .inr (1, [.ref qa, .int 0, .int 0])), (qa, .inl (cR, 10, .inr (.inr (.inr (.inr (va_up (va_up (va_up (va_up (va_up (va_up (va_up (va_up (va_up (fun _ => none) 0 (some r0)) 1 (some r1)) 2 (some r2)) 3 (some r3)) 4 (some r4)) 5 (some r5)) 6 (some r6)) 7 (some r7)) 8 (some r8))))))), (r0, .inr (4, [.ref hh, .ref s0, .int 0, .int 0])), (s0, .inl (cI, 49, .inl (fun _ => 0))), (r1, .inr (4, [.ref hh, .ref s1, .int 0, .int 0])), (s1, .inl (cI, 49, .inl (fun _ => 0))), (r2, .inr (4, [.ref hh, .ref s2, .int 0, .int 0])), (s2, .inl (cI, 49, .inl (fun _ => 0))), (r3, .inr (4, [.ref hh, .ref s3, .int 0, .int 0])), (s3, .inl (cI, 49, .inl (fun _ => 0))), (r4, .inr (4, [.ref hh, .ref s4, .int 0, .int 0])), (s4, .inl (cI, 49, .inl (fun _ => 0))), (r5, .inr (4, [.ref hh, .ref s5, .int 0, .int 0])), (s5, .inl (cI, 49, .inl (fun _ => 0))), (r6, .inr (4, [.ref hh, .ref s6, .int 0, .int 0])), (s6, .inl (cI, 49, .inl (fun _ => 0))), (r7, .inr (4, [.ref hh, .ref s7, .int 0, .int 0])), (s7, .inl (cI, 49, .inl (fun _ => 0))), (r8, .inr (4, [.ref hh, .ref s8, .int 0, .int 0])), (s8, .inl (cI, 49, .inl (fun _ => 0)))] H := ⟨hP, hD⟩
  obtain ⟨hP, hD⟩ := hPD
  refine lv_iinc (v := 9) (lv' := [(2, .int 9), (0, .ref h0), (1, .ref hh)]) hx hb dX1_init_35 hl (k := 0) rfl (by decide) (by decide) rfl (fun ls hl => ?_)
  refine lv_goto (tgt := 15) hx hb dX1_init_38 (by decide) ?_
  refine lv_iload_n hx hb dX1_init_15 rfl (lv_at hl 0 rfl) ?_
  refine lv_bipush (v := 10) hx hb dX1_init_16 (by decide) ?_
  refine lv_icmp_ge (tgt := 41) hx hb dX1_init_18 (by decide) (fun hn => absurd hn (by decide)) (fun _ => ?_)
  refine lv_aload_n hx hb dX1_init_21 rfl (lv_at hl 1 rfl) ?_
  refine va_get (D := D) (ci := 1) (v := .ref qa) (C := RX1) (T := TX1) (N := 3) hx hb hts hiX1_init_1 hown hE.1 hP 0 rfl rfl 0 (by decide) fL11 (fun _ h9 => h9) rfl dX1_init_22 ?_
  refine lv_iload_n hx hb dX1_init_25 rfl (lv_at hl 0 rfl) ?_
  refine va_new (ci := 4) (fs := [.null, .null, .int 0, .int 0]) (C := RX4) (T := TX4) (N := 4) hx hb hts hiX1_init_4 tyX4 tyX4_ok hown (hts (.classLink RX1 9 RX4) (List.mem_of_getElem? (i := 4) rfl)) (hts (.instantiable RX4 4) (List.mem_of_getElem? (i := 6) rfl)) (hts (.initialized RX4) (List.mem_of_getElem? (i := 7) rfl)) hE.1 hP hD hS hA rfl dfX4 (Nat.le_of_ble_eq_true rfl) (Nat.le_of_ble_eq_true rfl) dX1_init_26 (fun r9 H hP hD hS => ?_)
  have hPD : PD D A [(h0, .inr (1, [.ref qa, .int 0, .int 0])), (qa, .inl (cR, 10, .inr (.inr (.inr (.inr (va_up (va_up (va_up (va_up (va_up (va_up (va_up (va_up (va_up (fun _ => none) 0 (some r0)) 1 (some r1)) 2 (some r2)) 3 (some r3)) 4 (some r4)) 5 (some r5)) 6 (some r6)) 7 (some r7)) 8 (some r8))))))), (r0, .inr (4, [.ref hh, .ref s0, .int 0, .int 0])), (s0, .inl (cI, 49, .inl (fun _ => 0))), (r1, .inr (4, [.ref hh, .ref s1, .int 0, .int 0])), (s1, .inl (cI, 49, .inl (fun _ => 0))), (r2, .inr (4, [.ref hh, .ref s2, .int 0, .int 0])), (s2, .inl (cI, 49, .inl (fun _ => 0))), (r3, .inr (4, [.ref hh, .ref s3, .int 0, .int 0])), (s3, .inl (cI, 49, .inl (fun _ => 0))), (r4, .inr (4, [.ref hh, .ref s4, .int 0, .int 0])), (s4, .inl (cI, 49, .inl (fun _ => 0))), (r5, .inr (4, [.ref hh, .ref s5, .int 0, .int 0])), (s5, .inl (cI, 49, .inl (fun _ => 0))), (r6, .inr (4, [.ref hh, .ref s6, .int 0, .int 0])), (s6, .inl (cI, 49, .inl (fun _ => 0))), (r7, .inr (4, [.ref hh, .ref s7, .int 0, .int 0])), (s7, .inl (cI, 49, .inl (fun _ => 0))), (r8, .inr (4, [.ref hh, .ref s8, .int 0, .int 0])), (s8, .inl (cI, 49, .inl (fun _ => 0))), (r9, .inr (4, [.null, .null, .int 0, .int 0]))] H := ⟨hP, hD⟩
  obtain ⟨hP, hD⟩ := hPD
  refine W.widen (k := 20) (n := 491) (Nat.le_of_ble_eq_true rfl) (Nat.le_of_ble_eq_true rfl) ?_
  refine lv_dup hx hb dX1_init_29 rfl ?_
  refine lv_aload_n hx hb dX1_init_30 rfl (lv_at hl 2 rfl) ?_
  refine cl_nN (As := [.ref hh]) (rest := [.ref r9, .int 9, .ref qa]) (wr := [(h0, .inr (1, [.ref qa, .int 0, .int 0])), (qa, .inl (cR, 10, .inr (.inr (.inr (.inr (va_up (va_up (va_up (va_up (va_up (va_up (va_up (va_up (va_up (fun _ => none) 0 (some r0)) 1 (some r1)) 2 (some r2)) 3 (some r3)) 4 (some r4)) 5 (some r5)) 6 (some r6)) 7 (some r7)) 8 (some r8))))))), (r0, .inr (4, [.ref hh, .ref s0, .int 0, .int 0])), (s0, .inl (cI, 49, .inl (fun _ => 0))), (r1, .inr (4, [.ref hh, .ref s1, .int 0, .int 0])), (s1, .inl (cI, 49, .inl (fun _ => 0))), (r2, .inr (4, [.ref hh, .ref s2, .int 0, .int 0])), (s2, .inl (cI, 49, .inl (fun _ => 0))), (r3, .inr (4, [.ref hh, .ref s3, .int 0, .int 0])), (s3, .inl (cI, 49, .inl (fun _ => 0))), (r4, .inr (4, [.ref hh, .ref s4, .int 0, .int 0])), (s4, .inl (cI, 49, .inl (fun _ => 0))), (r5, .inr (4, [.ref hh, .ref s5, .int 0, .int 0])), (s5, .inl (cI, 49, .inl (fun _ => 0))), (r6, .inr (4, [.ref hh, .ref s6, .int 0, .int 0])), (s6, .inl (cI, 49, .inl (fun _ => 0))), (r7, .inr (4, [.ref hh, .ref s7, .int 0, .int 0])), (s7, .inl (cI, 49, .inl (fun _ => 0))), (r8, .inr (4, [.ref hh, .ref s8, .int 0, .int 0])), (s8, .inl (cI, 49, .inl (fun _ => 0)))]) ⟨hx, hb, hml, hown, hts⟩ (c_X4_init l D cI cZ cR r9 hh) (cw_X1_init_X4_init_17 hE hts) hE hP hD hS hA [20] [0, 1, 2, 3, 4, 5, 6, 7, 8, 9, 10, 11, 12, 13, 14, 15, 16, 17, 18, 19] rfl rfl rfl rfl (by decide) rfl hl.1 rfl (Nat.le_of_ble_eq_true rfl) dX1_init_31 ⟨Nat.le_of_ble_eq_true rfl, Nat.le_of_ble_eq_true rfl⟩ (fun w1 H locs hN hP hD hS => ?_)
  obtain ⟨s9, rfl⟩ := hN
  have hPD : PD D A [(h0, .inr (1, [.ref qa, .int 0, .int 0])), (qa, .inl (cR, 10, .inr (.inr (.inr (.inr (va_up (va_up (va_up (va_up (va_up (va_up (va_up (va_up (va_up (fun _ => none) 0 (some r0)) 1 (some r1)) 2 (some r2)) 3 (some r3)) 4 (some r4)) 5 (some r5)) 6 (some r6)) 7 (some r7)) 8 (some r8))))))), (r0, .inr (4, [.ref hh, .ref s0, .int 0, .int 0])), (s0, .inl (cI, 49, .inl (fun _ => 0))), (r1, .inr (4, [.ref hh, .ref s1, .int 0, .int 0])), (s1, .inl (cI, 49, .inl (fun _ => 0))), (r2, .inr (4, [.ref hh, .ref s2, .int 0, .int 0])), (s2, .inl (cI, 49, .inl (fun _ => 0))), (r3, .inr (4, [.ref hh, .ref s3, .int 0, .int 0])), (s3, .inl (cI, 49, .inl (fun _ => 0))), (r4, .inr (4, [.ref hh, .ref s4, .int 0, .int 0])), (s4, .inl (cI, 49, .inl (fun _ => 0))), (r5, .inr (4, [.ref hh, .ref s5, .int 0, .int 0])), (s5, .inl (cI, 49, .inl (fun _ => 0))), (r6, .inr (4, [.ref hh, .ref s6, .int 0, .int 0])), (s6, .inl (cI, 49, .inl (fun _ => 0))), (r7, .inr (4, [.ref hh, .ref s7, .int 0, .int 0])), (s7, .inl (cI, 49, .inl (fun _ => 0))), (r8, .inr (4, [.ref hh, .ref s8, .int 0, .int 0])), (s8, .inl (cI, 49, .inl (fun _ => 0))), (r9, .inr (4, [.ref hh, .ref s9, .int 0, .int 0])), (s9, .inl (cI, 49, .inl (fun _ => 0)))] H := ⟨hP, hD⟩
  obtain ⟨hP, hD⟩ := hPD
  refine W.widen (k := 21) (n := 540) (Nat.le_of_ble_eq_true rfl) (Nat.le_of_ble_eq_true rfl) ?_
  refine va_astq hx hb hE.1 hP hD hS 1 2 20 4 rfl rfl rfl rfl (ix_in rfl) dX1_init_34 (fun H locs hP hD hS => ?_)
  have hPD : PD D A [(h0, .inr (1, [.ref qa, .int 0, .int 0])), (qa, .inl (cR, 10, .inr (.inr (.inr (.inr (va_up (va_up (va_up (va_up (va_up (va_up (va_up (va_up (va_up (va_up (fun _ => none) 0 (some r0)) 1 (some r1)) 2 (some r2)) 3 (some r3)) 4 (some r4)) 5 (some r5)) 6 (some r6)) 7 (some r7)) 8 (some r8)) 9 (some r9))))))), (r0, .inr (4, [.ref hh, .ref s0, .int 0, .int 0])), (s0, .inl (cI, 49, .inl (fun _ => 0))), (r1, .inr (4, [.ref hh, .ref s1, .int 0, .int 0])), (s1, .inl (cI, 49, .inl (fun _ => 0))), (r2, .inr (4, [.ref hh, .ref s2, .int 0, .int 0])), (s2, .inl (cI, 49, .inl (fun _ => 0))), (r3, .inr (4, [.ref hh, .ref s3, .int 0, .int 0])), (s3, .inl (cI, 49, .inl (fun _ => 0))), (r4, .inr (4, [.ref hh, .ref s4, .int 0, .int 0])), (s4, .inl (cI, 49, .inl (fun _ => 0))), (r5, .inr (4, [.ref hh, .ref s5, .int 0, .int 0])), (s5, .inl (cI, 49, .inl (fun _ => 0))), (r6, .inr (4, [.ref hh, .ref s6, .int 0, .int 0])), (s6, .inl (cI, 49, .inl (fun _ => 0))), (r7, .inr (4, [.ref hh, .ref s7, .int 0, .int 0])), (s7, .inl (cI, 49, .inl (fun _ => 0))), (r8, .inr (4, [.ref hh, .ref s8, .int 0, .int 0])), (s8, .inl (cI, 49, .inl (fun _ => 0))), (r9, .inr (4, [.ref hh, .ref s9, .int 0, .int 0])), (s9, .inl (cI, 49, .inl (fun _ => 0)))] H := ⟨hP, hD⟩
  obtain ⟨hP, hD⟩ := hPD
  refine lv_iinc (v := 10) (lv' := [(2, .int 10), (0, .ref h0), (1, .ref hh)]) hx hb dX1_init_35 hl (k := 0) rfl (by decide) (by decide) rfl (fun ls hl => ?_)
  refine lv_goto (tgt := 15) hx hb dX1_init_38 (by decide) ?_
  refine lv_iload_n hx hb dX1_init_15 rfl (lv_at hl 0 rfl) ?_
  refine lv_bipush (v := 10) hx hb dX1_init_16 (by decide) ?_
  refine lv_icmp_ge (tgt := 41) hx hb dX1_init_18 (by decide) (fun _ => ?_) (fun hn => absurd (by decide) hn)
  have hD := hD.set (p := 1) (e := .inl (cR, 10, .inr (.inr (.inr (.inr (fun j => some (sel10 r0 r1 r2 r3 r4 r5 r6 r7 r8 r9 j))))))) rfl
  have hP := va_P.arrq (p := 1) (g := fun j => some (sel10 r0 r1 r2 r3 r4 r5 r6 r7 r8 r9 j)) hP rfl (fun j hj => by rcases (by omega : j = 0 ∨ j = 1 ∨ j = 2 ∨ j = 3 ∨ j = 4 ∨ j = 5 ∨ j = 6 ∨ j = 7 ∨ j = 8 ∨ j = 9) with rfl | rfl | rfl | rfl | rfl | rfl | rfl | rfl | rfl | rfl <;> rfl)
  exact hret _ _ _ _ _ dX1_init_41 ⟨qa, sel10 r0 r1 r2 r3 r4 r5 r6 r7 r8 r9, sel10 s0 s1 s2 s3 s4 s5 s6 s7 s8 s9, rfl⟩ hP hD hS
