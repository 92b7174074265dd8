abbrev rmX7_isWithin : Room := { frames := 0, cells := 0, slots := 0, locals := 0 }
set_option maxRecDepth 100000 in
set_option maxHeartbeats 4000000 in
theorem c_X7_isWithin (l : Launch) (D : va_G) (cI cZ cR : ClassId) (v0 : Int32) (v1 : Int32) (v2 : Int32) (out : Int32) (hf : f_X7_isWithin v0 v1 v2 = some out) : Ci l yX7_isWithin wsX7_isWithin rmX7_isWithin D cI cZ cR [.int v0, .int v1, .int v2] [] out [] := by
  refine ent_i (cc := cX7_isWithin) (maxL := 3) .boolean (by decide) rfl (Nat.le_of_ble_eq_true rfl) ?_
  intro p e s m below meth c A Q hx hb hml hown hts hE hA hP hD hS hret ls hl
  have hown : s.vm.findClass RX7 = some m.cls := hown
  have hl : lv_has ls 3 [(0, .int v0), (1, .int v1), (2, .int v2)] := hl
  unfold f_X7_isWithin at hf
  refine lv_iload_n hx hb dX7_isWithin_0 rfl (lv_at hl 0 rfl) ?_
  refine lv_iload_n hx hb dX7_isWithin_1 rfl (lv_at hl 1 rfl) ?_
  refine lv_icmp_lt (tgt := 14) hx hb dX7_isWithin_2 (by decide) (fun hc1 => ?_) (fun hc1 => ?_)
  · have hf := if_t hf hc1
    refine lv_iconst (v := 0) hx hb dX7_isWithin_14 (by decide) ?_
    have he := Option.some.inj hf
    subst he
    exact hret _ _ _ _ dX7_isWithin_15 bn0 hP hD hS
  · have hf := if_f hf hc1
    refine lv_iload_n hx hb dX7_isWithin_5 rfl (lv_at hl 0 rfl) ?_
    refine lv_iload_n hx hb dX7_isWithin_6 rfl (lv_at hl 2 rfl) ?_
    refine lv_icmp_gt (tgt := 14) hx hb dX7_isWithin_7 (by decide) (fun hc2 => ?_) (fun hc2 => ?_)
    · have hf := if_t hf hc2
      refine lv_iconst (v := 0) hx hb dX7_isWithin_14 (by decide) ?_
      have he := Option.some.inj hf
      subst he
      exact hret _ _ _ _ dX7_isWithin_15 bn0 hP hD hS
    · have hf := if_f hf hc2
      refine lv_iconst (v := 1) hx hb dX7_isWithin_10 (by decide) ?_
      refine lv_goto (tgt := 15) hx hb dX7_isWithin_11 (by decide) ?_
      have he := Option.some.inj hf
      subst he
      exact hret _ _ _ _ dX7_isWithin_15 bn1 hP hD hS
abbrev rmX7_type : Room := { frames := 1, cells := 0, slots := 0, locals := 22 }
theorem hiX7_type_6 : ∀ w ∈ wsX60, w ∈ wsX7_type := fun w h => (goodIn_r (big := wsX7_type) wsX60 [22, 23, 24, 25, 26, 27, 28, 29, 30] rfl (by decide +kernel) w h).1
theorem hiX7_type_7 : ∀ w ∈ wsX70, w ∈ wsX7_type := fun w h => (goodIn_r (big := wsX7_type) wsX70 [12, 13, 14, 15, 16, 17, 18, 19, 20, 21] rfl (by decide +kernel) w h).1
theorem cw_X7_type_X7_isWithin_72 {s : State} {args : Array Value} (hts : ∀ x ∈ wsX7_type, x.before args s = true) : CallB rmX7_type s args RX7 72 yX7_isWithin cX7_isWithin 3 (some .boolean) wsX7_isWithin rmX7_isWithin 0 0 3 ∧ (Cond.static yX7_isWithin).before args s = true := va_cwS 3 hts gX7_type_X7_isWithin rfl rfl rfl (by decide +kernel) ⟨Nat.le_of_ble_eq_true rfl, Nat.le_of_ble_eq_true rfl⟩
theorem cw_X7_type_X6_append_76 {s : State} {args : Array Value} {D : va_G} {cI cZ cR : ClassId} (hE : EV D cI cZ cR s) (hts : ∀ x ∈ wsX7_type, x.before args s = true) : va_CN rmX7_type s args RX7 76 yX6_append "RainShelves" cX6_append 2 (some .boolean) wsX6_append rmX6_append 0 0 1 ∧ (Cond.instanceMethod yX6_append).before args s = true ∧ (Cond.selects RX6 yX6_append yX6_append).before args s = true := ⟨va_cnB 1 hts gX7_type_X6_append_n76 rfl rfl rfl (hE.nm 9 rfl) (hts (.initialized RX6) (List.mem_of_getElem? (i := 7) rfl)) (by decide +kernel) ⟨Nat.le_of_ble_eq_true rfl, Nat.le_of_ble_eq_true rfl⟩, hts (.instanceMethod yX6_append) (List.mem_of_getElem? (i := 6) rfl), hts (.selects RX6 yX6_append yX6_append) (List.mem_of_getElem? (i := 8) rfl)⟩
set_option maxRecDepth 100000 in
set_option maxHeartbeats 4000000 in
theorem c_X7_type (l : Launch) (D : va_G) (cI cZ cR : ClassId) (a_x : Nat) (a_text : Nat) (a_text_letters : Nat) (a_house : Nat) (a_rain : Nat) (a_hist : Nat) (a_img_arr : Nat) (a_kept : Nat) (a_told : Nat) (a_sets : Nat) (a_frost : Nat) (a_draft : Nat) (x_traced : Int64) (text_length : Int32) (text_leastTold : Int32) (text_shelfTold : Int32) (text_place : Int32) (text_token : Int32) (text_start : Int32) (text_number : Int32) (text_letters : Nat → Int32) (v1 : Int32) (out : Int32 × Int32 × (Nat → Int32)) (hf : f_X7_type text_length text_letters v1 = some out) : Ci l yX7_type wsX7_type rmX7_type D cI cZ cR [.ref a_x, .int v1] [(a_x, .inr (7, [.ref a_house, .ref a_text, .ref a_rain, .ref a_hist, .ref a_img_arr, .ref a_kept, .ref a_told, .ref a_sets, .ref a_frost, .long x_traced])), (a_text, .inr (6, [.ref a_text_letters, .int text_length, .ref a_draft, .int text_leastTold, .int text_shelfTold, .int text_place, .int text_token, .int text_start, .int text_number])), (a_text_letters, .inl (cI, 200, .inl text_letters))] out.1 [(a_x, .inr (7, [.ref a_house, .ref a_text, .ref a_rain, .ref a_hist, .ref a_img_arr, .ref a_kept, .ref a_told, .ref a_sets, .ref a_frost, .long x_traced])), (a_text, .inr (6, [.ref a_text_letters, .int out.2.1, .ref a_draft, .int text_leastTold, .int text_shelfTold, .int text_place, .int text_token, .int text_start, .int text_number])), (a_text_letters, .inl (cI, 200, .inl out.2.2))] := by
  refine ent_i (cc := cX7_type) (maxL := 2) .int (by decide) rfl (Nat.le_of_ble_eq_true rfl) ?_
  intro p e s m below meth c A Q hx hb hml hown hts hE hA hP hD hS hret ls hl
  have hown : s.vm.findClass RX7 = some m.cls := hown
  have hl : lv_has ls 2 [(0, .ref a_x), (1, .int v1)] := hl
  have fL19 := hts (.fieldLink RX7 19 "RainShelves" "text" "LRainShelves$Text;") (List.mem_of_getElem? (i := 1) rfl)
  have fL80 : (Cond.fieldLinkNest RX7 80 "RainShelves$Text" "length" "I" "RainShelves").before ([.ref a_x, .int v1] : List Value).toArray s = true := hE.nf 17 rfl
  unfold f_X7_type at hf
  refine lv_iload_n hx hb dX7_type_0 rfl (lv_at hl 1 rfl) ?_
  refine lv_iconst (v := 0) hx hb dX7_type_1 (by decide) ?_
  refine lv_sipush (v := 255) hx hb dX7_type_2 (by decide) ?_
  obtain ⟨u1, hu1, hf⟩ := bd_some hf
  refine cl_iS (As := [.int v1, .int 0, .int 255]) (rest := []) ⟨hx, hb, hml, hown, hts⟩ (c_X7_isWithin l D cI cZ cR   v1 0 255 u1 hu1) (cw_X7_type_X7_isWithin_72 hts) hE hP hD hS hA rfl hl.1 rfl (Nat.le_of_ble_eq_true rfl) dX7_type_5 ⟨Nat.zero_le _, Nat.zero_le _⟩ (fun H locs hP hS => ?_)
  refine lv_if_ne (tgt := 13) hx hb dX7_type_8 (by decide) (fun hc1 => ?_) (fun hc1 => ?_)
  · have hf := if_f hf hc1
    refine lv_aload_n hx hb dX7_type_13 rfl (lv_at hl 0 rfl) ?_
    refine va_get (D := D) (ci := 7) (v := .ref a_text) (C := RX7) (T := TX7) (N := 10) hx hb hts hiX7_type_7 hown hE.1 hP 0 rfl rfl 1 (by decide) fL19 (fun _ h9 => h9) rfl dX7_type_14 ?_
    refine lv_iload_n hx hb dX7_type_17 rfl (lv_at hl 1 rfl) ?_
    obtain ⟨u2, hu2, hf⟩ := bd_some hf
    refine cl_iN (As := [.int v1]) (rest := []) ⟨hx, hb, hml, hown, hts⟩ (c_X6_append l D cI cZ cR a_text a_text_letters a_draft text_length text_leastTold text_shelfTold text_place text_token text_start text_number text_letters v1 u2 hu2) (cw_X7_type_X6_append_76 hE hts) hE hP hD hS hA [1, 2] rfl rfl [a_text, a_text_letters] rfl rfl 1 6 rfl rfl rfl hl.1 rfl (Nat.le_of_ble_eq_true rfl) dX7_type_18 ⟨Nat.zero_le _, Nat.zero_le _⟩ (fun H locs hP hD hS => ?_)
    have hPD : PD D A [(a_x, .inr (7, [.ref a_house, .ref a_text, .ref a_rain, .ref a_hist, .ref a_img_arr, .ref a_kept, .ref a_told, .ref a_sets, .ref a_frost, .long x_traced])), (a_text, .inr (6, [.ref a_text_letters, .int u2.2.1, .ref a_draft, .int text_leastTold, .int text_shelfTold, .int text_place, .int text_token, .int text_start, .int text_number])), (a_text_letters, .inl (cI, 200, .inl u2.2.2))] H := ⟨hP, hD⟩
    obtain ⟨hP, hD⟩ := hPD
    refine lv_if_eq (tgt := 34) hx hb dX7_type_21 (by decide) (fun hc2 => ?_) (fun hc2 => ?_)
    · have hf := if_t hf hc2
      refine lv_bipush (v := (-3)) hx hb dX7_type_34 (by decide) ?_
      have he := Option.some.inj hf
      subst he
      exact hret _ _ _ _ dX7_type_36 rfl hP hD hS
    · have hf := if_f hf hc2
      refine lv_aload_n hx hb dX7_type_24 rfl (lv_at hl 0 rfl) ?_
      refine va_get (D := D) (ci := 7) (v := .ref a_text) (C := RX7) (T := TX7) (N := 10) hx hb hts hiX7_type_7 hown hE.1 hP 0 rfl rfl 1 (by decide) fL19 (fun _ h9 => h9) rfl dX7_type_25 ?_
      refine va_getN (D := D) (ci := 6) (v := .int u2.2.1) (C := RX6) (T := TX6) (N := 9) hx hb hts hiX7_type_6 hown hE.1 hP 1 rfl rfl 1 (by decide) fL80 (fun _ h9 => h9) rfl dX7_type_28 ?_
      refine lv_goto (tgt := 36) hx hb dX7_type_31 (by decide) ?_
      have he := Option.some.inj hf
      subst he
      exact hret _ _ _ _ dX7_type_36 rfl hP hD hS
  · have hf := if_t hf hc1
    refine lv_iconst (v := (-1)) hx hb dX7_type_11 (by decide) ?_
    have he := Option.some.inj hf
    subst he
    exact hret _ _ _ _ dX7_type_12 rfl hP hD hS
abbrev rmX7_clear : Room := { frames := 0, cells := 0, slots := 0, locals := 0 }
theorem hiX7_clear_6 : ∀ w ∈ wsX60, w ∈ wsX7_clear := fun w h => (goodIn_r (big := wsX7_clear) wsX60 [12, 13, 14, 15, 16, 17, 18, 19, 20] rfl (by decide +kernel) w h).1
theorem hiX7_clear_7 : ∀ w ∈ wsX70, w ∈ wsX7_clear := fun w h => (goodIn_r (big := wsX7_clear) wsX70 [2, 3, 4, 5, 6, 7, 8, 9, 10, 11] rfl (by decide +kernel) w h).1
set_option maxRecDepth 100000 in
set_option maxHeartbeats 4000000 in
theorem c_X7_clear (l : Launch) (D : va_G) (cI cZ cR : ClassId) (a_x : Nat) (a_text : Nat) (a_house : Nat) (a_rain : Nat) (a_hist : Nat) (a_img_arr : Nat) (a_kept : Nat) (a_told : Nat) (a_sets : Nat) (a_frost : Nat) (a_text_letters : Nat) (a_draft : Nat) (x_traced : Int64) (text_length : Int32) (text_leastTold : Int32) (text_shelfTold : Int32) (text_place : Int32) (text_token : Int32) (text_start : Int32) (text_number : Int32) (out : Int32 × Int32) (hf : f_X7_clear text_length = some out) : Ci l yX7_clear wsX7_clear rmX7_clear D cI cZ cR [.ref a_x] [(a_x, .inr (7, [.ref a_house, .ref a_text, .ref a_rain, .ref a_hist, .ref a_img_arr, .ref a_kept, .ref a_told, .ref a_sets, .ref a_frost, .long x_traced])), (a_text, .inr (6, [.ref a_text_letters, .int text_length, .ref a_draft, .int text_leastTold, .int text_shelfTold, .int text_place, .int text_token, .int text_start, .int text_number]))] out.1 [(a_x, .inr (7, [.ref a_house, .ref a_text, .ref a_rain, .ref a_hist, .ref a_img_arr, .ref a_kept, .ref a_told, .ref a_sets, .ref a_frost, .long x_traced])), (a_text, .inr (6, [.ref a_text_letters, .int out.2, .ref a_draft, .int text_leastTold, .int text_shelfTold, .int text_place, .int text_token, .int text_start, .int text_number]))] := by
  refine ent_i (cc := cX7_clear) (maxL := 2) .int (by decide) rfl (Nat.le_of_ble_eq_true rfl) ?_
  intro p e s m below meth c A Q hx hb hml hown hts hE hA hP hD hS hret ls hl
  have hown : s.vm.findClass RX7 = some m.cls := hown
  have hl : lv_has ls 2 [(0, .ref a_x)] := hl
  have fL19 := hts (.fieldLink RX7 19 "RainShelves" "text" "LRainShelves$Text;") (List.mem_of_getElem? (i := 1) rfl)
  have fL80 : (Cond.fieldLinkNest RX7 80 "RainShelves$Text" "length" "I" "RainShelves").before ([.ref a_x] : List Value).toArray s = true := hE.nf 17 rfl
  unfold f_X7_clear at hf
  refine lv_aload_n hx hb dX7_clear_0 rfl (lv_at hl 0 rfl) ?_
  refine va_get (D := D) (ci := 7) (v := .ref a_text) (C := RX7) (T := TX7) (N := 10) hx hb hts hiX7_clear_7 hown hE.1 hP 0 rfl rfl 1 (by decide) fL19 (fun _ h9 => h9) rfl dX7_clear_1 ?_
  refine va_getN (D := D) (ci := 6) (v := .int text_length) (C := RX6) (T := TX6) (N := 9) hx hb hts hiX7_clear_6 hown hE.1 hP 1 rfl rfl 1 (by decide) fL80 (fun _ h9 => h9) rfl dX7_clear_4 ?_
  refine lv_istore_n (lv' := [(1, .int text_length), (0, .ref a_x)]) hx hb dX7_clear_7 rfl hl (by decide) rfl (fun ls hl => ?_)
  refine lv_aload_n hx hb dX7_clear_8 rfl (lv_at hl 1 rfl) ?_
  refine va_get (D := D) (ci := 7) (v := .ref a_text) (C := RX7) (T := TX7) (N := 10) hx hb hts hiX7_clear_7 hown hE.1 hP 0 rfl rfl 1 (by decide) fL19 (fun _ h9 => h9) rfl dX7_clear_9 ?_
  refine lv_iconst (v := 0) hx hb dX7_clear_12 (by decide) ?_
  refine va_putN (D := D) (ci := 6) (v := .int 0) (ty := .int) (C := RX6) (T := TX6) (N := 9) hx hb hts hiX7_clear_6 tyX6 tyX6_ok nmX6 hown hE.1 hP hD hS 1 rfl rfl 1 (by decide) fL80 (fun _ h9 => h9) rfl (tyX6_ok 1 (by decide)) rfl rfl (Nat.le_of_ble_eq_true rfl) dX7_clear_13 (fun H locs hP hD hS => ?_)
  have hPD : PD D A [(a_x, .inr (7, [.ref a_house, .ref a_text, .ref a_rain, .ref a_hist, .ref a_img_arr, .ref a_kept, .ref a_told, .ref a_sets, .ref a_frost, .long x_traced])), (a_text, .inr (6, [.ref a_text_letters, .int 0, .ref a_draft, .int text_leastTold, .int text_shelfTold, .int text_place, .int text_token, .int text_start, .int text_number]))] H := ⟨hP, hD⟩
  obtain ⟨hP, hD⟩ := hPD
  refine lv_iload_n hx hb dX7_clear_16 rfl (lv_at hl 0 rfl) ?_
  have he := Option.some.inj hf
  subst he
  exact hret _ _ _ _ dX7_clear_17 rfl hP hD hS
abbrev rmX7_pan : Room := { frames := 4, cells := 0, slots := 0, locals := 93 }
theorem hiX7_pan_2 : ∀ w ∈ wsX20, w ∈ wsX7_pan := fun w h => (goodIn_r (big := wsX7_pan) wsX20 [48, 49, 50, 51, 52, 53, 54, 55] rfl (by decide +kernel) w h).1
theorem hiX7_pan_7 : ∀ w ∈ wsX70, w ∈ wsX7_pan := fun w h => (goodIn_r (big := wsX7_pan) wsX70 [38, 39, 40, 41, 42, 43, 44, 45, 46, 47] rfl (by decide +kernel) w h).1
theorem cw_X7_pan_X2_has_103 {s : State} {args : Array Value} {D : va_G} {cI cZ cR : ClassId} (hE : EV D cI cZ cR s) (hts : ∀ x ∈ wsX7_pan, x.before args s = true) : va_CN rmX7_pan s args RX7 103 yX2_has "RainShelves" cX2_has 2 (some .boolean) wsX2_has rmX2_has 0 0 1 ∧ (Cond.instanceMethod yX2_has).before args s = true ∧ (Cond.selects RX2 yX2_has yX2_has).before args s = true := ⟨va_cnB 1 hts gX7_pan_X2_has_n103 rfl rfl rfl (hE.nm 15 rfl) (hts (.initialized RX2) (List.mem_of_getElem? (i := 4) rfl)) (by decide +kernel) ⟨Nat.le_of_ble_eq_true rfl, Nat.le_of_ble_eq_true rfl⟩, hts (.instanceMethod yX2_has) (List.mem_of_getElem? (i := 3) rfl), hts (.selects RX2 yX2_has yX2_has) (List.mem_of_getElem? (i := 5) rfl)⟩
theorem cw_X7_pan_X4_inPan_116 {s : State} {args : Array Value} {D : va_G} {cI cZ cR : ClassId} (hE : EV D cI cZ cR s) (hts : ∀ x ∈ wsX7_pan, x.before args s = true) : va_CN rmX7_pan s args RX7 116 yX4_inPan "RainShelves" cX4_inPan 4 (some .int) wsX4_inPan rmX4_inPan 0 0 1 ∧ (Cond.instanceMethod yX4_inPan).before args s = true ∧ (Cond.selects RX4 yX4_inPan yX4_inPan).before args s = true := ⟨va_cnB 1 hts gX7_pan_X4_inPan_n116 rfl rfl rfl (hE.nm 16 rfl) (hts (.initialized RX4) (List.mem_of_getElem? (i := 9) rfl)) (by decide +kernel) ⟨Nat.le_of_ble_eq_true rfl, Nat.le_of_ble_eq_true rfl⟩, hts (.instanceMethod yX4_inPan) (List.mem_of_getElem? (i := 8) rfl), hts (.selects RX4 yX4_inPan yX4_inPan) (List.mem_of_getElem? (i := 10) rfl)⟩
theorem cw_X7_pan_X4_canBeRead_120 {s : State} {args : Array Value} {D : va_G} {cI cZ cR : ClassId} (hE : EV D cI cZ cR s) (hts : ∀ x ∈ wsX7_pan, x.before args s = true) : va_CN rmX7_pan s args RX7 120 yX4_canBeRead "RainShelves" cX4_canBeRead 2 (some .boolean) wsX4_canBeRead rmX4_canBeRead 0 0 1 ∧ (Cond.instanceMethod yX4_canBeRead).before args s = true ∧ (Cond.selects RX4 yX4_canBeRead yX4_canBeRead).before args s = true := ⟨va_cnB 1 hts gX7_pan_X4_canBeRead_n120 rfl rfl rfl (hE.nm 17 rfl) (hts (.initialized RX4) (List.mem_of_getElem? (i := 9) rfl)) (by decide +kernel) ⟨Nat.le_of_ble_eq_true rfl, Nat.le_of_ble_eq_true rfl⟩, hts (.instanceMethod yX4_canBeRead) (List.mem_of_getElem? (i := 21) rfl), hts (.selects RX4 yX4_canBeRead yX4_canBeRead) (List.mem_of_getElem? (i := 22) rfl)⟩
theorem cw_X7_pan_X4_tasteOf_123 {s : State} {args : Array Value} {D : va_G} {cI cZ cR : ClassId} (hE : EV D cI cZ cR s) (hts : ∀ x ∈ wsX7_pan, x.before args s = true) : va_CN rmX7_pan s args RX7 123 yX4_tasteOf "RainShelves" cX4_tasteOf 4 (some .int) wsX4_tasteOf rmX4_tasteOf 0 0 1 ∧ (Cond.instanceMethod yX4_tasteOf).before args s = true ∧ (Cond.selects RX4 yX4_tasteOf yX4_tasteOf).before args s = true := ⟨va_cnB 1 hts gX7_pan_X4_tasteOf_n123 rfl rfl rfl (hE.nm 18 rfl) (hts (.initialized RX4) (List.mem_of_getElem? (i := 9) rfl)) (by decide +kernel) ⟨Nat.le_of_ble_eq_true rfl, Nat.le_of_ble_eq_true rfl⟩, hts (.instanceMethod yX4_tasteOf) (List.mem_of_getElem? (i := 32) rfl), hts (.selects RX4 yX4_tasteOf yX4_tasteOf) (List.mem_of_getElem? (i := 33) rfl)⟩
theorem cw_X7_pan_X4_whereIs_126 {s : State} {args : Array Value} {D : va_G} {cI cZ cR : ClassId} (hE : EV D cI cZ cR s) (hts : ∀ x ∈ wsX7_pan, x.before args s = true) : va_CN rmX7_pan s args RX7 126 yX4_whereIs "RainShelves" cX4_whereIs 4 (some .int) wsX4_whereIs rmX4_whereIs 0 0 1 ∧ (Cond.instanceMethod yX4_whereIs).before args s = true ∧ (Cond.selects RX4 yX4_whereIs yX4_whereIs).before args s = true := ⟨va_cnB 1 hts gX7_pan_X4_whereIs_n126 rfl rfl rfl (hE.nm 19 rfl) (hts (.initialized RX4) (List.mem_of_getElem? (i := 9) rfl)) (by decide +kernel) ⟨Nat.le_of_ble_eq_true rfl, Nat.le_of_ble_eq_true rfl⟩, hts (.instanceMethod yX4_whereIs) (List.mem_of_getElem? (i := 35) rfl), hts (.selects RX4 yX4_whereIs yX4_whereIs) (List.mem_of_getElem? (i := 36) rfl)⟩
set_option maxRecDepth 100000 in
set_option maxHeartbeats 4000000 in
theorem c_X7_pan (l : Launch) (D : va_G) (cI cZ cR : ClassId) (a_x : Nat) (a_house : Nat) (a_rain : Nat) (a_rain_spoons : Nat) (a_house_years : Nat) (a_house_shrinks : Nat) (a_house_byAge : Nat) (a_house_sorts : Nat) (a_text : Nat) (a_hist : Nat) (a_img_arr : Nat) (a_kept : Nat) (a_told : Nat) (a_sets : Nat) (a_frost : Nat) (a_house_spoons : Nat) (x_traced : Int64) (house_pans : Int32) (house_least : Int32) (house_shelf : Int32) (rain_springs : Int32) (rain_lost : Int32) (rain_spoons : Nat → Int32) (house_years : Nat → Int32) (house_shrinks : Nat → Int32) (house_byAge : Nat → Int32) (house_sorts : Nat → Int32) (v1 : Int32) (v2 : Int32) (out : Int32) (hf : f_X7_pan house_pans house_least rain_spoons house_years house_shrinks house_byAge house_sorts v1 v2 = some out) : Ci l yX7_pan wsX7_pan rmX7_pan D cI cZ cR [.ref a_x, .int v1, .int v2] [(a_x, .inr (7, [.ref a_house, .ref a_text, .ref a_rain, .ref a_hist, .ref a_img_arr, .ref a_kept, .ref a_told, .ref a_sets, .ref a_frost, .long x_traced])), (a_house, .inr (2, [.int house_pans, .int house_least, .int house_shelf, .ref a_house_years, .ref a_house_spoons, .ref a_house_shrinks, .ref a_house_sorts, .ref a_house_byAge])), (a_rain, .inr (4, [.ref a_house, .ref a_rain_spoons, .int rain_springs, .int rain_lost])), (a_rain_spoons, .inl (cI, 49, .inl rain_spoons)), (a_house_years, .inl (cI, 7, .inl house_years)), (a_house_shrinks, .inl (cI, 7, .inl house_shrinks)), (a_house_byAge, .inl (cI, 7, .inl house_byAge)), (a_house_sorts, .inl (cI, 7, .inl house_sorts))] out [(a_x, .inr (7, [.ref a_house, .ref a_text, .ref a_rain, .ref a_hist, .ref a_img_arr, .ref a_kept, .ref a_told, .ref a_sets, .ref a_frost, .long x_traced])), (a_house, .inr (2, [.int house_pans, .int house_least, .int house_shelf, .ref a_house_years, .ref a_house_spoons, .ref a_house_shrinks, .ref a_house_sorts, .ref a_house_byAge])), (a_rain, .inr (4, [.ref a_house, .ref a_rain_spoons, .int rain_springs, .int rain_lost])), (a_rain_spoons, .inl (cI, 49, .inl rain_spoons)), (a_house_years, .inl (cI, 7, .inl house_years)), (a_house_shrinks, .inl (cI, 7, .inl house_shrinks)), (a_house_byAge, .inl (cI, 7, .inl house_byAge)), (a_house_sorts, .inl (cI, 7, .inl house_sorts))] := by
  refine ent_i (cc := cX7_pan) (maxL := 3) .int (by decide) rfl (Nat.le_of_ble_eq_true rfl) ?_
  intro p e s m below meth c A Q hx hb hml hown hts hE hA hP hD hS hret ls hl
  have hown : s.vm.findClass RX7 = some m.cls := hown
  have hl : lv_has ls 3 [(0, .ref a_x), (1, .int v1), (2, .int v2)] := hl
  have fL10 := hts (.fieldLink RX7 10 "RainShelves" "house" "LRainShelves$House;") (List.mem_of_getElem? (i := 1) rfl)
  have fL28 := hts (.fieldLink RX7 28 "RainShelves" "rain" "LRainShelves$Rain;") (List.mem_of_getElem? (i := 2) rfl)
  have fL106 : (Cond.fieldLinkNest RX7 106 "RainShelves$House" "years" "[I" "RainShelves").before ([.ref a_x, .int v1, .int v2] : List Value).toArray s = true := hE.nf 10 rfl
  have fL110 : (Cond.fieldLinkNest RX7 110 "RainShelves$House" "shrinks" "[I" "RainShelves").before ([.ref a_x, .int v1, .int v2] : List Value).toArray s = true := hE.nf 13 rfl
  have fL113 : (Cond.fieldLinkNest RX7 113 "RainShelves$House" "sorts" "[I" "RainShelves").before ([.ref a_x, .int v1, .int v2] : List Value).toArray s = true := hE.nf 15 rfl
  unfold f_X7_pan at hf
  refine lv_aload_n hx hb dX7_pan_0 rfl (lv_at hl 0 rfl) ?_
  refine va_get (D := D) (ci := 7) (v := .ref a_house) (C := RX7) (T := TX7) (N := 10) hx hb hts hiX7_pan_7 hown hE.1 hP 0 rfl rfl 0 (by decide) fL10 (fun _ h9 => h9) rfl dX7_pan_1 ?_
  refine lv_iload_n hx hb dX7_pan_4 rfl (lv_at hl 1 rfl) ?_
  obtain ⟨u1, hu1, hf⟩ := bd_some hf
  refine cl_iN (As := [.int v1]) (rest := []) ⟨hx, hb, hml, hown, hts⟩ (c_X2_has l D cI cZ cR a_house a_house_years a_house_spoons a_house_shrinks a_house_sorts a_house_byAge house_pans house_least house_shelf v1 u1 hu1) (cw_X7_pan_X2_has_103 hE hts) hE hP hD hS hA [1] rfl rfl [a_house] rfl rfl 1 2 rfl rfl rfl hl.1 rfl (Nat.le_of_ble_eq_true rfl) dX7_pan_5 ⟨Nat.zero_le _, Nat.zero_le _⟩ (fun H locs hP hD hS => ?_)
  have hPD : PD D A [(a_x, .inr (7, [.ref a_house, .ref a_text, .ref a_rain, .ref a_hist, .ref a_img_arr, .ref a_kept, .ref a_told, .ref a_sets, .ref a_frost, .long x_traced])), (a_house, .inr (2, [.int house_pans, .int house_least, .int house_shelf, .ref a_house_years, .ref a_house_spoons, .ref a_house_shrinks, .ref a_house_sorts, .ref a_house_byAge])), (a_rain, .inr (4, [.ref a_house, .ref a_rain_spoons, .int rain_springs, .int rain_lost])), (a_rain_spoons, .inl (cI, 49, .inl rain_spoons)), (a_house_years, .inl (cI, 7, .inl house_years)), (a_house_shrinks, .inl (cI, 7, .inl house_shrinks)), (a_house_byAge, .inl (cI, 7, .inl house_byAge)), (a_house_sorts, .inl (cI, 7, .inl house_sorts))] H := ⟨hP, hD⟩
  obtain ⟨hP, hD⟩ := hPD
  refine lv_if_ne (tgt := 13) hx hb dX7_pan_8 (by decide) (fun hc1 => ?_) (fun hc1 => ?_)
  · have hf := if_f hf hc1
    refine lv_iload_n hx hb dX7_pan_13 rfl (lv_at hl 2 rfl) ?_
    by_cases hc2 : v2 = 0
    · have hf := if_t hf hc2
      refine lv_tableIn (off := 42) (tgt := 56) hx hb dX7_pan_14 (by rw [hc2]; decide) (by rw [hc2]; decide) (by rw [hc2]; rfl) (by decide) ?_
      refine lv_aload_n hx hb dX7_pan_56 rfl (lv_at hl 0 rfl) ?_
      refine va_get (D := D) (ci := 7) (v := .ref a_house) (C := RX7) (T := TX7) (N := 10) hx hb hts hiX7_pan_7 hown hE.1 hP 0 rfl rfl 0 (by decide) fL10 (fun _ h9 => h9) rfl dX7_pan_57 ?_
      refine va_getN (D := D) (ci := 2) (v := .ref a_house_years) (C := RX2) (T := TX2) (N := 8) hx hb hts hiX7_pan_2 hown hE.1 hP 1 rfl rfl 3 (by decide) fL106 (fun _ h9 => h9) rfl dX7_pan_60 ?_
      refine lv_iload_n hx hb dX7_pan_63 rfl (lv_at hl 1 rfl) ?_
      obtain ⟨hc3, hf⟩ := ck_some hf
      refine va_iald hx hb hE.1 hP 4 0 rfl rfl (ix_in hc3) dX7_pan_64 ?_
      have he := Option.some.inj hf
      subst he
      exact hret _ _ _ _ dX7_pan_65 rfl hP hD hS
    have hf := if_f hf hc2
    by_cases hc4 : v2 = 1
    · have hf := if_t hf hc4
      refine lv_tableIn (off := 52) (tgt := 66) hx hb dX7_pan_14 (by rw [hc4]; decide) (by rw [hc4]; decide) (by rw [hc4]; rfl) (by decide) ?_
      refine lv_aload_n hx hb dX7_pan_66 rfl (lv_at hl 0 rfl) ?_
      refine va_get (D := D) (ci := 7) (v := .ref a_house) (C := RX7) (T := TX7) (N := 10) hx hb hts hiX7_pan_7 hown hE.1 hP 0 rfl rfl 0 (by decide) fL10 (fun _ h9 => h9) rfl dX7_pan_67 ?_
      refine va_getN (D := D) (ci := 2) (v := .ref a_house_shrinks) (C := RX2) (T := TX2) (N := 8) hx hb hts hiX7_pan_2 hown hE.1 hP 1 rfl rfl 5 (by decide) fL110 (fun _ h9 => h9) rfl dX7_pan_70 ?_
      refine lv_iload_n hx hb dX7_pan_73 rfl (lv_at hl 1 rfl) ?_
      obtain ⟨hc5, hf⟩ := ck_some hf
      refine va_iald hx hb hE.1 hP 5 0 rfl rfl (ix_in hc5) dX7_pan_74 ?_
      have he := Option.some.inj hf
      subst he
      exact hret _ _ _ _ dX7_pan_75 rfl hP hD hS
    have hf := if_f hf hc4
    by_cases hc6 : v2 = 2
    · have hf := if_t hf hc6
      refine lv_tableIn (off := 62) (tgt := 76) hx hb dX7_pan_14 (by rw [hc6]; decide) (by rw [hc6]; decide) (by rw [hc6]; rfl) (by decide) ?_
      refine lv_aload_n hx hb dX7_pan_76 rfl (lv_at hl 0 rfl) ?_
      refine va_get (D := D) (ci := 7) (v := .ref a_house) (C := RX7) (T := TX7) (N := 10) hx hb hts hiX7_pan_7 hown hE.1 hP 0 rfl rfl 0 (by decide) fL10 (fun _ h9 => h9) rfl dX7_pan_77 ?_
      refine va_getN (D := D) (ci := 2) (v := .ref a_house_sorts) (C := RX2) (T := TX2) (N := 8) hx hb hts hiX7_pan_2 hown hE.1 hP 1 rfl rfl 6 (by decide) fL113 (fun _ h9 => h9) rfl dX7_pan_80 ?_
      refine lv_iload_n hx hb dX7_pan_83 rfl (lv_at hl 1 rfl) ?_
      obtain ⟨hc7, hf⟩ := ck_some hf
      refine va_iald hx hb hE.1 hP 7 0 rfl rfl (ix_in hc7) dX7_pan_84 ?_
      have he := Option.some.inj hf
      subst he
      exact hret _ _ _ _ dX7_pan_85 rfl hP hD hS
    have hf := if_f hf hc6
    by_cases hc8 : v2 = 3
    · have hf := if_t hf hc8
      refine lv_tableIn (off := 72) (tgt := 86) hx hb dX7_pan_14 (by rw [hc8]; decide) (by rw [hc8]; decide) (by rw [hc8]; rfl) (by decide) ?_
      refine lv_aload_n hx hb dX7_pan_86 rfl (lv_at hl 0 rfl) ?_
      refine va_get (D := D) (ci := 7) (v := .ref a_rain) (C := RX7) (T := TX7) (N := 10) hx hb hts hiX7_pan_7 hown hE.1 hP 0 rfl rfl 2 (by decide) fL28 (fun _ h9 => h9) rfl dX7_pan_87 ?_
      refine lv_iload_n hx hb dX7_pan_90 rfl (lv_at hl 1 rfl) ?_
      obtain ⟨u2, hu2, hf⟩ := bd_some hf
      refine cl_iN (As := [.int v1]) (rest := []) ⟨hx, hb, hml, hown, hts⟩ (c_X4_inPan l D cI cZ cR a_rain a_house a_rain_spoons a_house_years a_house_spoons a_house_shrinks a_house_sorts a_house_byAge rain_springs rain_lost house_pans house_least house_shelf rain_spoons v1 u2 hu2) (cw_X7_pan_X4_inPan_116 hE hts) hE hP hD hS hA [2, 1, 3] rfl rfl [a_rain, a_house, a_rain_spoons] rfl rfl 2 4 rfl rfl rfl hl.1 rfl (Nat.le_of_ble_eq_true rfl) dX7_pan_91 ⟨Nat.zero_le _, Nat.zero_le _⟩ (fun H locs hP hD hS => ?_)
      have hPD : PD D A [(a_x, .inr (7, [.ref a_house, .ref a_text, .ref a_rain, .ref a_hist, .ref a_img_arr, .ref a_kept, .ref a_told, .ref a_sets, .ref a_frost, .long x_traced])), (a_house, .inr (2, [.int house_pans, .int house_least, .int house_shelf, .ref a_house_years, .ref a_house_spoons, .ref a_house_shrinks, .ref a_house_sorts, .ref a_house_byAge])), (a_rain, .inr (4, [.ref a_house, .ref a_rain_spoons, .int rain_springs, .int rain_lost])), (a_rain_spoons, .inl (cI, 49, .inl rain_spoons)), (a_house_years, .inl (cI, 7, .inl house_years)), (a_house_shrinks, .inl (cI, 7, .inl house_shrinks)), (a_house_byAge, .inl (cI, 7, .inl house_byAge)), (a_house_sorts, .inl (cI, 7, .inl house_sorts))] H := ⟨hP, hD⟩
      obtain ⟨hP, hD⟩ := hPD
      have he := Option.some.inj hf
      subst he
      exact hret _ _ _ _ dX7_pan_94 rfl hP hD hS
    have hf := if_f hf hc8
    by_cases hc9 : v2 = 4
    · have hf := if_t hf hc9
      refine lv_tableIn (off := 81) (tgt := 95) hx hb dX7_pan_14 (by rw [hc9]; decide) (by rw [hc9]; decide) (by rw [hc9]; rfl) (by decide) ?_
      refine lv_aload_n hx hb dX7_pan_95 rfl (lv_at hl 0 rfl) ?_
      refine va_get (D := D) (ci := 7) (v := .ref a_rain) (C := RX7) (T := TX7) (N := 10) hx hb hts hiX7_pan_7 hown hE.1 hP 0 rfl rfl 2 (by decide) fL28 (fun _ h9 => h9) rfl dX7_pan_96 ?_
      refine lv_iload_n hx hb dX7_pan_99 rfl (lv_at hl 1 rfl) ?_
      obtain ⟨u3, hu3, hf⟩ := bd_some hf
      refine cl_iN (As := [.int v1]) (rest := []) ⟨hx, hb, hml, hown, hts⟩ (c_X4_canBeRead l D cI cZ cR a_rain a_house a_house_shrinks a_house_byAge a_rain_spoons a_house_years a_house_spoons a_house_sorts rain_springs rain_lost house_pans house_least house_shelf house_shrinks house_byAge rain_spoons v1 u3 hu3) (cw_X7_pan_X4_canBeRead_120 hE hts) hE hP hD hS hA [2, 1, 5, 6, 3] rfl rfl [a_rain, a_house, a_house_shrinks, a_house_byAge, a_rain_spoons] rfl rfl 2 4 rfl rfl rfl hl.1 rfl (Nat.le_of_ble_eq_true rfl) dX7_pan_100 ⟨Nat.zero_le _, Nat.zero_le _⟩ (fun H locs hP hD hS => ?_)
      have hPD : PD D A [(a_x, .inr (7, [.ref a_house, .ref a_text, .ref a_rain, .ref a_hist, .ref a_img_arr, .ref a_kept, .ref a_told, .ref a_sets, .ref a_frost, .long x_traced])), (a_house, .inr (2, [.int house_pans, .int house_least, .int house_shelf, .ref a_house_years, .ref a_house_spoons, .ref a_house_shrinks, .ref a_house_sorts, .ref a_house_byAge])), (a_rain, .inr (4, [.ref a_house, .ref a_rain_spoons, .int rain_springs, .int rain_lost])), (a_rain_spoons, .inl (cI, 49, .inl rain_spoons)), (a_house_years, .inl (cI, 7, .inl house_years)), (a_house_shrinks, .inl (cI, 7, .inl house_shrinks)), (a_house_byAge, .inl (cI, 7, .inl house_byAge)), (a_house_sorts, .inl (cI, 7, .inl house_sorts))] H := ⟨hP, hD⟩
      obtain ⟨hP, hD⟩ := hPD
      refine lv_if_eq (tgt := 110) hx hb dX7_pan_103 (by decide) (fun hc10 => ?_) (fun hc10 => ?_)
      · have hf := if_t hf hc10
        refine lv_iconst (v := 0) hx hb dX7_pan_110 (by decide) ?_
        have he := Option.some.inj hf
        subst he
        exact hret _ _ _ _ dX7_pan_111 rfl hP hD hS
      · have hf := if_f hf hc10
        refine lv_iconst (v := 1) hx hb dX7_pan_106 (by decide) ?_
        refine lv_goto (tgt := 111) hx hb dX7_pan_107 (by decide) ?_
        have he := Option.some.inj hf
        subst he
        exact hret _ _ _ _ dX7_pan_111 rfl hP hD hS
    have hf := if_f hf hc9
    by_cases hc11 : v2 = 5
    · have hf := if_t hf hc11
      refine lv_tableIn (off := 98) (tgt := 112) hx hb dX7_pan_14 (by rw [hc11]; decide) (by rw [hc11]; decide) (by rw [hc11]; rfl) (by decide) ?_
      refine lv_aload_n hx hb dX7_pan_112 rfl (lv_at hl 0 rfl) ?_
      refine va_get (D := D) (ci := 7) (v := .ref a_rain) (C := RX7) (T := TX7) (N := 10) hx hb hts hiX7_pan_7 hown hE.1 hP 0 rfl rfl 2 (by decide) fL28 (fun _ h9 => h9) rfl dX7_pan_113 ?_
      refine lv_iload_n hx hb dX7_pan_116 rfl (lv_at hl 1 rfl) ?_
      obtain ⟨u4, hu4, hf⟩ := bd_some hf
      refine cl_iN (As := [.int v1]) (rest := []) ⟨hx, hb, hml, hown, hts⟩ (c_X4_tasteOf l D cI cZ cR a_rain a_house a_rain_spoons a_house_years a_house_spoons a_house_shrinks a_house_sorts a_house_byAge rain_springs rain_lost house_pans house_least house_shelf rain_spoons house_years v1 u4 hu4) (cw_X7_pan_X4_tasteOf_123 hE hts) hE hP hD hS hA [2, 1, 3, 4] rfl rfl [a_rain, a_house, a_rain_spoons, a_house_years] rfl rfl 2 4 rfl rfl rfl hl.1 rfl (Nat.le_of_ble_eq_true rfl) dX7_pan_117 ⟨Nat.zero_le _, Nat.zero_le _⟩ (fun H locs hP hD hS => ?_)
      have hPD : PD D A [(a_x, .inr (7, [.ref a_house, .ref a_text, .ref a_rain, .ref a_hist, .ref a_img_arr, .ref a_kept, .ref a_told, .ref a_sets, .ref a_frost, .long x_traced])), (a_house, .inr (2, [.int house_pans, .int house_least, .int house_shelf, .ref a_house_years, .ref a_house_spoons, .ref a_house_shrinks, .ref a_house_sorts, .ref a_house_byAge])), (a_rain, .inr (4, [.ref a_house, .ref a_rain_spoons, .int rain_springs, .int rain_lost])), (a_rain_spoons, .inl (cI, 49, .inl rain_spoons)), (a_house_years, .inl (cI, 7, .inl house_years)), (a_house_shrinks, .inl (cI, 7, .inl house_shrinks)), (a_house_byAge, .inl (cI, 7, .inl house_byAge)), (a_house_sorts, .inl (cI, 7, .inl house_sorts))] H := ⟨hP, hD⟩
      obtain ⟨hP, hD⟩ := hPD
      have he := Option.some.inj hf
      subst he
      exact hret _ _ _ _ dX7_pan_120 rfl hP hD hS
    have hf := if_f hf hc11
    by_cases hc12 : v2 = 6
    · have hf := if_t hf hc12
      refine lv_tableIn (off := 107) (tgt := 121) hx hb dX7_pan_14 (by rw [hc12]; decide) (by rw [hc12]; decide) (by rw [hc12]; rfl) (by decide) ?_
      refine lv_aload_n hx hb dX7_pan_121 rfl (lv_at hl 0 rfl) ?_
      refine va_get (D := D) (ci := 7) (v := .ref a_rain) (C := RX7) (T := TX7) (N := 10) hx hb hts hiX7_pan_7 hown hE.1 hP 0 rfl rfl 2 (by decide) fL28 (fun _ h9 => h9) rfl dX7_pan_122 ?_
      refine lv_iload_n hx hb dX7_pan_125 rfl (lv_at hl 1 rfl) ?_
      obtain ⟨u5, hu5, hf⟩ := bd_some hf
      refine cl_iN (As := [.int v1]) (rest := []) ⟨hx, hb, hml, hown, hts⟩ (c_X4_whereIs l D cI cZ cR a_rain a_house a_rain_spoons a_house_years a_house_spoons a_house_shrinks a_house_sorts a_house_byAge rain_springs rain_lost house_pans house_least house_shelf rain_spoons v1 u5 hu5) (cw_X7_pan_X4_whereIs_126 hE hts) hE hP hD hS hA [2, 1, 3] rfl rfl [a_rain, a_house, a_rain_spoons] rfl rfl 2 4 rfl rfl rfl hl.1 rfl (Nat.le_of_ble_eq_true rfl) dX7_pan_126 ⟨Nat.zero_le _, Nat.zero_le _⟩ (fun H locs hP hD hS => ?_)
      have hPD : PD D A [(a_x, .inr (7, [.ref a_house, .ref a_text, .ref a_rain, .ref a_hist, .ref a_img_arr, .ref a_kept, .ref a_told, .ref a_sets, .ref a_frost, .long x_traced])), (a_house, .inr (2, [.int house_pans, .int house_least, .int house_shelf, .ref a_house_years, .ref a_house_spoons, .ref a_house_shrinks, .ref a_house_sorts, .ref a_house_byAge])), (a_rain, .inr (4, [.ref a_house, .ref a_rain_spoons, .int rain_springs, .int rain_lost])), (a_rain_spoons, .inl (cI, 49, .inl rain_spoons)), (a_house_years, .inl (cI, 7, .inl house_years)), (a_house_shrinks, .inl (cI, 7, .inl house_shrinks)), (a_house_byAge, .inl (cI, 7, .inl house_byAge)), (a_house_sorts, .inl (cI, 7, .inl house_sorts))] H := ⟨hP, hD⟩
      obtain ⟨hP, hD⟩ := hPD
      have he := Option.some.inj hf
      subst he
      exact hret _ _ _ _ dX7_pan_129 rfl hP hD hS
    have hf := if_f hf hc12
    refine lv_tableOut (tgt := 130) hx hb dX7_pan_14 (by have q0 : ¬ (v2).toInt = 0 := fun e => hc2 (Int32.toInt_inj.mp (e.trans (by decide))); have q1 : ¬ (v2).toInt = 1 := fun e => hc4 (Int32.toInt_inj.mp (e.trans (by decide))); have q2 : ¬ (v2).toInt = 2 := fun e => hc6 (Int32.toInt_inj.mp (e.trans (by decide))); have q3 : ¬ (v2).toInt = 3 := fun e => hc8 (Int32.toInt_inj.mp (e.trans (by decide))); have q4 : ¬ (v2).toInt = 4 := fun e => hc9 (Int32.toInt_inj.mp (e.trans (by decide))); have q5 : ¬ (v2).toInt = 5 := fun e => hc11 (Int32.toInt_inj.mp (e.trans (by decide))); have q6 : ¬ (v2).toInt = 6 := fun e => hc12 (Int32.toInt_inj.mp (e.trans (by decide))); omega) (by decide) ?_
    refine lv_iconst (v := (-1)) hx hb dX7_pan_130 (by decide) ?_
    have he := Option.some.inj hf
    subst he
    exact hret _ _ _ _ dX7_pan_131 rfl hP hD hS
  · have hf := if_t hf hc1
    refine lv_iconst (v := (-1)) hx hb dX7_pan_11 (by decide) ?_
    have he := Option.some.inj hf
    subst he
    exact hret _ _ _ _ dX7_pan_12 rfl hP hD hS
abbrev rmX7_holds : Room := { frames := 2, cells := 0, slots := 0, locals := 43 }
theorem hiX7_holds_7 : ∀ w ∈ wsX70, w ∈ wsX7_holds := fun w h => (goodIn_r (big := wsX7_holds) wsX70 [16, 17, 18, 19, 20, 21, 22, 23, 24, 25] rfl (by decide +kernel) w h).1
theorem cw_X7_holds_X2_has_103 {s : State} {args : Array Value} {D : va_G} {cI cZ cR : ClassId} (hE : EV D cI cZ cR s) (hts : ∀ x ∈ wsX7_holds, x.before args s = true) : va_CN rmX7_holds s args RX7 103 yX2_has "RainShelves" cX2_has 2 (some .boolean) wsX2_has rmX2_has 0 0 1 ∧ (Cond.instanceMethod yX2_has).before args s = true ∧ (Cond.selects RX2 yX2_has yX2_has).before args s = true := ⟨va_cnB 1 hts gX7_holds_X2_has_n103 rfl rfl rfl (hE.nm 15 rfl) (hts (.initialized RX2) (List.mem_of_getElem? (i := 4) rfl)) (by decide +kernel) ⟨Nat.le_of_ble_eq_true rfl, Nat.le_of_ble_eq_true rfl⟩, hts (.instanceMethod yX2_has) (List.mem_of_getElem? (i := 3) rfl), hts (.selects RX2 yX2_has yX2_has) (List.mem_of_getElem? (i := 5) rfl)⟩
theorem cw_X7_holds_X4_amount_129 {s : State} {args : Array Value} {D : va_G} {cI cZ cR : ClassId} (hE : EV D cI cZ cR s) (hts : ∀ x ∈ wsX7_holds, x.before args s = true) : va_CN rmX7_holds s args RX7 129 yX4_amount "RainShelves" cX4_amount 3 (some .int) wsX4_amount rmX4_amount 0 0 2 ∧ (Cond.instanceMethod yX4_amount).before args s = true ∧ (Cond.selects RX4 yX4_amount yX4_amount).before args s = true := ⟨va_cnB 2 hts gX7_holds_X4_amount_n129 rfl rfl rfl (hE.nm 20 rfl) (hts (.initialized RX4) (List.mem_of_getElem? (i := 9) rfl)) (by decide +kernel) ⟨Nat.le_of_ble_eq_true rfl, Nat.le_of_ble_eq_true rfl⟩, hts (.instanceMethod yX4_amount) (List.mem_of_getElem? (i := 8) rfl), hts (.selects RX4 yX4_amount yX4_amount) (List.mem_of_getElem? (i := 10) rfl)⟩
set_option maxRecDepth 100000 in
set_option maxHeartbeats 4000000 in
theorem c_X7_holds (l : Launch) (D : va_G) (cI cZ cR : ClassId) (a_x : Nat) (a_house : Nat) (a_rain : Nat) (a_rain_spoons : Nat) (a_text : Nat) (a_hist : Nat) (a_img_arr : Nat) (a_kept : Nat) (a_told : Nat) (a_sets : Nat) (a_frost : Nat) (a_house_years : Nat) (a_house_spoons : Nat) (a_house_shrinks : Nat) (a_house_sorts : Nat) (a_house_byAge : Nat) (x_traced : Int64) (house_pans : Int32) (house_least : Int32) (house_shelf : Int32) (rain_springs : Int32) (rain_lost : Int32) (rain_spoons : Nat → Int32) (v1 : Int32) (v2 : Int32) (out : Int32) (hf : f_X7_holds house_pans rain_spoons v1 v2 = some out) : Ci l yX7_holds wsX7_holds rmX7_holds D cI cZ cR [.ref a_x, .int v1, .int v2] [(a_x, .inr (7, [.ref a_house, .ref a_text, .ref a_rain, .ref a_hist, .ref a_img_arr, .ref a_kept, .ref a_told, .ref a_sets, .ref a_frost, .long x_traced])), (a_house, .inr (2, [.int house_pans, .int house_least, .int house_shelf, .ref a_house_years, .ref a_house_spoons, .ref a_house_shrinks, .ref a_house_sorts, .ref a_house_byAge])), (a_rain, .inr (4, [.ref a_house, .ref a_rain_spoons, .int rain_springs, .int rain_lost])), (a_rain_spoons, .inl (cI, 49, .inl rain_spoons))] out [(a_x, .inr (7, [.ref a_house, .ref a_text, .ref a_rain, .ref a_hist, .ref a_img_arr, .ref a_kept, .ref a_told, .ref a_sets, .ref a_frost, .long x_traced])), (a_house, .inr (2, [.int house_pans, .int house_least, .int house_shelf, .ref a_house_years, .ref a_house_spoons, .ref a_house_shrinks, .ref a_house_sorts, .ref a_house_byAge])), (a_rain, .inr (4, [.ref a_house, .ref a_rain_spoons, .int rain_springs, .int rain_lost])), (a_rain_spoons, .inl (cI, 49, .inl rain_spoons))] := by
  refine ent_i (cc := cX7_holds) (maxL := 3) .int (by decide) rfl (Nat.le_of_ble_eq_true rfl) ?_
  intro p e s m below meth c A Q hx hb hml hown hts hE hA hP hD hS hret ls hl
  have hown : s.vm.findClass RX7 = some m.cls := hown
  have hl : lv_has ls 3 [(0, .ref a_x), (1, .int v1), (2, .int v2)] := hl
  have fL10 := hts (.fieldLink RX7 10 "RainShelves" "house" "LRainShelves$House;") (List.mem_of_getElem? (i := 1) rfl)
  have fL28 := hts (.fieldLink RX7 28 "RainShelves" "rain" "LRainShelves$Rain;") (List.mem_of_getElem? (i := 2) rfl)
  unfold f_X7_holds at hf
  refine lv_aload_n hx hb dX7_holds_0 rfl (lv_at hl 0 rfl) ?_
  refine va_get (D := D) (ci := 7) (v := .ref a_house) (C := RX7) (T := TX7) (N := 10) hx hb hts hiX7_holds_7 hown hE.1 hP 0 rfl rfl 0 (by decide) fL10 (fun _ h9 => h9) rfl dX7_holds_1 ?_
  refine lv_iload_n hx hb dX7_holds_4 rfl (lv_at hl 1 rfl) ?_
  obtain ⟨u1, hu1, hf⟩ := bd_some hf
  refine cl_iN (As := [.int v1]) (rest := []) ⟨hx, hb, hml, hown, hts⟩ (c_X2_has l D cI cZ cR a_house a_house_years a_house_spoons a_house_shrinks a_house_sorts a_house_byAge house_pans house_least house_shelf v1 u1 hu1) (cw_X7_holds_X2_has_103 hE hts) hE hP hD hS hA [1] rfl rfl [a_house] rfl rfl 1 2 rfl rfl rfl hl.1 rfl (Nat.le_of_ble_eq_true rfl) dX7_holds_5 ⟨Nat.zero_le _, Nat.zero_le _⟩ (fun H locs hP hD hS => ?_)
  have hPD : PD D A [(a_x, .inr (7, [.ref a_house, .ref a_text, .ref a_rain, .ref a_hist, .ref a_img_arr, .ref a_kept, .ref a_told, .ref a_sets, .ref a_frost, .long x_traced])), (a_house, .inr (2, [.int house_pans, .int house_least, .int house_shelf, .ref a_house_years, .ref a_house_spoons, .ref a_house_shrinks, .ref a_house_sorts, .ref a_house_byAge])), (a_rain, .inr (4, [.ref a_house, .ref a_rain_spoons, .int rain_springs, .int rain_lost])), (a_rain_spoons, .inl (cI, 49, .inl rain_spoons))] H := ⟨hP, hD⟩
  obtain ⟨hP, hD⟩ := hPD
  refine lv_if_eq (tgt := 22) hx hb dX7_holds_8 (by decide) (fun hc1 => ?_) (fun hc1 => ?_)
  · have hf := if_t hf hc1
    refine lv_iconst (v := (-1)) hx hb dX7_holds_22 (by decide) ?_
    have he := Option.some.inj hf
    subst he
    exact hret _ _ _ _ dX7_holds_23 rfl hP hD hS
  · have hf := if_f hf hc1
    refine lv_aload_n hx hb dX7_holds_11 rfl (lv_at hl 0 rfl) ?_
    refine va_get (D := D) (ci := 7) (v := .ref a_house) (C := RX7) (T := TX7) (N := 10) hx hb hts hiX7_holds_7 hown hE.1 hP 0 rfl rfl 0 (by decide) fL10 (fun _ h9 => h9) rfl dX7_holds_12 ?_
    refine lv_iload_n hx hb dX7_holds_15 rfl (lv_at hl 2 rfl) ?_
    obtain ⟨u2, hu2, hf⟩ := bd_some hf
    refine cl_iN (As := [.int v2]) (rest := []) ⟨hx, hb, hml, hown, hts⟩ (c_X2_has l D cI cZ cR a_house a_house_years a_house_spoons a_house_shrinks a_house_sorts a_house_byAge house_pans house_least house_shelf v2 u2 hu2) (cw_X7_holds_X2_has_103 hE hts) hE hP hD hS hA [1] rfl rfl [a_house] rfl rfl 1 2 rfl rfl rfl hl.1 rfl (Nat.le_of_ble_eq_true rfl) dX7_holds_16 ⟨Nat.zero_le _, Nat.zero_le _⟩ (fun H locs hP hD hS => ?_)
    have hPD : PD D A [(a_x, .inr (7, [.ref a_house, .ref a_text, .ref a_rain, .ref a_hist, .ref a_img_arr, .ref a_kept, .ref a_told, .ref a_sets, .ref a_frost, .long x_traced])), (a_house, .inr (2, [.int house_pans, .int house_least, .int house_shelf, .ref a_house_years, .ref a_house_spoons, .ref a_house_shrinks, .ref a_house_sorts, .ref a_house_byAge])), (a_rain, .inr (4, [.ref a_house, .ref a_rain_spoons, .int rain_springs, .int rain_lost])), (a_rain_spoons, .inl (cI, 49, .inl rain_spoons))] H := ⟨hP, hD⟩
    obtain ⟨hP, hD⟩ := hPD
    refine lv_if_ne (tgt := 24) hx hb dX7_holds_19 (by decide) (fun hc2 => ?_) (fun hc2 => ?_)
    · have hf := if_f hf hc2
      refine lv_aload_n hx hb dX7_holds_24 rfl (lv_at hl 0 rfl) ?_
      refine va_get (D := D) (ci := 7) (v := .ref a_rain) (C := RX7) (T := TX7) (N := 10) hx hb hts hiX7_holds_7 hown hE.1 hP 0 rfl rfl 2 (by decide) fL28 (fun _ h9 => h9) rfl dX7_holds_25 ?_
      refine lv_iload_n hx hb dX7_holds_28 rfl (lv_at hl 1 rfl) ?_
      refine lv_iload_n hx hb dX7_holds_29 rfl (lv_at hl 2 rfl) ?_
      obtain ⟨u3, hu3, hf⟩ := bd_some hf
      refine cl_iN (As := [.int v1, .int v2]) (rest := []) ⟨hx, hb, hml, hown, hts⟩ (c_X4_amount l D cI cZ cR a_rain a_rain_spoons a_house rain_springs rain_lost rain_spoons v1 v2 u3 hu3) (cw_X7_holds_X4_amount_129 hE hts) hE hP hD hS hA [2, 3] rfl rfl [a_rain, a_rain_spoons] rfl rfl 2 4 rfl rfl rfl hl.1 rfl (Nat.le_of_ble_eq_true rfl) dX7_holds_30 ⟨Nat.zero_le _, Nat.zero_le _⟩ (fun H locs hP hD hS => ?_)
      have hPD : PD D A [(a_x, .inr (7, [.ref a_house, .ref a_text, .ref a_rain, .ref a_hist, .ref a_img_arr, .ref a_kept, .ref a_told, .ref a_sets, .ref a_frost, .long x_traced])), (a_house, .inr (2, [.int house_pans, .int house_least, .int house_shelf, .ref a_house_years, .ref a_house_spoons, .ref a_house_shrinks, .ref a_house_sorts, .ref a_house_byAge])), (a_rain, .inr (4, [.ref a_house, .ref a_rain_spoons, .int rain_springs, .int rain_lost])), (a_rain_spoons, .inl (cI, 49, .inl rain_spoons))] H := ⟨hP, hD⟩
      obtain ⟨hP, hD⟩ := hPD
      have he := Option.some.inj hf
      subst he
      exact hret _ _ _ _ dX7_holds_33 rfl hP hD hS
    · have hf := if_t hf hc2
      refine lv_iconst (v := (-1)) hx hb dX7_holds_22 (by decide) ?_
      have he := Option.some.inj hf
      subst he
      exact hret _ _ _ _ dX7_holds_23 rfl hP hD hS
abbrev rmX7_now : Room := { frames := 5, cells := 0, slots := 0, locals := 115 }
theorem hiX7_now_1 : ∀ w ∈ wsX10, w ∈ wsX7_now := fun w h => (goodIn_r (big := wsX7_now) wsX10 [56, 57, 58] rfl (by decide +kernel) w h).1
theorem hiX7_now_4 : ∀ w ∈ wsX40, w ∈ wsX7_now := fun w h => (goodIn_r (big := wsX7_now) wsX40 [52, 53, 54, 55] rfl (by decide +kernel) w h).1
theorem hiX7_now_7 : ∀ w ∈ wsX70, w ∈ wsX7_now := fun w h => (goodIn_r (big := wsX7_now) wsX70 [42, 43, 44, 45, 46, 47, 48, 49, 50, 51] rfl (by decide +kernel) w h).1
theorem cw_X7_now_X4_inAll_139 {s : State} {args : Array Value} {D : va_G} {cI cZ cR : ClassId} (hE : EV D cI cZ cR s) (hts : ∀ x ∈ wsX7_now, x.before args s = true) : va_CN rmX7_now s args RX7 139 yX4_inAll "RainShelves" cX4_inAll 3 (some .int) wsX4_inAll rmX4_inAll 0 0 0 ∧ (Cond.instanceMethod yX4_inAll).before args s = true ∧ (Cond.selects RX4 yX4_inAll yX4_inAll).before args s = true := ⟨va_cnB 0 hts gX7_now_X4_inAll_n139 rfl rfl rfl (hE.nm 21 rfl) (hts (.initialized RX4) (List.mem_of_getElem? (i := 4) rfl)) (by decide +kernel) ⟨Nat.le_of_ble_eq_true rfl, Nat.le_of_ble_eq_true rfl⟩, hts (.instanceMethod yX4_inAll) (List.mem_of_getElem? (i := 3) rfl), hts (.selects RX4 yX4_inAll yX4_inAll) (List.mem_of_getElem? (i := 5) rfl)⟩
theorem cw_X7_now_X4_readable_142 {s : State} {args : Array Value} {D : va_G} {cI cZ cR : ClassId} (hE : EV D cI cZ cR s) (hts : ∀ x ∈ wsX7_now, x.before args s = true) : va_CN rmX7_now s args RX7 142 yX4_readable "RainShelves" cX4_readable 3 (some .int) wsX4_readable rmX4_readable 0 0 0 ∧ (Cond.instanceMethod yX4_readable).before args s = true ∧ (Cond.selects RX4 yX4_readable yX4_readable).before args s = true := ⟨va_cnB 0 hts gX7_now_X4_readable_n142 rfl rfl rfl (hE.nm 22 rfl) (hts (.initialized RX4) (List.mem_of_getElem? (i := 4) rfl)) (by decide +kernel) ⟨Nat.le_of_ble_eq_true rfl, Nat.le_of_ble_eq_true rfl⟩, hts (.instanceMethod yX4_readable) (List.mem_of_getElem? (i := 20) rfl), hts (.selects RX4 yX4_readable yX4_readable) (List.mem_of_getElem? (i := 21) rfl)⟩
theorem cw_X7_now_X4_wettest_145 {s : State} {args : Array Value} {D : va_G} {cI cZ cR : ClassId} (hE : EV D cI cZ cR s) (hts : ∀ x ∈ wsX7_now, x.before args s = true) : va_CN rmX7_now s args RX7 145 yX4_wettest "RainShelves" cX4_wettest 6 (some .int) wsX4_wettest rmX4_wettest 0 0 0 ∧ (Cond.instanceMethod yX4_wettest).before args s = true ∧ (Cond.selects RX4 yX4_wettest yX4_wettest).before args s = true := ⟨va_cnB 0 hts gX7_now_X4_wettest_n145 rfl rfl rfl (hE.nm 23 rfl) (hts (.initialized RX4) (List.mem_of_getElem? (i := 4) rfl)) (by decide +kernel) ⟨Nat.le_of_ble_eq_true rfl, Nat.le_of_ble_eq_true rfl⟩, hts (.instanceMethod yX4_wettest) (List.mem_of_getElem? (i := 35) rfl), hts (.selects RX4 yX4_wettest yX4_wettest) (List.mem_of_getElem? (i := 36) rfl)⟩
set_option maxRecDepth 100000 in
set_option maxHeartbeats 4000000 in
theorem c_X7_now (l : Launch) (D : va_G) (cI cZ cR : ClassId) (a_x : Nat) (a_hist : Nat) (a_rain : Nat) (a_house : Nat) (a_house_byAge : Nat) (a_house_years : Nat) (a_rain_spoons : Nat) (a_house_shrinks : Nat) (a_text : Nat) (a_img_arr : Nat) (a_kept : Nat) (a_told : Nat) (a_sets : Nat) (a_frost : Nat) (a_hist_rows : Nat) (a_house_spoons : Nat) (a_house_sorts : Nat) (x_traced : Int64) (hist_known : Int32) (hist_next : Int32) (rain_springs : Int32) (rain_lost : Int32) (house_pans : Int32) (house_least : Int32) (house_shelf : Int32) (house_byAge : Nat → Int32) (house_years : Nat → Int32) (rain_spoons : Nat → Int32) (house_shrinks : Nat → Int32) (v1 : Int32) (out : Int32) (hf : f_X7_now hist_known rain_springs rain_lost house_pans house_least house_byAge house_years rain_spoons house_shrinks v1 = some out) : Ci l yX7_now wsX7_now rmX7_now D cI cZ cR [.ref a_x, .int v1] [(a_x, .inr (7, [.ref a_house, .ref a_text, .ref a_rain, .ref a_hist, .ref a_img_arr, .ref a_kept, .ref a_told, .ref a_sets, .ref a_frost, .long x_traced])), (a_hist, .inr (1, [.ref a_hist_rows, .int hist_known, .int hist_next])), (a_rain, .inr (4, [.ref a_house, .ref a_rain_spoons, .int rain_springs, .int rain_lost])), (a_house, .inr (2, [.int house_pans, .int house_least, .int house_shelf, .ref a_house_years, .ref a_house_spoons, .ref a_house_shrinks, .ref a_house_sorts, .ref a_house_byAge])), (a_house_byAge, .inl (cI, 7, .inl house_byAge)), (a_house_years, .inl (cI, 7, .inl house_years)), (a_rain_spoons, .inl (cI, 49, .inl rain_spoons)), (a_house_shrinks, .inl (cI, 7, .inl house_shrinks))] out [(a_x, .inr (7, [.ref a_house, .ref a_text, .ref a_rain, .ref a_hist, .ref a_img_arr, .ref a_kept, .ref a_told, .ref a_sets, .ref a_frost, .long x_traced])), (a_hist, .inr (1, [.ref a_hist_rows, .int hist_known, .int hist_next])), (a_rain, .inr (4, [.ref a_house, .ref a_rain_spoons, .int rain_springs, .int rain_lost])), (a_house, .inr (2, [.int house_pans, .int house_least, .int house_shelf, .ref a_house_years, .ref a_house_spoons, .ref a_house_shrinks, .ref a_house_sorts, .ref a_house_byAge])), (a_house_byAge, .inl (cI, 7, .inl house_byAge)), (a_house_years, .inl (cI, 7, .inl house_years)), (a_rain_spoons, .inl (cI, 49, .inl rain_spoons)), (a_house_shrinks, .inl (cI, 7, .inl house_shrinks))] := by
  refine ent_i (cc := cX7_now) (maxL := 2) .int (by decide) rfl (Nat.le_of_ble_eq_true rfl) ?_
  intro p e s m below meth c A Q hx hb hml hown hts hE hA hP hD hS hret ls hl
  have hown : s.vm.findClass RX7 = some m.cls := hown
  have hl : lv_has ls 2 [(0, .ref a_x), (1, .int v1)] := hl
  have fL28 := hts (.fieldLink RX7 28 "RainShelves" "rain" "LRainShelves$Rain;") (List.mem_of_getElem? (i := 1) rfl)
  have fL35 := hts (.fieldLink RX7 35 "RainShelves" "history" "LRainShelves$History;") (List.mem_of_getElem? (i := 2) rfl)
  have fL97 : (Cond.fieldLinkNest RX7 97 "RainShelves$History" "known" "I" "RainShelves").before ([.ref a_x, .int v1] : List Value).toArray s = true := hE.nf 21 rfl
  have fL133 : (Cond.fieldLinkNest RX7 133 "RainShelves$Rain" "springs" "I" "RainShelves").before ([.ref a_x, .int v1] : List Value).toArray s = true := hE.nf 19 rfl
  have fL136 : (Cond.fieldLinkNest RX7 136 "RainShelves$Rain" "lost" "I" "RainShelves").before ([.ref a_x, .int v1] : List Value).toArray s = true := hE.nf 20 rfl
  unfold f_X7_now at hf
  refine lv_iload_n hx hb dX7_now_0 rfl (lv_at hl 1 rfl) ?_
  by_cases hc1 : v1 = 0
  · have hf := if_t hf hc1
    refine lv_tableIn (off := 39) (tgt := 40) hx hb dX7_now_1 (by rw [hc1]; decide) (by rw [hc1]; decide) (by rw [hc1]; rfl) (by decide) ?_
    refine lv_aload_n hx hb dX7_now_40 rfl (lv_at hl 0 rfl) ?_
    refine va_get (D := D) (ci := 7) (v := .ref a_rain) (C := RX7) (T := TX7) (N := 10) hx hb hts hiX7_now_7 hown hE.1 hP 0 rfl rfl 2 (by decide) fL28 (fun _ h9 => h9) rfl dX7_now_41 ?_
    refine va_getN (D := D) (ci := 4) (v := .int rain_springs) (C := RX4) (T := TX4) (N := 4) hx hb hts hiX7_now_4 hown hE.1 hP 2 rfl rfl 2 (by decide) fL133 (fun _ h9 => h9) rfl dX7_now_44 ?_
    have he := Option.some.inj hf
    subst he
    exact hret _ _ _ _ dX7_now_47 rfl hP hD hS
  have hf := if_f hf hc1
  by_cases hc2 : v1 = 1
  · have hf := if_t hf hc2
    refine lv_tableIn (off := 47) (tgt := 48) hx hb dX7_now_1 (by rw [hc2]; decide) (by rw [hc2]; decide) (by rw [hc2]; rfl) (by decide) ?_
    refine lv_aload_n hx hb dX7_now_48 rfl (lv_at hl 0 rfl) ?_
    refine va_get (D := D) (ci := 7) (v := .ref a_rain) (C := RX7) (T := TX7) (N := 10) hx hb hts hiX7_now_7 hown hE.1 hP 0 rfl rfl 2 (by decide) fL28 (fun _ h9 => h9) rfl dX7_now_49 ?_
    refine va_getN (D := D) (ci := 4) (v := .int rain_lost) (C := RX4) (T := TX4) (N := 4) hx hb hts hiX7_now_4 hown hE.1 hP 2 rfl rfl 3 (by decide) fL136 (fun _ h9 => h9) rfl dX7_now_52 ?_
    have he := Option.some.inj hf
    subst he
    exact hret _ _ _ _ dX7_now_55 rfl hP hD hS
  have hf := if_f hf hc2
  by_cases hc3 : v1 = 2
  · have hf := if_t hf hc3
    refine lv_tableIn (off := 55) (tgt := 56) hx hb dX7_now_1 (by rw [hc3]; decide) (by rw [hc3]; decide) (by rw [hc3]; rfl) (by decide) ?_
    refine lv_aload_n hx hb dX7_now_56 rfl (lv_at hl 0 rfl) ?_
    refine va_get (D := D) (ci := 7) (v := .ref a_rain) (C := RX7) (T := TX7) (N := 10) hx hb hts hiX7_now_7 hown hE.1 hP 0 rfl rfl 2 (by decide) fL28 (fun _ h9 => h9) rfl dX7_now_57 ?_
    obtain ⟨u1, hu1, hf⟩ := bd_some hf
    refine cl_iN (As := []) (rest := []) ⟨hx, hb, hml, hown, hts⟩ (c_X4_inAll l D cI cZ cR a_rain a_house a_rain_spoons a_house_years a_house_spoons a_house_shrinks a_house_sorts a_house_byAge rain_springs rain_lost house_pans house_least house_shelf rain_spoons  u1 hu1) (cw_X7_now_X4_inAll_139 hE hts) hE hP hD hS hA [2, 3, 6] rfl rfl [a_rain, a_house, a_rain_spoons] rfl rfl 2 4 rfl rfl rfl hl.1 rfl (Nat.le_of_ble_eq_true rfl) dX7_now_60 ⟨Nat.zero_le _, Nat.zero_le _⟩ (fun H locs hP hD hS => ?_)
    have hPD : PD D A [(a_x, .inr (7, [.ref a_house, .ref a_text, .ref a_rain, .ref a_hist, .ref a_img_arr, .ref a_kept, .ref a_told, .ref a_sets, .ref a_frost, .long x_traced])), (a_hist, .inr (1, [.ref a_hist_rows, .int hist_known, .int hist_next])), (a_rain, .inr (4, [.ref a_house, .ref a_rain_spoons, .int rain_springs, .int rain_lost])), (a_house, .inr (2, [.int house_pans, .int house_least, .int house_shelf, .ref a_house_years, .ref a_house_spoons, .ref a_house_shrinks, .ref a_house_sorts, .ref a_house_byAge])), (a_house_byAge, .inl (cI, 7, .inl house_byAge)), (a_house_years, .inl (cI, 7, .inl house_years)), (a_rain_spoons, .inl (cI, 49, .inl rain_spoons)), (a_house_shrinks, .inl (cI, 7, .inl house_shrinks))] H := ⟨hP, hD⟩
    obtain ⟨hP, hD⟩ := hPD
    have he := Option.some.inj hf
    subst he
    exact hret _ _ _ _ dX7_now_63 rfl hP hD hS
  have hf := if_f hf hc3
  by_cases hc4 : v1 = 3
  · have hf := if_t hf hc4
    refine lv_tableIn (off := 63) (tgt := 64) hx hb dX7_now_1 (by rw [hc4]; decide) (by rw [hc4]; decide) (by rw [hc4]; rfl) (by decide) ?_
    refine lv_aload_n hx hb dX7_now_64 rfl (lv_at hl 0 rfl) ?_
    refine va_get (D := D) (ci := 7) (v := .ref a_rain) (C := RX7) (T := TX7) (N := 10) hx hb hts hiX7_now_7 hown hE.1 hP 0 rfl rfl 2 (by decide) fL28 (fun _ h9 => h9) rfl dX7_now_65 ?_
    obtain ⟨u2, hu2, hf⟩ := bd_some hf
    refine cl_iN (As := []) (rest := []) ⟨hx, hb, hml, hown, hts⟩ (c_X4_readable l D cI cZ cR a_rain a_house a_house_shrinks a_house_byAge a_rain_spoons a_house_years a_house_spoons a_house_sorts rain_springs rain_lost house_pans house_least house_shelf house_shrinks house_byAge rain_spoons  u2 hu2) (cw_X7_now_X4_readable_142 hE hts) hE hP hD hS hA [2, 3, 7, 4, 6] rfl rfl [a_rain, a_house, a_house_shrinks, a_house_byAge, a_rain_spoons] rfl rfl 2 4 rfl rfl rfl hl.1 rfl (Nat.le_of_ble_eq_true rfl) dX7_now_68 ⟨Nat.zero_le _, Nat.zero_le _⟩ (fun H locs hP hD hS => ?_)
    have hPD : PD D A [(a_x, .inr (7, [.ref a_house, .ref a_text, .ref a_rain, .ref a_hist, .ref a_img_arr, .ref a_kept, .ref a_told, .ref a_sets, .ref a_frost, .long x_traced])), (a_hist, .inr (1, [.ref a_hist_rows, .int hist_known, .int hist_next])), (a_rain, .inr (4, [.ref a_house, .ref a_rain_spoons, .int rain_springs, .int rain_lost])), (a_house, .inr (2, [.int house_pans, .int house_least, .int house_shelf, .ref a_house_years, .ref a_house_spoons, .ref a_house_shrinks, .ref a_house_sorts, .ref a_house_byAge])), (a_house_byAge, .inl (cI, 7, .inl house_byAge)), (a_house_years, .inl (cI, 7, .inl house_years)), (a_rain_spoons, .inl (cI, 49, .inl rain_spoons)), (a_house_shrinks, .inl (cI, 7, .inl house_shrinks))] H := ⟨hP, hD⟩
    obtain ⟨hP, hD⟩ := hPD
    have he := Option.some.inj hf
    subst he
    exact hret _ _ _ _ dX7_now_71 rfl hP hD hS
  have hf := if_f hf hc4
  by_cases hc5 : v1 = 4
  · have hf := if_t hf hc5
    refine lv_tableIn (off := 71) (tgt := 72) hx hb dX7_now_1 (by rw [hc5]; decide) (by rw [hc5]; decide) (by rw [hc5]; rfl) (by decide) ?_
    refine lv_aload_n hx hb dX7_now_72 rfl (lv_at hl 0 rfl) ?_
    refine va_get (D := D) (ci := 7) (v := .ref a_rain) (C := RX7) (T := TX7) (N := 10) hx hb hts hiX7_now_7 hown hE.1 hP 0 rfl rfl 2 (by decide) fL28 (fun _ h9 => h9) rfl dX7_now_73 ?_
    obtain ⟨u3, hu3, hf⟩ := bd_some hf
    refine cl_iN (As := []) (rest := []) ⟨hx, hb, hml, hown, hts⟩ (c_X4_wettest l D cI cZ cR a_rain a_house a_house_byAge a_house_years a_rain_spoons a_house_spoons a_house_shrinks a_house_sorts rain_springs rain_lost house_pans house_least house_shelf house_byAge house_years rain_spoons  u3 hu3) (cw_X7_now_X4_wettest_145 hE hts) hE hP hD hS hA [2, 3, 4, 5, 6] rfl rfl [a_rain, a_house, a_house_byAge, a_house_years, a_rain_spoons] rfl rfl 2 4 rfl rfl rfl hl.1 rfl (Nat.le_of_ble_eq_true rfl) dX7_now_76 ⟨Nat.zero_le _, Nat.zero_le _⟩ (fun H locs hP hD hS => ?_)
    have hPD : PD D A [(a_x, .inr (7, [.ref a_house, .ref a_text, .ref a_rain, .ref a_hist, .ref a_img_arr, .ref a_kept, .ref a_told, .ref a_sets, .ref a_frost, .long x_traced])), (a_hist, .inr (1, [.ref a_hist_rows, .int hist_known, .int hist_next])), (a_rain, .inr (4, [.ref a_house, .ref a_rain_spoons, .int rain_springs, .int rain_lost])), (a_house, .inr (2, [.int house_pans, .int house_least, .int house_shelf, .ref a_house_years, .ref a_house_spoons, .ref a_house_shrinks, .ref a_house_sorts, .ref a_house_byAge])), (a_house_byAge, .inl (cI, 7, .inl house_byAge)), (a_house_years, .inl (cI, 7, .inl house_years)), (a_rain_spoons, .inl (cI, 49, .inl rain_spoons)), (a_house_shrinks, .inl (cI, 7, .inl house_shrinks))] H := ⟨hP, hD⟩
    obtain ⟨hP, hD⟩ := hPD
    have he := Option.some.inj hf
    subst he
    exact hret _ _ _ _ dX7_now_79 rfl hP hD hS
  have hf := if_f hf hc5
  by_cases hc6 : v1 = 5
  · have hf := if_t hf hc6
    refine lv_tableIn (off := 79) (tgt := 80) hx hb dX7_now_1 (by rw [hc6]; decide) (by rw [hc6]; decide) (by rw [hc6]; rfl) (by decide) ?_
    refine lv_aload_n hx hb dX7_now_80 rfl (lv_at hl 0 rfl) ?_
    refine va_get (D := D) (ci := 7) (v := .ref a_hist) (C := RX7) (T := TX7) (N := 10) hx hb hts hiX7_now_7 hown hE.1 hP 0 rfl rfl 3 (by decide) fL35 (fun _ h9 => h9) rfl dX7_now_81 ?_
    refine va_getN (D := D) (ci := 1) (v := .int hist_known) (C := RX1) (T := TX1) (N := 3) hx hb hts hiX7_now_1 hown hE.1 hP 1 rfl rfl 1 (by decide) fL97 (fun _ h9 => h9) rfl dX7_now_84 ?_
    have he := Option.some.inj hf
    subst he
    exact hret _ _ _ _ dX7_now_87 rfl hP hD hS
  have hf := if_f hf hc6
  refine lv_tableOut (tgt := 88) hx hb dX7_now_1 (by have q0 : ¬ (v1).toInt = 0 := fun e => hc1 (Int32.toInt_inj.mp (e.trans (by decide))); have q1 : ¬ (v1).toInt = 1 := fun e => hc2 (Int32.toInt_inj.mp (e.trans (by decide))); have q2 : ¬ (v1).toInt = 2 := fun e => hc3 (Int32.toInt_inj.mp (e.trans (by decide))); have q3 : ¬ (v1).toInt = 3 := fun e => hc4 (Int32.toInt_inj.mp (e.trans (by decide))); have q4 : ¬ (v1).toInt = 4 := fun e => hc5 (Int32.toInt_inj.mp (e.trans (by decide))); have q5 : ¬ (v1).toInt = 5 := fun e => hc6 (Int32.toInt_inj.mp (e.trans (by decide))); omega) (by decide) ?_
  refine lv_iconst (v := (-1)) hx hb dX7_now_88 (by decide) ?_
  have he := Option.some.inj hf
  subst he
  exact hret _ _ _ _ dX7_now_89 rfl hP hD hS
abbrev rmX7_lasts : Room := { frames := 3, cells := 0, slots := 0, locals := 72 }
theorem hiX7_lasts_7 : ∀ w ∈ wsX70, w ∈ wsX7_lasts := fun w h => (goodIn_r (big := wsX7_lasts) wsX70 [25, 26, 27, 28, 29, 30, 31, 32, 33, 34] rfl (by decide +kernel) w h).1
theorem cw_X7_lasts_X4_canBeReadIn_162 {s : State} {args : Array Value} {D : va_G} {cI cZ cR : ClassId} (hE : EV D cI cZ cR s) (hts : ∀ x ∈ wsX7_lasts, x.before args s = true) : va_CN rmX7_lasts s args RX7 162 yX4_canBeReadIn "RainShelves" cX4_canBeReadIn 10 (some .boolean) wsX4_canBeReadIn rmX4_canBeReadIn 0 0 2 ∧ (Cond.instanceMethod yX4_canBeReadIn).before args s = true ∧ (Cond.selects RX4 yX4_canBeReadIn yX4_canBeReadIn).before args s = true := ⟨va_cnB 2 hts gX7_lasts_X4_canBeReadIn_n162 rfl rfl rfl (hE.nm 29 rfl) (hts (.initialized RX4) (List.mem_of_getElem? (i := 9) rfl)) (by decide +kernel) ⟨Nat.le_of_ble_eq_true rfl, Nat.le_of_ble_eq_true rfl⟩, hts (.instanceMethod yX4_canBeReadIn) (List.mem_of_getElem? (i := 8) rfl), hts (.selects RX4 yX4_canBeReadIn yX4_canBeReadIn) (List.mem_of_getElem? (i := 10) rfl)⟩
theorem cw_X7_lasts_X2_has_103 {s : State} {args : Array Value} {D : va_G} {cI cZ cR : ClassId} (hE : EV D cI cZ cR s) (hts : ∀ x ∈ wsX7_lasts, x.before args s = true) : va_CN rmX7_lasts s args RX7 103 yX2_has "RainShelves" cX2_has 2 (some .boolean) wsX2_has rmX2_has 0 0 1 ∧ (Cond.instanceMethod yX2_has).before args s = true ∧ (Cond.selects RX2 yX2_has yX2_has).before args s = true := ⟨va_cnB 1 hts gX7_lasts_X2_has_n103 rfl rfl rfl (hE.nm 15 rfl) (hts (.initialized RX2) (List.mem_of_getElem? (i := 4) rfl)) (by decide +kernel) ⟨Nat.le_of_ble_eq_true rfl, Nat.le_of_ble_eq_true rfl⟩, hts (.instanceMethod yX2_has) (List.mem_of_getElem? (i := 3) rfl), hts (.selects RX2 yX2_has yX2_has) (List.mem_of_getElem? (i := 5) rfl)⟩
set_option maxRecDepth 100000 in
set_option maxHeartbeats 4000000 in
theorem c_X7_lasts (l : Launch) (D : va_G) (cI cZ cR : ClassId) (a_x : Nat) (a_house : Nat) (a_rain : Nat) (a_house_shrinks : Nat) (a_house_byAge : Nat) (a_rain_spoons : Nat) (a_text : Nat) (a_hist : Nat) (a_img_arr : Nat) (a_kept : Nat) (a_told : Nat) (a_sets : Nat) (a_frost : Nat) (a_house_years : Nat) (a_house_spoons : Nat) (a_house_sorts : Nat) (x_traced : Int64) (house_pans : Int32) (house_least : Int32) (house_shelf : Int32) (rain_springs : Int32) (rain_lost : Int32) (house_shrinks : Nat → Int32) (house_byAge : Nat → Int32) (rain_spoons : Nat → Int32) (v1 : Int32) (out : Int32) (hf : f_X7_lasts house_pans house_least house_shrinks house_byAge rain_spoons v1 = some out) : Ci l yX7_lasts wsX7_lasts rmX7_lasts D cI cZ cR [.ref a_x, .int v1] [(a_x, .inr (7, [.ref a_house, .ref a_text, .ref a_rain, .ref a_hist, .ref a_img_arr, .ref a_kept, .ref a_told, .ref a_sets, .ref a_frost, .long x_traced])), (a_house, .inr (2, [.int house_pans, .int house_least, .int house_shelf, .ref a_house_years, .ref a_house_spoons, .ref a_house_shrinks, .ref a_house_sorts, .ref a_house_byAge])), (a_rain, .inr (4, [.ref a_house, .ref a_rain_spoons, .int rain_springs, .int rain_lost])), (a_house_shrinks, .inl (cI, 7, .inl house_shrinks)), (a_house_byAge, .inl (cI, 7, .inl house_byAge)), (a_rain_spoons, .inl (cI, 49, .inl rain_spoons))] out [(a_x, .inr (7, [.ref a_house, .ref a_text, .ref a_rain, .ref a_hist, .ref a_img_arr, .ref a_kept, .ref a_told, .ref a_sets, .ref a_frost, .long x_traced])), (a_house, .inr (2, [.int house_pans, .int house_least, .int house_shelf, .ref a_house_years, .ref a_house_spoons, .ref a_house_shrinks, .ref a_house_sorts, .ref a_house_byAge])), (a_rain, .inr (4, [.ref a_house, .ref a_rain_spoons, .int rain_springs, .int rain_lost])), (a_house_shrinks, .inl (cI, 7, .inl house_shrinks)), (a_house_byAge, .inl (cI, 7, .inl house_byAge)), (a_rain_spoons, .inl (cI, 49, .inl rain_spoons))] := by
  refine ent_i (cc := cX7_lasts) (maxL := 3) .int (by decide) rfl (Nat.le_of_ble_eq_true rfl) ?_
  intro p e s m below meth c A Q hx hb hml hown hts hE hA hP hD hS hret ls hl
  have hown : s.vm.findClass RX7 = some m.cls := hown
  have hl : lv_has ls 3 [(0, .ref a_x), (1, .int v1)] := hl
  have fL10 := hts (.fieldLink RX7 10 "RainShelves" "house" "LRainShelves$House;") (List.mem_of_getElem? (i := 1) rfl)
  have fL28 := hts (.fieldLink RX7 28 "RainShelves" "rain" "LRainShelves$Rain;") (List.mem_of_getElem? (i := 2) rfl)
  unfold f_X7_lasts at hf
  have L15 : ∀ (n15 : Nat) (v2_15 : Int32), f_X7_lasts_L15 house_pans house_least house_shrinks house_byAge rain_spoons v1 n15 v2_15 = some out → ∀ (H : Heap) (locs : List Loc) (ls : Array Slot), PD D A [(a_x, .inr (7, [.ref a_house, .ref a_text, .ref a_rain, .ref a_hist, .ref a_img_arr, .ref a_kept, .ref a_told, .ref a_sets, .ref a_frost, .long x_traced])), (a_house, .inr (2, [.int house_pans, .int house_least, .int house_shelf, .ref a_house_years, .ref a_house_spoons, .ref a_house_shrinks, .ref a_house_sorts, .ref a_house_byAge])), (a_rain, .inr (4, [.ref a_house, .ref a_rain_spoons, .int rain_springs, .int rain_lost])), (a_house_shrinks, .inl (cI, 7, .inl house_shrinks)), (a_house_byAge, .inl (cI, 7, .inl house_byAge)), (a_rain_spoons, .inl (cI, 49, .inl rain_spoons))] H → va_S A s.heap H locs → lv_has ls 3 [(0, .ref a_x), (1, .int v1), (2, .int v2_15)] → W p l e rmX7_lasts s m ([.ref a_x, .int v1] : List Value).toArray below meth c H locs 0 0 Q (F0 m 15 ls []) := by
    intro  n15
    induction n15 with
    | zero => intro v2_15 hf; cases hf
    | succ n15 ih15 =>
      intro v2_15 hf H locs ls hPD hS hl
      obtain ⟨hP, hD⟩ := hPD
      have hf : f_X7_lasts_B15 house_pans house_least house_shrinks house_byAge rain_spoons v1 (f_X7_lasts_L15 house_pans house_least house_shrinks house_byAge rain_spoons v1 n15) v2_15 = some out := hf
      unfold f_X7_lasts_B15 at hf
      refine lv_iload_n hx hb dX7_lasts_15 rfl (lv_at hl 2 rfl) ?_
      refine lv_sipush (v := 400) hx hb dX7_lasts_16 (by decide) ?_
      refine lv_icmp_gt (tgt := 42) hx hb dX7_lasts_19 (by decide) (fun hc1 => ?_) (fun hc1 => ?_)
      · have hf := if_t hf hc1
        refine lv_bipush (v := (-9)) hx hb dX7_lasts_42 (by decide) ?_
        have he := Option.some.inj hf
        subst he
        exact hret _ _ _ _ dX7_lasts_44 rfl hP hD hS
      · have hf := if_f hf hc1
        refine lv_aload_n hx hb dX7_lasts_22 rfl (lv_at hl 0 rfl) ?_
        refine va_get (D := D) (ci := 7) (v := .ref a_rain) (C := RX7) (T := TX7) (N := 10) hx hb hts hiX7_lasts_7 hown hE.1 hP 0 rfl rfl 2 (by decide) fL28 (fun _ h9 => h9) rfl dX7_lasts_23 ?_
        refine lv_iload_n hx hb dX7_lasts_26 rfl (lv_at hl 2 rfl) ?_
        refine lv_iload_n hx hb dX7_lasts_27 rfl (lv_at hl 1 rfl) ?_
        obtain ⟨u1, hu1, hf⟩ := bd_some hf
        refine cl_iN (As := [.int v2_15, .int v1]) (rest := []) ⟨hx, hb, hml, hown, hts⟩ (c_X4_canBeReadIn l D cI cZ cR a_rain a_house a_house_shrinks a_house_byAge a_rain_spoons a_house_years a_house_spoons a_house_sorts rain_springs rain_lost house_pans house_least house_shelf house_shrinks house_byAge rain_spoons v2_15 v1 u1 hu1) (cw_X7_lasts_X4_canBeReadIn_162 hE hts) hE hP hD hS hA [2, 1, 3, 4, 5] rfl rfl [a_rain, a_house, a_house_shrinks, a_house_byAge, a_rain_spoons] rfl rfl 2 4 rfl rfl rfl hl.1 rfl (Nat.le_of_ble_eq_true rfl) dX7_lasts_28 ⟨Nat.zero_le _, Nat.zero_le _⟩ (fun H locs hP hD hS => ?_)
        have hPD : PD D A [(a_x, .inr (7, [.ref a_house, .ref a_text, .ref a_rain, .ref a_hist, .ref a_img_arr, .ref a_kept, .ref a_told, .ref a_sets, .ref a_frost, .long x_traced])), (a_house, .inr (2, [.int house_pans, .int house_least, .int house_shelf, .ref a_house_years, .ref a_house_spoons, .ref a_house_shrinks, .ref a_house_sorts, .ref a_house_byAge])), (a_rain, .inr (4, [.ref a_house, .ref a_rain_spoons, .int rain_springs, .int rain_lost])), (a_house_shrinks, .inl (cI, 7, .inl house_shrinks)), (a_house_byAge, .inl (cI, 7, .inl house_byAge)), (a_rain_spoons, .inl (cI, 49, .inl rain_spoons))] H := ⟨hP, hD⟩
        obtain ⟨hP, hD⟩ := hPD
        refine lv_if_ne (tgt := 36) hx hb dX7_lasts_31 (by decide) (fun hc2 => ?_) (fun hc2 => ?_)
        · have hf := if_f hf hc2
          refine lv_iinc (v := (v2_15 + 1)) (lv' := [(2, .int (v2_15 + 1)), (0, .ref a_x), (1, .int v1)]) hx hb dX7_lasts_36 hl (k := 2) rfl (ii_p1 _) (by decide) rfl (fun ls hl => ?_)
          refine lv_goto (tgt := 15) hx hb dX7_lasts_39 (by decide) ?_
          exact ih15 (v2_15 + 1) hf _ _ _ ⟨hP, hD⟩ hS (lv_sub hl [1, 2, 0] rfl)
        · have hf := if_t hf hc2
          refine lv_iload_n hx hb dX7_lasts_34 rfl (lv_at hl 2 rfl) ?_
          have he := Option.some.inj hf
          subst he
          exact hret _ _ _ _ dX7_lasts_35 rfl hP hD hS
  refine lv_aload_n hx hb dX7_lasts_0 rfl (lv_at hl 0 rfl) ?_
  refine va_get (D := D) (ci := 7) (v := .ref a_house) (C := RX7) (T := TX7) (N := 10) hx hb hts hiX7_lasts_7 hown hE.1 hP 0 rfl rfl 0 (by decide) fL10 (fun _ h9 => h9) rfl dX7_lasts_1 ?_
  refine lv_iload_n hx hb dX7_lasts_4 rfl (lv_at hl 1 rfl) ?_
  obtain ⟨u2, hu2, hf⟩ := bd_some hf
  refine cl_iN (As := [.int v1]) (rest := []) ⟨hx, hb, hml, hown, hts⟩ (c_X2_has l D cI cZ cR a_house a_house_years a_house_spoons a_house_shrinks a_house_sorts a_house_byAge house_pans house_least house_shelf v1 u2 hu2) (cw_X7_lasts_X2_has_103 hE hts) hE hP hD hS hA [1] rfl rfl [a_house] rfl rfl 1 2 rfl rfl rfl hl.1 rfl (Nat.le_of_ble_eq_true rfl) dX7_lasts_5 ⟨Nat.zero_le _, Nat.zero_le _⟩ (fun H locs hP hD hS => ?_)
  have hPD : PD D A [(a_x, .inr (7, [.ref a_house, .ref a_text, .ref a_rain, .ref a_hist, .ref a_img_arr, .ref a_kept, .ref a_told, .ref a_sets, .ref a_frost, .long x_traced])), (a_house, .inr (2, [.int house_pans, .int house_least, .int house_shelf, .ref a_house_years, .ref a_house_spoons, .ref a_house_shrinks, .ref a_house_sorts, .ref a_house_byAge])), (a_rain, .inr (4, [.ref a_house, .ref a_rain_spoons, .int rain_springs, .int rain_lost])), (a_house_shrinks, .inl (cI, 7, .inl house_shrinks)), (a_house_byAge, .inl (cI, 7, .inl house_byAge)), (a_rain_spoons, .inl (cI, 49, .inl rain_spoons))] H := ⟨hP, hD⟩
  obtain ⟨hP, hD⟩ := hPD
  refine lv_if_ne (tgt := 13) hx hb dX7_lasts_8 (by decide) (fun hc3 => ?_) (fun hc3 => ?_)
  · have hf := if_f hf hc3
    refine lv_iconst (v := 0) hx hb dX7_lasts_13 (by decide) ?_
    refine lv_istore_n (lv' := [(2, .int 0), (0, .ref a_x), (1, .int v1)]) hx hb dX7_lasts_14 rfl hl (by decide) rfl (fun ls hl => ?_)
    exact L15  FU 0 hf _ _ _ ⟨hP, hD⟩ hS (lv_sub hl [1, 2, 0] rfl)
  · have hf := if_t hf hc3
    refine lv_iconst (v := (-1)) hx hb dX7_lasts_11 (by decide) ?_
    have he := Option.some.inj hf
    subst he
    exact hret _ _ _ _ dX7_lasts_12 rfl hP hD hS
abbrev rmX7_countReadableIn : Room := { frames := 3, cells := 0, slots := 0, locals := 72 }
theorem hiX7_countReadableIn_2 : ∀ w ∈ wsX20, w ∈ wsX7_countReadableIn := fun w h => (goodIn_r (big := wsX7_countReadableIn) wsX20 [30, 31, 32, 33, 34, 35, 36, 37] rfl (by decide +kernel) w h).1
theorem hiX7_countReadableIn_7 : ∀ w ∈ wsX70, w ∈ wsX7_countReadableIn := fun w h => (goodIn_r (big := wsX7_countReadableIn) wsX70 [20, 21, 22, 23, 24, 25, 26, 27, 28, 29] rfl (by decide +kernel) w h).1
theorem cw_X7_countReadableIn_X4_canBeReadIn_162 {s : State} {args : Array Value} {D : va_G} {cI cZ cR : ClassId} (hE : EV D cI cZ cR s) (hts : ∀ x ∈ wsX7_countReadableIn, x.before args s = true) : va_CN rmX7_countReadableIn s args RX7 162 yX4_canBeReadIn "RainShelves" cX4_canBeReadIn 10 (some .boolean) wsX4_canBeReadIn rmX4_canBeReadIn 0 0 2 ∧ (Cond.instanceMethod yX4_canBeReadIn).before args s = true ∧ (Cond.selects RX4 yX4_canBeReadIn yX4_canBeReadIn).before args s = true := ⟨va_cnB 2 hts gX7_countReadableIn_X4_canBeReadIn_n162 rfl rfl rfl (hE.nm 29 rfl) (hts (.initialized RX4) (List.mem_of_getElem? (i := 4) rfl)) (by decide +kernel) ⟨Nat.le_of_ble_eq_true rfl, Nat.le_of_ble_eq_true rfl⟩, hts (.instanceMethod yX4_canBeReadIn) (List.mem_of_getElem? (i := 3) rfl), hts (.selects RX4 yX4_canBeReadIn yX4_canBeReadIn) (List.mem_of_getElem? (i := 5) rfl)⟩
set_option maxRecDepth 100000 in
set_option maxHeartbeats 4000000 in
theorem c_X7_countReadableIn (l : Launch) (D : va_G) (cI cZ cR : ClassId) (a_x : Nat) (a_house : Nat) (a_rain : Nat) (a_house_shrinks : Nat) (a_house_byAge : Nat) (a_rain_spoons : Nat) (a_text : Nat) (a_hist : Nat) (a_img_arr : Nat) (a_kept : Nat) (a_told : Nat) (a_sets : Nat) (a_frost : Nat) (a_house_years : Nat) (a_house_spoons : Nat) (a_house_sorts : Nat) (x_traced : Int64) (house_pans : Int32) (house_least : Int32) (house_shelf : Int32) (rain_springs : Int32) (rain_lost : Int32) (house_shrinks : Nat → Int32) (house_byAge : Nat → Int32) (rain_spoons : Nat → Int32) (v1 : Int32) (out : Int32) (hf : f_X7_countReadableIn house_pans house_least house_shrinks house_byAge rain_spoons v1 = some out) : Ci l yX7_countReadableIn wsX7_countReadableIn rmX7_countReadableIn D cI cZ cR [.ref a_x, .int v1] [(a_x, .inr (7, [.ref a_house, .ref a_text, .ref a_rain, .ref a_hist, .ref a_img_arr, .ref a_kept, .ref a_told, .ref a_sets, .ref a_frost, .long x_traced])), (a_house, .inr (2, [.int house_pans, .int house_least, .int house_shelf, .ref a_house_years, .ref a_house_spoons, .ref a_house_shrinks, .ref a_house_sorts, .ref a_house_byAge])), (a_rain, .inr (4, [.ref a_house, .ref a_rain_spoons, .int rain_springs, .int rain_lost])), (a_house_shrinks, .inl (cI, 7, .inl house_shrinks)), (a_house_byAge, .inl (cI, 7, .inl house_byAge)), (a_rain_spoons, .inl (cI, 49, .inl rain_spoons))] out [(a_x, .inr (7, [.ref a_house, .ref a_text, .ref a_rain, .ref a_hist, .ref a_img_arr, .ref a_kept, .ref a_told, .ref a_sets, .ref a_frost, .long x_traced])), (a_house, .inr (2, [.int house_pans, .int house_least, .int house_shelf, .ref a_house_years, .ref a_house_spoons, .ref a_house_shrinks, .ref a_house_sorts, .ref a_house_byAge])), (a_rain, .inr (4, [.ref a_house, .ref a_rain_spoons, .int rain_springs, .int rain_lost])), (a_house_shrinks, .inl (cI, 7, .inl house_shrinks)), (a_house_byAge, .inl (cI, 7, .inl house_byAge)), (a_rain_spoons, .inl (cI, 49, .inl rain_spoons))] := by
  refine ent_i (cc := cX7_countReadableIn) (maxL := 4) .int (by decide) rfl (Nat.le_of_ble_eq_true rfl) ?_
  intro p e s m below meth c A Q hx hb hml hown hts hE hA hP hD hS hret ls hl
  have hown : s.vm.findClass RX7 = some m.cls := hown
  have hl : lv_has ls 4 [(0, .ref a_x), (1, .int v1)] := hl
  have fL10 := hts (.fieldLink RX7 10 "RainShelves" "house" "LRainShelves$House;") (List.mem_of_getElem? (i := 1) rfl)
  have fL28 := hts (.fieldLink RX7 28 "RainShelves" "rain" "LRainShelves$Rain;") (List.mem_of_getElem? (i := 2) rfl)
  have fL172 : (Cond.fieldLinkNest RX7 172 "RainShelves$House" "pans" "I" "RainShelves").before ([.ref a_x, .int v1] : List Value).toArray s = true := hE.nf 3 rfl
  unfold f_X7_countReadableIn at hf
  have L4 : ∀ (n4 : Nat) (v2_4 : Int32) (v3_4 : Int32), f_X7_countReadableIn_L4 house_pans house_least house_shrinks house_byAge rain_spoons v1 n4 v2_4 v3_4 = some out → ∀ (H : Heap) (locs : List Loc) (ls : Array Slot), PD D A [(a_x, .inr (7, [.ref a_house, .ref a_text, .ref a_rain, .ref a_hist, .ref a_img_arr, .ref a_kept, .ref a_told, .ref a_sets, .ref a_frost, .long x_traced])), (a_house, .inr (2, [.int house_pans, .int house_least, .int house_shelf, .ref a_house_years, .ref a_house_spoons, .ref a_house_shrinks, .ref a_house_sorts, .ref a_house_byAge])), (a_rain, .inr (4, [.ref a_house, .ref a_rain_spoons, .int rain_springs, .int rain_lost])), (a_house_shrinks, .inl (cI, 7, .inl house_shrinks)), (a_house_byAge, .inl (cI, 7, .inl house_byAge)), (a_rain_spoons, .inl (cI, 49, .inl rain_spoons))] H → va_S A s.heap H locs → lv_has ls 4 [(0, .ref a_x), (1, .int v1), (2, .int v2_4), (3, .int v3_4)] → W p l e rmX7_countReadableIn s m ([.ref a_x, .int v1] : List Value).toArray below meth c H locs 0 0 Q (F0 m 4 ls []) := by
    intro  n4
    induction n4 with
    | zero => intro v2_4 v3_4 hf; cases hf
    | succ n4 ih4 =>
      intro v2_4 v3_4 hf H locs ls hPD hS hl
      obtain ⟨hP, hD⟩ := hPD
      have hf : f_X7_countReadableIn_B4 house_pans house_least house_shrinks house_byAge rain_spoons v1 (f_X7_countReadableIn_L4 house_pans house_least house_shrinks house_byAge rain_spoons v1 n4) v2_4 v3_4 = some out := hf
      unfold f_X7_countReadableIn_B4 at hf
      refine lv_iload_n hx hb dX7_countReadableIn_4 rfl (lv_at hl 3 rfl) ?_
      refine lv_aload_n hx hb dX7_countReadableIn_5 rfl (lv_at hl 0 rfl) ?_
      refine va_get (D := D) (ci := 7) (v := .ref a_house) (C := RX7) (T := TX7) (N := 10) hx hb hts hiX7_countReadableIn_7 hown hE.1 hP 0 rfl rfl 0 (by decide) fL10 (fun _ h9 => h9) rfl dX7_countReadableIn_6 ?_
      refine va_getN (D := D) (ci := 2) (v := .int house_pans) (C := RX2) (T := TX2) (N := 8) hx hb hts hiX7_countReadableIn_2 hown hE.1 hP 1 rfl rfl 0 (by decide) fL172 (fun _ h9 => h9) rfl dX7_countReadableIn_9 ?_
      refine lv_icmp_ge (tgt := 36) hx hb dX7_countReadableIn_12 (by decide) (fun hc1 => ?_) (fun hc1 => ?_)
      · have hf := if_t hf hc1
        refine lv_iload_n hx hb dX7_countReadableIn_36 rfl (lv_at hl 2 rfl) ?_
        have he := Option.some.inj hf
        subst he
        exact hret _ _ _ _ dX7_countReadableIn_37 rfl hP hD hS
      · have hf := if_f hf hc1
        refine lv_aload_n hx hb dX7_countReadableIn_15 rfl (lv_at hl 0 rfl) ?_
        refine va_get (D := D) (ci := 7) (v := .ref a_rain) (C := RX7) (T := TX7) (N := 10) hx hb hts hiX7_countReadableIn_7 hown hE.1 hP 0 rfl rfl 2 (by decide) fL28 (fun _ h9 => h9) rfl dX7_countReadableIn_16 ?_
        refine lv_iload_n hx hb dX7_countReadableIn_19 rfl (lv_at hl 1 rfl) ?_
        refine lv_iload_n hx hb dX7_countReadableIn_20 rfl (lv_at hl 3 rfl) ?_
        obtain ⟨u1, hu1, hf⟩ := bd_some hf
        refine cl_iN (As := [.int v1, .int v3_4]) (rest := []) ⟨hx, hb, hml, hown, hts⟩ (c_X4_canBeReadIn l D cI cZ cR a_rain a_house a_house_shrinks a_house_byAge a_rain_spoons a_house_years a_house_spoons a_house_sorts rain_springs rain_lost house_pans house_least house_shelf house_shrinks house_byAge rain_spoons v1 v3_4 u1 hu1) (cw_X7_countReadableIn_X4_canBeReadIn_162 hE hts) hE hP hD hS hA [2, 1, 3, 4, 5] rfl rfl [a_rain, a_house, a_house_shrinks, a_house_byAge, a_rain_spoons] rfl rfl 2 4 rfl rfl rfl hl.1 rfl (Nat.le_of_ble_eq_true rfl) dX7_countReadableIn_21 ⟨Nat.zero_le _, Nat.zero_le _⟩ (fun H locs hP hD hS => ?_)
        have hPD : PD D A [(a_x, .inr (7, [.ref a_house, .ref a_text, .ref a_rain, .ref a_hist, .ref a_img_arr, .ref a_kept, .ref a_told, .ref a_sets, .ref a_frost, .long x_traced])), (a_house, .inr (2, [.int house_pans, .int house_least, .int house_shelf, .ref a_house_years, .ref a_house_spoons, .ref a_house_shrinks, .ref a_house_sorts, .ref a_house_byAge])), (a_rain, .inr (4, [.ref a_house, .ref a_rain_spoons, .int rain_springs, .int rain_lost])), (a_house_shrinks, .inl (cI, 7, .inl house_shrinks)), (a_house_byAge, .inl (cI, 7, .inl house_byAge)), (a_rain_spoons, .inl (cI, 49, .inl rain_spoons))] H := ⟨hP, hD⟩
        obtain ⟨hP, hD⟩ := hPD
        refine lv_if_eq (tgt := 30) hx hb dX7_countReadableIn_24 (by decide) (fun hc2 => ?_) (fun hc2 => ?_)
        · have hf := if_t hf hc2
          refine lv_iinc (v := (v3_4 + 1)) (lv' := [(3, .int (v3_4 + 1)), (0, .ref a_x), (1, .int v1), (2, .int v2_4)]) hx hb dX7_countReadableIn_30 hl (k := 3) rfl (ii_p1 _) (by decide) rfl (fun ls hl => ?_)
          refine lv_goto (tgt := 4) hx hb dX7_countReadableIn_33 (by decide) ?_
          exact ih4 v2_4 (v3_4 + 1) hf _ _ _ ⟨hP, hD⟩ hS (lv_sub hl [1, 2, 3, 0] rfl)
        · have hf := if_f hf hc2
          refine lv_iinc (v := (v2_4 + 1)) (lv' := [(2, .int (v2_4 + 1)), (0, .ref a_x), (1, .int v1), (3, .int v3_4)]) hx hb dX7_countReadableIn_27 hl (k := 2) rfl (ii_p1 _) (by decide) rfl (fun ls hl => ?_)
          refine lv_iinc (v := (v3_4 + 1)) (lv' := [(3, .int (v3_4 + 1)), (2, .int (v2_4 + 1)), (0, .ref a_x), (1, .int v1)]) hx hb dX7_countReadableIn_30 hl (k := 3) rfl (ii_p1 _) (by decide) rfl (fun ls hl => ?_)
          refine lv_goto (tgt := 4) hx hb dX7_countReadableIn_33 (by decide) ?_
          exact ih4 (v2_4 + 1) (v3_4 + 1) hf _ _ _ ⟨hP, hD⟩ hS (lv_sub hl [2, 3, 1, 0] rfl)
  refine lv_iconst (v := 0) hx hb dX7_countReadableIn_0 (by decide) ?_
  refine lv_istore_n (lv' := [(2, .int 0), (0, .ref a_x), (1, .int v1)]) hx hb dX7_countReadableIn_1 rfl hl (by decide) rfl (fun ls hl => ?_)
  refine lv_iconst (v := 0) hx hb dX7_countReadableIn_2 (by decide) ?_
  refine lv_istore_n (lv' := [(3, .int 0), (2, .int 0), (0, .ref a_x), (1, .int v1)]) hx hb dX7_countReadableIn_3 rfl hl (by decide) rfl (fun ls hl => ?_)
  exact L4  FU 0 0 hf _ _ _ ⟨hP, hD⟩ hS (lv_sub hl [2, 3, 1, 0] rfl)
abbrev rmX7_afterSprings : Room := { frames := 1, cells := 0, slots := 0, locals := 21 }
theorem hiX7_afterSprings_2 : ∀ w ∈ wsX20, w ∈ wsX7_afterSprings := fun w h => (goodIn_r (big := wsX7_afterSprings) wsX20 [16, 17, 18, 19, 20, 21, 22, 23] rfl (by decide +kernel) w h).1
theorem hiX7_afterSprings_7 : ∀ w ∈ wsX70, w ∈ wsX7_afterSprings := fun w h => (goodIn_r (big := wsX7_afterSprings) wsX70 [6, 7, 8, 9, 10, 11, 12, 13, 14, 15] rfl (by decide +kernel) w h).1
set_option maxRecDepth 100000 in
set_option maxHeartbeats 4000000 in
theorem c_X7_afterSprings (l : Launch) (D : va_G) (cI cZ cR : ClassId) (a_x : Nat) (a_house : Nat) (a_house_shrinks : Nat) (a_text : Nat) (a_rain : Nat) (a_hist : Nat) (a_img_arr : Nat) (a_kept : Nat) (a_told : Nat) (a_sets : Nat) (a_frost : Nat) (a_house_years : Nat) (a_house_spoons : Nat) (a_house_sorts : Nat) (a_house_byAge : Nat) (x_traced : Int64) (house_pans : Int32) (house_least : Int32) (house_shelf : Int32) (house_shrinks : Nat → Int32) (v1 : Int32) (v2 : Int32) (v3 : Int32) (out : Int32) (hf : f_X7_afterSprings house_shrinks v1 v2 v3 = some out) : Ci l yX7_afterSprings wsX7_afterSprings rmX7_afterSprings D cI cZ cR [.ref a_x, .int v1, .int v2, .int v3] [(a_x, .inr (7, [.ref a_house, .ref a_text, .ref a_rain, .ref a_hist, .ref a_img_arr, .ref a_kept, .ref a_told, .ref a_sets, .ref a_frost, .long x_traced])), (a_house, .inr (2, [.int house_pans, .int house_least, .int house_shelf, .ref a_house_years, .ref a_house_spoons, .ref a_house_shrinks, .ref a_house_sorts, .ref a_house_byAge])), (a_house_shrinks, .inl (cI, 7, .inl house_shrinks))] out [(a_x, .inr (7, [.ref a_house, .ref a_text, .ref a_rain, .ref a_hist, .ref a_img_arr, .ref a_kept, .ref a_told, .ref a_sets, .ref a_frost, .long x_traced])), (a_house, .inr (2, [.int house_pans, .int house_least, .int house_shelf, .ref a_house_years, .ref a_house_spoons, .ref a_house_shrinks, .ref a_house_sorts, .ref a_house_byAge])), (a_house_shrinks, .inl (cI, 7, .inl house_shrinks))] := by
  refine ent_i (cc := cX7_afterSprings) (maxL := 4) .int (by decide) rfl (Nat.le_of_ble_eq_true rfl) ?_
  intro p e s m below meth c A Q hx hb hml hown hts hE hA hP hD hS hret ls hl
  have hown : s.vm.findClass RX7 = some m.cls := hown
  have hl : lv_has ls 4 [(0, .ref a_x), (1, .int v1), (2, .int v2), (3, .int v3)] := hl
  have fL10 := hts (.fieldLink RX7 10 "RainShelves" "house" "LRainShelves$House;") (List.mem_of_getElem? (i := 1) rfl)
  have fL110 : (Cond.fieldLinkNest RX7 110 "RainShelves$House" "shrinks" "[I" "RainShelves").before ([.ref a_x, .int v1, .int v2, .int v3] : List Value).toArray s = true := hE.nf 13 rfl
  have mBmax := hts (.static Lib.Math.max.name) (List.mem_of_getElem? (i := 3) rfl)
  have mDmax := hts (.code Lib.Math.max.name Lib.Math.max.code 2 (some .int)) (List.mem_of_getElem? (i := 5) rfl)
  have mC := hts (.initialized "java/lang/Math") (List.mem_of_getElem? (i := 4) rfl)
  have mA175 := hts (.methodLink RX7 175 Lib.Math.max.name) (List.mem_of_getElem? (i := 2) rfl)
  unfold f_X7_afterSprings at hf
  refine lv_iconst (v := 0) hx hb dX7_afterSprings_0 (by decide) ?_
  refine lv_iload_n hx hb dX7_afterSprings_1 rfl (lv_at hl 1 rfl) ?_
  refine lv_iload_n hx hb dX7_afterSprings_2 rfl (lv_at hl 2 rfl) ?_
  refine lv_aload_n hx hb dX7_afterSprings_3 rfl (lv_at hl 0 rfl) ?_
  refine va_get (D := D) (ci := 7) (v := .ref a_house) (C := RX7) (T := TX7) (N := 10) hx hb hts hiX7_afterSprings_7 hown hE.1 hP 0 rfl rfl 0 (by decide) fL10 (fun _ h9 => h9) rfl dX7_afterSprings_4 ?_
  refine va_getN (D := D) (ci := 2) (v := .ref a_house_shrinks) (C := RX2) (T := TX2) (N := 8) hx hb hts hiX7_afterSprings_2 hown hE.1 hP 1 rfl rfl 5 (by decide) fL110 (fun _ h9 => h9) rfl dX7_afterSprings_7 ?_
  refine lv_iload_n hx hb dX7_afterSprings_10 rfl (lv_at hl 3 rfl) ?_
  obtain ⟨hc1, hf⟩ := ck_some hf
  refine va_iald hx hb hE.1 hP 2 0 rfl rfl (ix_in hc1) dX7_afterSprings_11 ?_
  refine lv_imul hx hb dX7_afterSprings_12 ?_
  refine lv_isub hx hb dX7_afterSprings_13 ?_
  refine va_mmax hx hb (hml.trans hl.1.symm) hown mA175 mBmax mC mDmax (Nat.le_of_ble_eq_true rfl) (Nat.le_of_ble_eq_true rfl) (Nat.zero_le _) (Nat.zero_le _) dX7_afterSprings_14 ?_
  have he := Option.some.inj hf
  subst he
  exact hret _ _ _ _ dX7_afterSprings_17 rfl hP hD hS
abbrev rmX7_inSprings : Room := { frames := 4, cells := 0, slots := 0, locals := 95 }
theorem hiX7_inSprings_7 : ∀ w ∈ wsX70, w ∈ wsX7_inSprings := fun w h => (goodIn_r (big := wsX7_inSprings) wsX70 [43, 44, 45, 46, 47, 48, 49, 50, 51, 52] rfl (by decide +kernel) w h).1
theorem cw_X7_inSprings_X7_isWithin_72 {s : State} {args : Array Value} (hts : ∀ x ∈ wsX7_inSprings, x.before args s = true) : CallB rmX7_inSprings s args RX7 72 yX7_isWithin cX7_isWithin 3 (some .boolean) wsX7_isWithin rmX7_isWithin 0 0 3 ∧ (Cond.static yX7_isWithin).before args s = true := va_cwS 3 hts gX7_inSprings_X7_isWithin rfl rfl rfl (by decide +kernel) ⟨Nat.le_of_ble_eq_true rfl, Nat.le_of_ble_eq_true rfl⟩
theorem cw_X7_inSprings_X2_has_103 {s : State} {args : Array Value} {D : va_G} {cI cZ cR : ClassId} (hE : EV D cI cZ cR s) (hts : ∀ x ∈ wsX7_inSprings, x.before args s = true) : va_CN rmX7_inSprings s args RX7 103 yX2_has "RainShelves" cX2_has 2 (some .boolean) wsX2_has rmX2_has 0 0 1 ∧ (Cond.instanceMethod yX2_has).before args s = true ∧ (Cond.selects RX2 yX2_has yX2_has).before args s = true := ⟨va_cnB 1 hts gX7_inSprings_X2_has_n103 rfl rfl rfl (hE.nm 15 rfl) (hts (.initialized RX2) (List.mem_of_getElem? (i := 29) rfl)) (by decide +kernel) ⟨Nat.le_of_ble_eq_true rfl, Nat.le_of_ble_eq_true rfl⟩, hts (.instanceMethod yX2_has) (List.mem_of_getElem? (i := 28) rfl), hts (.selects RX2 yX2_has yX2_has) (List.mem_of_getElem? (i := 30) rfl)⟩
theorem cw_X7_inSprings_X4_inPan_116 {s : State} {args : Array Value} {D : va_G} {cI cZ cR : ClassId} (hE : EV D cI cZ cR s) (hts : ∀ x ∈ wsX7_inSprings, x.before args s = true) : va_CN rmX7_inSprings s args RX7 116 yX4_inPan "RainShelves" cX4_inPan 4 (some .int) wsX4_inPan rmX4_inPan 0 0 1 ∧ (Cond.instanceMethod yX4_inPan).before args s = true ∧ (Cond.selects RX4 yX4_inPan yX4_inPan).before args s = true := ⟨va_cnB 1 hts gX7_inSprings_X4_inPan_n116 rfl rfl rfl (hE.nm 16 rfl) (hts (.initialized RX4) (List.mem_of_getElem? (i := 12) rfl)) (by decide +kernel) ⟨Nat.le_of_ble_eq_true rfl, Nat.le_of_ble_eq_true rfl⟩, hts (.instanceMethod yX4_inPan) (List.mem_of_getElem? (i := 33) rfl), hts (.selects RX4 yX4_inPan yX4_inPan) (List.mem_of_getElem? (i := 34) rfl)⟩
theorem cw_X7_inSprings_X7_afterSprings_169 {s : State} {args : Array Value} (hts : ∀ x ∈ wsX7_inSprings, x.before args s = true) : CallW rmX7_inSprings s args RX7 RX7 169 yX7_afterSprings cX7_afterSprings 4 (some .int) wsX7_afterSprings rmX7_afterSprings 0 0 3 := cwV 3 hts gX7_inSprings_X7_afterSprings rfl rfl rfl (by decide +kernel) ⟨Nat.le_of_ble_eq_true rfl, Nat.le_of_ble_eq_true rfl⟩
theorem cw_X7_inSprings_X7_countReadableIn_166 {s : State} {args : Array Value} (hts : ∀ x ∈ wsX7_inSprings, x.before args s = true) : CallW rmX7_inSprings s args RX7 RX7 166 yX7_countReadableIn cX7_countReadableIn 4 (some .int) wsX7_countReadableIn rmX7_countReadableIn 0 0 1 := cwV 1 hts gX7_inSprings_X7_countReadableIn rfl rfl rfl (by decide +kernel) ⟨Nat.le_of_ble_eq_true rfl, Nat.le_of_ble_eq_true rfl⟩
set_option maxRecDepth 100000 in
set_option maxHeartbeats 4000000 in
theorem c_X7_inSprings (l : Launch) (D : va_G) (cI cZ cR : ClassId) (a_x : Nat) (a_house : Nat) (a_rain : Nat) (a_house_shrinks : Nat) (a_house_byAge : Nat) (a_rain_spoons : Nat) (a_text : Nat) (a_hist : Nat) (a_img_arr : Nat) (a_kept : Nat) (a_told : Nat) (a_sets : Nat) (a_frost : Nat) (a_house_years : Nat) (a_house_spoons : Nat) (a_house_sorts : Nat) (x_traced : Int64) (house_pans : Int32) (house_least : Int32) (house_shelf : Int32) (rain_springs : Int32) (rain_lost : Int32) (house_shrinks : Nat → Int32) (house_byAge : Nat → Int32) (rain_spoons : Nat → Int32) (v1 : Int32) (v2 : Int32) (out : Int32) (hf : f_X7_inSprings house_pans house_least house_shrinks house_byAge rain_spoons v1 v2 = some out) : Ci l yX7_inSprings wsX7_inSprings rmX7_inSprings D cI cZ cR [.ref a_x, .int v1, .int v2] [(a_x, .inr (7, [.ref a_house, .ref a_text, .ref a_rain, .ref a_hist, .ref a_img_arr, .ref a_kept, .ref a_told, .ref a_sets, .ref a_frost, .long x_traced])), (a_house, .inr (2, [.int house_pans, .int house_least, .int house_shelf, .ref a_house_years, .ref a_house_spoons, .ref a_house_shrinks, .ref a_house_sorts, .ref a_house_byAge])), (a_rain, .inr (4, [.ref a_house, .ref a_rain_spoons, .int rain_springs, .int rain_lost])), (a_house_shrinks, .inl (cI, 7, .inl house_shrinks)), (a_house_byAge, .inl (cI, 7, .inl house_byAge)), (a_rain_spoons, .inl (cI, 49, .inl rain_spoons))] out [(a_x, .inr (7, [.ref a_house, .ref a_text, .ref a_rain, .ref a_hist, .ref a_img_arr, .ref a_kept, .ref a_told, .ref a_sets, .ref a_frost, .long x_traced])), (a_house, .inr (2, [.int house_pans, .int house_least, .int house_shelf, .ref a_house_years, .ref a_house_spoons, .ref a_house_shrinks, .ref a_house_sorts, .ref a_house_byAge])), (a_rain, .inr (4, [.ref a_house, .ref a_rain_spoons, .int rain_springs, .int rain_lost])), (a_house_shrinks, .inl (cI, 7, .inl house_shrinks)), (a_house_byAge, .inl (cI, 7, .inl house_byAge)), (a_rain_spoons, .inl (cI, 49, .inl rain_spoons))] := by
  refine ent_i (cc := cX7_inSprings) (maxL := 3) .int (by decide) rfl (Nat.le_of_ble_eq_true rfl) ?_
  intro p e s m below meth c A Q hx hb hml hown hts hE hA hP hD hS hret ls hl
  have hown : s.vm.findClass RX7 = some m.cls := hown
  have hl : lv_has ls 3 [(0, .ref a_x), (1, .int v1), (2, .int v2)] := hl
  have fL10 := hts (.fieldLink RX7 10 "RainShelves" "house" "LRainShelves$House;") (List.mem_of_getElem? (i := 1) rfl)
  have fL28 := hts (.fieldLink RX7 28 "RainShelves" "rain" "LRainShelves$Rain;") (List.mem_of_getElem? (i := 2) rfl)
  unfold f_X7_inSprings at hf
  refine lv_iload_n hx hb dX7_inSprings_0 rfl (lv_at hl 1 rfl) ?_
  refine lv_iconst (v := 0) hx hb dX7_inSprings_1 (by decide) ?_
  refine lv_sipush (v := 200) hx hb dX7_inSprings_2 (by decide) ?_
  obtain ⟨u1, hu1, hf⟩ := bd_some hf
  refine cl_iS (As := [.int v1, .int 0, .int 200]) (rest := []) ⟨hx, hb, hml, hown, hts⟩ (c_X7_isWithin l D cI cZ cR   v1 0 200 u1 hu1) (cw_X7_inSprings_X7_isWithin_72 hts) hE hP hD hS hA rfl hl.1 rfl (Nat.le_of_ble_eq_true rfl) dX7_inSprings_5 ⟨Nat.zero_le _, Nat.zero_le _⟩ (fun H locs hP hS => ?_)
  refine lv_if_ne (tgt := 13) hx hb dX7_inSprings_8 (by decide) (fun hc1 => ?_) (fun hc1 => ?_)
  · have hf := if_f hf hc1
    refine lv_iload_n hx hb dX7_inSprings_13 rfl (lv_at hl 2 rfl) ?_
    refine lv_iconst (v := (-1)) hx hb dX7_inSprings_14 (by decide) ?_
    refine lv_icmp_ne (tgt := 24) hx hb dX7_inSprings_15 (by decide) (fun hc2 => ?_) (fun hc2 => ?_)
    · have hf := if_f hf hc2
      refine lv_aload_n hx hb dX7_inSprings_24 rfl (lv_at hl 0 rfl) ?_
      refine va_get (D := D) (ci := 7) (v := .ref a_house) (C := RX7) (T := TX7) (N := 10) hx hb hts hiX7_inSprings_7 hown hE.1 hP 0 rfl rfl 0 (by decide) fL10 (fun _ h9 => h9) rfl dX7_inSprings_25 ?_
      refine lv_iload_n hx hb dX7_inSprings_28 rfl (lv_at hl 2 rfl) ?_
      obtain ⟨u2, hu2, hf⟩ := bd_some hf
      refine cl_iN (As := [.int v2]) (rest := []) ⟨hx, hb, hml, hown, hts⟩ (c_X2_has l D cI cZ cR a_house a_house_years a_house_spoons a_house_shrinks a_house_sorts a_house_byAge house_pans house_least house_shelf v2 u2 hu2) (cw_X7_inSprings_X2_has_103 hE hts) hE hP hD hS hA [1] rfl rfl [a_house] rfl rfl 1 2 rfl rfl rfl hl.1 rfl (Nat.le_of_ble_eq_true rfl) dX7_inSprings_29 ⟨Nat.zero_le _, Nat.zero_le _⟩ (fun H locs hP hD hS => ?_)
      have hPD : PD D A [(a_x, .inr (7, [.ref a_house, .ref a_text, .ref a_rain, .ref a_hist, .ref a_img_arr, .ref a_kept, .ref a_told, .ref a_sets, .ref a_frost, .long x_traced])), (a_house, .inr (2, [.int house_pans, .int house_least, .int house_shelf, .ref a_house_years, .ref a_house_spoons, .ref a_house_shrinks, .ref a_house_sorts, .ref a_house_byAge])), (a_rain, .inr (4, [.ref a_house, .ref a_rain_spoons, .int rain_springs, .int rain_lost])), (a_house_shrinks, .inl (cI, 7, .inl house_shrinks)), (a_house_byAge, .inl (cI, 7, .inl house_byAge)), (a_rain_spoons, .inl (cI, 49, .inl rain_spoons))] H := ⟨hP, hD⟩
      obtain ⟨hP, hD⟩ := hPD
      refine lv_if_eq (tgt := 52) hx hb dX7_inSprings_32 (by decide) (fun hc3 => ?_) (fun hc3 => ?_)
      · have hf := if_t hf hc3
        refine lv_iconst (v := (-1)) hx hb dX7_inSprings_52 (by decide) ?_
        have he := Option.some.inj hf
        subst he
        exact hret _ _ _ _ dX7_inSprings_53 rfl hP hD hS
      · have hf := if_f hf hc3
        refine lv_aload_n hx hb dX7_inSprings_35 rfl (lv_at hl 0 rfl) ?_
        refine lv_aload_n hx hb dX7_inSprings_36 rfl (lv_at hl 0 rfl) ?_
        refine va_get (D := D) (ci := 7) (v := .ref a_rain) (C := RX7) (T := TX7) (N := 10) hx hb hts hiX7_inSprings_7 hown hE.1 hP 0 rfl rfl 2 (by decide) fL28 (fun _ h9 => h9) rfl dX7_inSprings_37 ?_
        refine lv_iload_n hx hb dX7_inSprings_40 rfl (lv_at hl 2 rfl) ?_
        obtain ⟨u3, hu3, hf⟩ := bd_some hf
        refine cl_iN (As := [.int v2]) (rest := [.ref a_x]) ⟨hx, hb, hml, hown, hts⟩ (c_X4_inPan l D cI cZ cR a_rain a_house a_rain_spoons a_house_years a_house_spoons a_house_shrinks a_house_sorts a_house_byAge rain_springs rain_lost house_pans house_least house_shelf rain_spoons v2 u3 hu3) (cw_X7_inSprings_X4_inPan_116 hE hts) hE hP hD hS hA [2, 1, 5] rfl rfl [a_rain, a_house, a_rain_spoons] rfl rfl 2 4 rfl rfl rfl hl.1 rfl (Nat.le_of_ble_eq_true rfl) dX7_inSprings_41 ⟨Nat.zero_le _, Nat.zero_le _⟩ (fun H locs hP hD hS => ?_)
        have hPD : PD D A [(a_x, .inr (7, [.ref a_house, .ref a_text, .ref a_rain, .ref a_hist, .ref a_img_arr, .ref a_kept, .ref a_told, .ref a_sets, .ref a_frost, .long x_traced])), (a_house, .inr (2, [.int house_pans, .int house_least, .int house_shelf, .ref a_house_years, .ref a_house_spoons, .ref a_house_shrinks, .ref a_house_sorts, .ref a_house_byAge])), (a_rain, .inr (4, [.ref a_house, .ref a_rain_spoons, .int rain_springs, .int rain_lost])), (a_house_shrinks, .inl (cI, 7, .inl house_shrinks)), (a_house_byAge, .inl (cI, 7, .inl house_byAge)), (a_rain_spoons, .inl (cI, 49, .inl rain_spoons))] H := ⟨hP, hD⟩
        obtain ⟨hP, hD⟩ := hPD
        refine lv_iload_n hx hb dX7_inSprings_44 rfl (lv_at hl 1 rfl) ?_
        refine lv_iload_n hx hb dX7_inSprings_45 rfl (lv_at hl 2 rfl) ?_
        obtain ⟨u4, hu4, hf⟩ := bd_some hf
        refine cl_iV (As := [.int u3, .int v1, .int v2]) (rest := []) ⟨hx, hb, hml, hown, hts⟩ (c_X7_afterSprings l D cI cZ cR a_x a_house a_house_shrinks a_text a_rain a_hist a_img_arr a_kept a_told a_sets a_frost a_house_years a_house_spoons a_house_sorts a_house_byAge x_traced house_pans house_least house_shelf house_shrinks u3 v1 v2 u4 hu4) (cw_X7_inSprings_X7_afterSprings_169 hts) hE hP hD hS hA [0, 1, 3] rfl rfl [a_x, a_house, a_house_shrinks] rfl rfl 0 7 rfl rfl rfl hl.1 rfl (Nat.le_of_ble_eq_true rfl) dX7_inSprings_46 ⟨Nat.zero_le _, Nat.zero_le _⟩ (fun H locs hP hD hS => ?_)
        have hPD : PD D A [(a_x, .inr (7, [.ref a_house, .ref a_text, .ref a_rain, .ref a_hist, .ref a_img_arr, .ref a_kept, .ref a_told, .ref a_sets, .ref a_frost, .long x_traced])), (a_house, .inr (2, [.int house_pans, .int house_least, .int house_shelf, .ref a_house_years, .ref a_house_spoons, .ref a_house_shrinks, .ref a_house_sorts, .ref a_house_byAge])), (a_rain, .inr (4, [.ref a_house, .ref a_rain_spoons, .int rain_springs, .int rain_lost])), (a_house_shrinks, .inl (cI, 7, .inl house_shrinks)), (a_house_byAge, .inl (cI, 7, .inl house_byAge)), (a_rain_spoons, .inl (cI, 49, .inl rain_spoons))] H := ⟨hP, hD⟩
        obtain ⟨hP, hD⟩ := hPD
        refine lv_goto (tgt := 53) hx hb dX7_inSprings_49 (by decide) ?_
        have he := Option.some.inj hf
        subst he
        exact hret _ _ _ _ dX7_inSprings_53 rfl hP hD hS
    · have hf := if_t hf hc2
      refine lv_aload_n hx hb dX7_inSprings_18 rfl (lv_at hl 0 rfl) ?_
      refine lv_iload_n hx hb dX7_inSprings_19 rfl (lv_at hl 1 rfl) ?_
      obtain ⟨u5, hu5, hf⟩ := bd_some hf
      refine cl_iV (As := [.int v1]) (rest := []) ⟨hx, hb, hml, hown, hts⟩ (c_X7_countReadableIn l D cI cZ cR a_x a_house a_rain a_house_shrinks a_house_byAge a_rain_spoons a_text a_hist a_img_arr a_kept a_told a_sets a_frost a_house_years a_house_spoons a_house_sorts x_traced house_pans house_least house_shelf rain_springs rain_lost house_shrinks house_byAge rain_spoons v1 u5 hu5) (cw_X7_inSprings_X7_countReadableIn_166 hts) hE hP hD hS hA [0, 1, 2, 3, 4, 5] rfl rfl [a_x, a_house, a_rain, a_house_shrinks, a_house_byAge, a_rain_spoons] rfl rfl 0 7 rfl rfl rfl hl.1 rfl (Nat.le_of_ble_eq_true rfl) dX7_inSprings_20 ⟨Nat.zero_le _, Nat.zero_le _⟩ (fun H locs hP hD hS => ?_)
      have hPD : PD D A [(a_x, .inr (7, [.ref a_house, .ref a_text, .ref a_rain, .ref a_hist, .ref a_img_arr, .ref a_kept, .ref a_told, .ref a_sets, .ref a_frost, .long x_traced])), (a_house, .inr (2, [.int house_pans, .int house_least, .int house_shelf, .ref a_house_years, .ref a_house_spoons, .ref a_house_shrinks, .ref a_house_sorts, .ref a_house_byAge])), (a_rain, .inr (4, [.ref a_house, .ref a_rain_spoons, .int rain_springs, .int rain_lost])), (a_house_shrinks, .inl (cI, 7, .inl house_shrinks)), (a_house_byAge, .inl (cI, 7, .inl house_byAge)), (a_rain_spoons, .inl (cI, 49, .inl rain_spoons))] H := ⟨hP, hD⟩
      obtain ⟨hP, hD⟩ := hPD
      have he := Option.some.inj hf
      subst he
      exact hret _ _ _ _ dX7_inSprings_23 rfl hP hD hS
  · have hf := if_t hf hc1
    refine lv_iconst (v := (-1)) hx hb dX7_inSprings_11 (by decide) ?_
    have he := Option.some.inj hf
    subst he
    exact hret _ _ _ _ dX7_inSprings_12 rfl hP hD hS
abbrev rmX7_fire : Room := { frames := 5, cells := 0, slots := 0, locals := 115 }
theorem hiX7_fire_7 : ∀ w ∈ wsX70, w ∈ wsX7_fire := fun w h => (goodIn_r (big := wsX7_fire) wsX70 [68, 69, 70, 71, 72, 73, 74, 75, 76, 77] rfl (by decide +kernel) w h).1
theorem cw_X7_fire_X7_isWithin_72 {s : State} {args : Array Value} (hts : ∀ x ∈ wsX7_fire, x.before args s = true) : CallB rmX7_fire s args RX7 72 yX7_isWithin cX7_isWithin 3 (some .boolean) wsX7_isWithin rmX7_isWithin 0 0 3 ∧ (Cond.static yX7_isWithin).before args s = true := va_cwS 3 hts gX7_fire_X7_isWithin rfl rfl rfl (by decide +kernel) ⟨Nat.le_of_ble_eq_true rfl, Nat.le_of_ble_eq_true rfl⟩
theorem cw_X7_fire_X5_weigh_180 {s : State} {args : Array Value} {D : va_G} {cI cZ cR : ClassId} (hE : EV D cI cZ cR s) (hts : ∀ x ∈ wsX7_fire, x.before args s = true) : va_CN rmX7_fire s args RX7 180 yX5_weigh "RainShelves" cX5_weigh 6 none wsX5_weigh rmX5_weigh 0 0 2 ∧ (Cond.instanceMethod yX5_weigh).before args s = true ∧ (Cond.selects RX5 yX5_weigh yX5_weigh).before args s = true := ⟨va_cnB 2 hts gX7_fire_X5_weigh_n180 rfl rfl rfl (hE.nm 30 rfl) (hts (.initialized RX5) (List.mem_of_getElem? (i := 9) rfl)) (by decide +kernel) ⟨Nat.le_of_ble_eq_true rfl, Nat.le_of_ble_eq_true rfl⟩, hts (.instanceMethod yX5_weigh) (List.mem_of_getElem? (i := 8) rfl), hts (.selects RX5 yX5_weigh yX5_weigh) (List.mem_of_getElem? (i := 10) rfl)⟩
theorem cw_X7_fire_X4_readable_142 {s : State} {args : Array Value} {D : va_G} {cI cZ cR : ClassId} (hE : EV D cI cZ cR s) (hts : ∀ x ∈ wsX7_fire, x.before args s = true) : va_CN rmX7_fire s args RX7 142 yX4_readable "RainShelves" cX4_readable 3 (some .int) wsX4_readable rmX4_readable 0 0 0 ∧ (Cond.instanceMethod yX4_readable).before args s = true ∧ (Cond.selects RX4 yX4_readable yX4_readable).before args s = true := ⟨va_cnB 0 hts gX7_fire_X4_readable_n142 rfl rfl rfl (hE.nm 22 rfl) (hts (.initialized RX4) (List.mem_of_getElem? (i := 24) rfl)) (by decide +kernel) ⟨Nat.le_of_ble_eq_true rfl, Nat.le_of_ble_eq_true rfl⟩, hts (.instanceMethod yX4_readable) (List.mem_of_getElem? (i := 36) rfl), hts (.selects RX4 yX4_readable yX4_readable) (List.mem_of_getElem? (i := 37) rfl)⟩
theorem cw_X7_fire_X5_bestFire_184 {s : State} {args : Array Value} {D : va_G} {cI cZ cR : ClassId} (hE : EV D cI cZ cR s) (hts : ∀ x ∈ wsX7_fire, x.before args s = true) : va_CN rmX7_fire s args RX7 184 yX5_bestFire "RainShelves" cX5_bestFire 5 (some .int) wsX5_bestFire rmX5_bestFire 0 0 2 ∧ (Cond.instanceMethod yX5_bestFire).before args s = true ∧ (Cond.selects RX5 yX5_bestFire yX5_bestFire).before args s = true := ⟨va_cnB 2 hts gX7_fire_X5_bestFire_n184 rfl rfl rfl (hE.nm 33 rfl) (hts (.initialized RX5) (List.mem_of_getElem? (i := 9) rfl)) (by decide +kernel) ⟨Nat.le_of_ble_eq_true rfl, Nat.le_of_ble_eq_true rfl⟩, hts (.instanceMethod yX5_bestFire) (List.mem_of_getElem? (i := 51) rfl), hts (.selects RX5 yX5_bestFire yX5_bestFire) (List.mem_of_getElem? (i := 52) rfl)⟩
theorem cw_X7_fire_X5_countLeft_187 {s : State} {args : Array Value} {D : va_G} {cI cZ cR : ClassId} (hE : EV D cI cZ cR s) (hts : ∀ x ∈ wsX7_fire, x.before args s = true) : va_CN rmX7_fire s args RX7 187 yX5_countLeft "RainShelves" cX5_countLeft 2 (some .int) wsX5_countLeft rmX5_countLeft 0 0 2 ∧ (Cond.static yX5_countLeft).before args s = true ∧ True := ⟨va_cnB 2 hts gX7_fire_X5_countLeft_n187 rfl rfl rfl (hE.nm 34 rfl) (hts (.initialized RX5) (List.mem_of_getElem? (i := 9) rfl)) (by decide +kernel) ⟨Nat.le_of_ble_eq_true rfl, Nat.le_of_ble_eq_true rfl⟩, hts (.static yX5_countLeft) (List.mem_of_getElem? (i := 59) rfl), trivial⟩
set_option maxRecDepth 100000 in
set_option maxHeartbeats 4000000 in
theorem c_X7_fire (l : Launch) (D : va_G) (cI cZ cR : ClassId) (a_x : Nat) (a_sets : Nat) (a_house : Nat) (a_house_sorts : Nat) (a_sets_weights : Nat) (a_rain : Nat) (a_rain_spoons : Nat) (a_house_shrinks : Nat) (a_house_byAge : Nat) (a_text : Nat) (a_hist : Nat) (a_img_arr : Nat) (a_kept : Nat) (a_told : Nat) (a_frost : Nat) (a_sets_fewest : Nat) (a_house_years : Nat) (a_house_spoons : Nat) (x_traced : Int64) (sets_size : Int32) (sets_shelf : Int32) (sets_hail : Int32) (sets_filled : Int32) (house_pans : Int32) (house_least : Int32) (house_shelf : Int32) (house_sorts : Nat → Int32) (sets_weights : Nat → Int32) (rain_springs : Int32) (rain_lost : Int32) (rain_spoons : Nat → Int32) (house_shrinks : Nat → Int32) (house_byAge : Nat → Int32) (v1 : Int32) (v2 : Int32) (out : Int32 × Int32 × Int32 × Int32 × Int32 × (Nat → Int32)) (hf : f_X7_fire sets_size sets_shelf sets_hail sets_filled house_pans house_least house_shelf house_sorts sets_weights rain_spoons house_shrinks house_byAge v1 v2 = some out) : Ci l yX7_fire wsX7_fire rmX7_fire D cI cZ cR [.ref a_x, .int v1, .int v2] [(a_x, .inr (7, [.ref a_house, .ref a_text, .ref a_rain, .ref a_hist, .ref a_img_arr, .ref a_kept, .ref a_told, .ref a_sets, .ref a_frost, .long x_traced])), (a_sets, .inr (5, [.ref a_sets_weights, .ref a_sets_fewest, .int sets_size, .int sets_shelf, .int sets_hail, .int sets_filled])), (a_house, .inr (2, [.int house_pans, .int house_least, .int house_shelf, .ref a_house_years, .ref a_house_spoons, .ref a_house_shrinks, .ref a_house_sorts, .ref a_house_byAge])), (a_house_sorts, .inl (cI, 7, .inl house_sorts)), (a_sets_weights, .inl (cI, 128, .inl sets_weights)), (a_rain, .inr (4, [.ref a_house, .ref a_rain_spoons, .int rain_springs, .int rain_lost])), (a_rain_spoons, .inl (cI, 49, .inl rain_spoons)), (a_house_shrinks, .inl (cI, 7, .inl house_shrinks)), (a_house_byAge, .inl (cI, 7, .inl house_byAge))] out.1 [(a_x, .inr (7, [.ref a_house, .ref a_text, .ref a_rain, .ref a_hist, .ref a_img_arr, .ref a_kept, .ref a_told, .ref a_sets, .ref a_frost, .long x_traced])), (a_sets, .inr (5, [.ref a_sets_weights, .ref a_sets_fewest, .int out.2.1, .int out.2.2.1, .int out.2.2.2.1, .int out.2.2.2.2.1])), (a_house, .inr (2, [.int house_pans, .int house_least, .int house_shelf, .ref a_house_years, .ref a_house_spoons, .ref a_house_shrinks, .ref a_house_sorts, .ref a_house_byAge])), (a_house_sorts, .inl (cI, 7, .inl house_sorts)), (a_sets_weights, .inl (cI, 128, .inl out.2.2.2.2.2)), (a_rain, .inr (4, [.ref a_house, .ref a_rain_spoons, .int rain_springs, .int rain_lost])), (a_rain_spoons, .inl (cI, 49, .inl rain_spoons)), (a_house_shrinks, .inl (cI, 7, .inl house_shrinks)), (a_house_byAge, .inl (cI, 7, .inl house_byAge))] := by
  refine ent_i (cc := cX7_fire) (maxL := 5) .int (by decide) rfl (Nat.le_of_ble_eq_true rfl) ?_
  intro p e s m below meth c A Q hx hb hml hown hts hE hA hP hD hS hret ls hl
  have hown : s.vm.findClass RX7 = some m.cls := hown
  have hl : lv_has ls 5 [(0, .ref a_x), (1, .int v1), (2, .int v2)] := hl
  have fL10 := hts (.fieldLink RX7 10 "RainShelves" "house" "LRainShelves$House;") (List.mem_of_getElem? (i := 2) rfl)
  have fL28 := hts (.fieldLink RX7 28 "RainShelves" "rain" "LRainShelves$Rain;") (List.mem_of_getElem? (i := 3) rfl)
  have fL57 := hts (.fieldLink RX7 57 "RainShelves" "sets" "LRainShelves$Sets;") (List.mem_of_getElem? (i := 1) rfl)
  unfold f_X7_fire at hf
  refine lv_iload_n hx hb dX7_fire_0 rfl (lv_at hl 1 rfl) ?_
  refine lv_iconst (v := 1) hx hb dX7_fire_1 (by decide) ?_
  refine lv_sipush (v := 400) hx hb dX7_fire_2 (by decide) ?_
  obtain ⟨u1, hu1, hf⟩ := bd_some hf
  refine cl_iS (As := [.int v1, .int 1, .int 400]) (rest := []) ⟨hx, hb, hml, hown, hts⟩ (c_X7_isWithin l D cI cZ cR   v1 1 400 u1 hu1) (cw_X7_fire_X7_isWithin_72 hts) hE hP hD hS hA rfl hl.1 rfl (Nat.le_of_ble_eq_true rfl) dX7_fire_5 ⟨Nat.zero_le _, Nat.zero_le _⟩ (fun H locs hP hS => ?_)
  refine lv_if_eq (tgt := 20) hx hb dX7_fire_8 (by decide) (fun hc1 => ?_) (fun hc1 => ?_)
  · have hf := if_t hf hc1
    refine lv_iconst (v := (-1)) hx hb dX7_fire_20 (by decide) ?_
    have he := Option.some.inj hf
    subst he
    exact hret _ _ _ _ dX7_fire_21 rfl hP hD hS
  · have hf := if_f hf hc1
    refine lv_iload_n hx hb dX7_fire_11 rfl (lv_at hl 2 rfl) ?_
    refine lv_iconst (v := 0) hx hb dX7_fire_12 (by decide) ?_
    refine lv_iconst (v := 1) hx hb dX7_fire_13 (by decide) ?_
    obtain ⟨u2, hu2, hf⟩ := bd_some hf
    refine cl_iS (As := [.int v2, .int 0, .int 1]) (rest := []) ⟨hx, hb, hml, hown, hts⟩ (c_X7_isWithin l D cI cZ cR   v2 0 1 u2 hu2) (cw_X7_fire_X7_isWithin_72 hts) hE hP hD hS hA rfl hl.1 rfl (Nat.le_of_ble_eq_true rfl) dX7_fire_14 ⟨Nat.zero_le _, Nat.zero_le _⟩ (fun H locs hP hS => ?_)
    refine lv_if_ne (tgt := 22) hx hb dX7_fire_17 (by decide) (fun hc2 => ?_) (fun hc2 => ?_)
    · have hf := if_f hf hc2
      refine lv_aload_n hx hb dX7_fire_22 rfl (lv_at hl 0 rfl) ?_
      refine va_get (D := D) (ci := 7) (v := .ref a_sets) (C := RX7) (T := TX7) (N := 10) hx hb hts hiX7_fire_7 hown hE.1 hP 0 rfl rfl 7 (by decide) fL57 (fun _ h9 => h9) rfl dX7_fire_23 ?_
      refine lv_aload_n hx hb dX7_fire_26 rfl (lv_at hl 0 rfl) ?_
      refine va_get (D := D) (ci := 7) (v := .ref a_house) (C := RX7) (T := TX7) (N := 10) hx hb hts hiX7_fire_7 hown hE.1 hP 0 rfl rfl 0 (by decide) fL10 (fun _ h9 => h9) rfl dX7_fire_27 ?_
      refine lv_aload_n hx hb dX7_fire_30 rfl (lv_at hl 0 rfl) ?_
      refine va_get (D := D) (ci := 7) (v := .ref a_rain) (C := RX7) (T := TX7) (N := 10) hx hb hts hiX7_fire_7 hown hE.1 hP 0 rfl rfl 2 (by decide) fL28 (fun _ h9 => h9) rfl dX7_fire_31 ?_
      obtain ⟨u3, hu3, hf⟩ := bd_some hf
      refine cl_vN (As := [.ref a_house, .ref a_rain]) (rest := []) ⟨hx, hb, hml, hown, hts⟩ (c_X5_weigh l D cI cZ cR a_sets a_house a_rain a_house_sorts a_sets_weights a_rain_spoons a_sets_fewest a_house_years a_house_spoons a_house_shrinks a_house_byAge sets_size sets_shelf sets_hail sets_filled house_pans house_least house_shelf house_sorts sets_weights rain_springs rain_lost rain_spoons  u3 hu3) (cw_X7_fire_X5_weigh_180 hE hts) hE hP hD hS hA [1, 2, 3, 4, 5, 6] rfl rfl [a_sets, a_house, a_house_sorts, a_sets_weights, a_rain, a_rain_spoons] rfl rfl 1 5 rfl rfl rfl hl.1 rfl (Nat.le_of_ble_eq_true rfl) dX7_fire_34 ⟨Nat.zero_le _, Nat.zero_le _⟩ (fun H locs hP hD hS => ?_)
      have hPD : PD D A [(a_x, .inr (7, [.ref a_house, .ref a_text, .ref a_rain, .ref a_hist, .ref a_img_arr, .ref a_kept, .ref a_told, .ref a_sets, .ref a_frost, .long x_traced])), (a_sets, .inr (5, [.ref a_sets_weights, .ref a_sets_fewest, .int u3.1, .int u3.2.1, .int u3.2.2.1, .int u3.2.2.2.1])), (a_house, .inr (2, [.int house_pans, .int house_least, .int house_shelf, .ref a_house_years, .ref a_house_spoons, .ref a_house_shrinks, .ref a_house_sorts, .ref a_house_byAge])), (a_house_sorts, .inl (cI, 7, .inl house_sorts)), (a_sets_weights, .inl (cI, 128, .inl u3.2.2.2.2)), (a_rain, .inr (4, [.ref a_house, .ref a_rain_spoons, .int rain_springs, .int rain_lost])), (a_rain_spoons, .inl (cI, 49, .inl rain_spoons)), (a_house_shrinks, .inl (cI, 7, .inl house_shrinks)), (a_house_byAge, .inl (cI, 7, .inl house_byAge))] H := ⟨hP, hD⟩
      obtain ⟨hP, hD⟩ := hPD
      refine lv_aload_n hx hb dX7_fire_37 rfl (lv_at hl 0 rfl) ?_
      refine va_get (D := D) (ci := 7) (v := .ref a_rain) (C := RX7) (T := TX7) (N := 10) hx hb hts hiX7_fire_7 hown hE.1 hP 0 rfl rfl 2 (by decide) fL28 (fun _ h9 => h9) rfl dX7_fire_38 ?_
      obtain ⟨u4, hu4, hf⟩ := bd_some hf
      refine cl_iN (As := []) (rest := []) ⟨hx, hb, hml, hown, hts⟩ (c_X4_readable l D cI cZ cR a_rain a_house a_house_shrinks a_house_byAge a_rain_spoons a_house_years a_house_spoons a_house_sorts rain_springs rain_lost house_pans house_least house_shelf house_shrinks house_byAge rain_spoons  u4 hu4) (cw_X7_fire_X4_readable_142 hE hts) hE hP hD hS hA [5, 2, 7, 8, 6] rfl rfl [a_rain, a_house, a_house_shrinks, a_house_byAge, a_rain_spoons] rfl rfl 5 4 rfl rfl rfl hl.1 rfl (Nat.le_of_ble_eq_true rfl) dX7_fire_41 ⟨Nat.zero_le _, Nat.zero_le _⟩ (fun H locs hP hD hS => ?_)
      have hPD : PD D A [(a_x, .inr (7, [.ref a_house, .ref a_text, .ref a_rain, .ref a_hist, .ref a_img_arr, .ref a_kept, .ref a_told, .ref a_sets, .ref a_frost, .long x_traced])), (a_sets, .inr (5, [.ref a_sets_weights, .ref a_sets_fewest, .int u3.1, .int u3.2.1, .int u3.2.2.1, .int u3.2.2.2.1])), (a_house, .inr (2, [.int house_pans, .int house_least, .int house_shelf, .ref a_house_years, .ref a_house_spoons, .ref a_house_shrinks, .ref a_house_sorts, .ref a_house_byAge])), (a_house_sorts, .inl (cI, 7, .inl house_sorts)), (a_sets_weights, .inl (cI, 128, .inl u3.2.2.2.2)), (a_rain, .inr (4, [.ref a_house, .ref a_rain_spoons, .int rain_springs, .int rain_lost])), (a_rain_spoons, .inl (cI, 49, .inl rain_spoons)), (a_house_shrinks, .inl (cI, 7, .inl house_shrinks)), (a_house_byAge, .inl (cI, 7, .inl house_byAge))] H := ⟨hP, hD⟩
      obtain ⟨hP, hD⟩ := hPD
      refine lv_istore_n (lv' := [(3, .int u4), (0, .ref a_x), (1, .int v1), (2, .int v2)]) hx hb dX7_fire_44 rfl hl (by decide) rfl (fun ls hl => ?_)
      refine lv_aload_n hx hb dX7_fire_45 rfl (lv_at hl 1 rfl) ?_
      refine va_get (D := D) (ci := 7) (v := .ref a_sets) (C := RX7) (T := TX7) (N := 10) hx hb hts hiX7_fire_7 hown hE.1 hP 0 rfl rfl 7 (by decide) fL57 (fun _ h9 => h9) rfl dX7_fire_46 ?_
      refine lv_iload_n hx hb dX7_fire_49 rfl (lv_at hl 2 rfl) ?_
      refine lv_iload_n hx hb dX7_fire_50 rfl (lv_at hl 0 rfl) ?_
      obtain ⟨u5, hu5, hf⟩ := bd_some hf
      refine cl_iN (As := [.int v1, .int u4]) (rest := []) ⟨hx, hb, hml, hown, hts⟩ (c_X5_bestFire l D cI cZ cR a_sets a_sets_weights a_sets_fewest u3.1 u3.2.1 u3.2.2.1 u3.2.2.2.1 u3.2.2.2.2 v1 u4 u5 hu5) (cw_X7_fire_X5_bestFire_184 hE hts) hE hP hD hS hA [1, 4] rfl rfl [a_sets, a_sets_weights] rfl rfl 1 5 rfl rfl rfl hl.1 rfl (Nat.le_of_ble_eq_true rfl) dX7_fire_51 ⟨Nat.zero_le _, Nat.zero_le _⟩ (fun H locs hP hD hS => ?_)
      have hPD : PD D A [(a_x, .inr (7, [.ref a_house, .ref a_text, .ref a_rain, .ref a_hist, .ref a_img_arr, .ref a_kept, .ref a_told, .ref a_sets, .ref a_frost, .long x_traced])), (a_sets, .inr (5, [.ref a_sets_weights, .ref a_sets_fewest, .int u3.1, .int u3.2.1, .int u3.2.2.1, .int u3.2.2.2.1])), (a_house, .inr (2, [.int house_pans, .int house_least, .int house_shelf, .ref a_house_years, .ref a_house_spoons, .ref a_house_shrinks, .ref a_house_sorts, .ref a_house_byAge])), (a_house_sorts, .inl (cI, 7, .inl house_sorts)), (a_sets_weights, .inl (cI, 128, .inl u3.2.2.2.2)), (a_rain, .inr (4, [.ref a_house, .ref a_rain_spoons, .int rain_springs, .int rain_lost])), (a_rain_spoons, .inl (cI, 49, .inl rain_spoons)), (a_house_shrinks, .inl (cI, 7, .inl house_shrinks)), (a_house_byAge, .inl (cI, 7, .inl house_byAge))] H := ⟨hP, hD⟩
      obtain ⟨hP, hD⟩ := hPD
      refine lv_istore (lv' := [(4, .int u5), (3, .int u4), (0, .ref a_x), (1, .int v1), (2, .int v2)]) hx hb dX7_fire_54 hl (by decide) rfl (fun ls hl => ?_)
      refine lv_iload hx hb dX7_fire_56 (lv_at hl 0 rfl) ?_
      refine lv_bipush (v := (-9)) hx hb dX7_fire_58 (by decide) ?_
      refine lv_icmp_eq (tgt := 67) hx hb dX7_fire_60 (by decide) (fun hc3 => ?_) (fun hc3 => ?_)
      · have hf := if_t hf hc3
        refine lv_iload hx hb dX7_fire_67 (lv_at hl 0 rfl) ?_
        have he := Option.some.inj hf
        subst he
        exact hret _ _ _ _ dX7_fire_69 rfl hP hD hS
      · have hf := if_f hf hc3
        refine lv_iload_n hx hb dX7_fire_63 rfl (lv_at hl 4 rfl) ?_
        refine lv_if_ne (tgt := 70) hx hb dX7_fire_64 (by decide) (fun hc4 => ?_) (fun hc4 => ?_)
        · have hf := if_f hf hc4
          refine lv_iload_n hx hb dX7_fire_70 rfl (lv_at hl 1 rfl) ?_
          refine lv_iload hx hb dX7_fire_71 (lv_at hl 0 rfl) ?_
          obtain ⟨u6, hu6, hf⟩ := bd_some hf
          refine cl_iSN (As := [.int u4, .int u5]) (rest := []) ⟨hx, hb, hml, hown, hts⟩ (c_X5_countLeft l D cI cZ cR   u4 u5 u6 hu6) (cw_X7_fire_X5_countLeft_187 hE hts) hE hP hD hS hA rfl hl.1 rfl (Nat.le_of_ble_eq_true rfl) dX7_fire_73 ⟨Nat.zero_le _, Nat.zero_le _⟩ (fun H locs hP hS => ?_)
          have he := Option.some.inj hf
          subst he
          exact hret _ _ _ _ dX7_fire_76 rfl hP hD hS
        · have hf := if_t hf hc4
          refine lv_iload hx hb dX7_fire_67 (lv_at hl 0 rfl) ?_
          have he := Option.some.inj hf
          subst he
          exact hret _ _ _ _ dX7_fire_69 rfl hP hD hS
    · have hf := if_t hf hc2
      refine lv_iconst (v := (-1)) hx hb dX7_fire_20 (by decide) ?_
      have he := Option.some.inj hf
      subst he
      exact hret _ _ _ _ dX7_fire_21 rfl hP hD hS
abbrev rmX7_spoil : Room := { frames := 4, cells := 0, slots := 0, locals := 93 }
theorem hiX7_spoil_2 : ∀ w ∈ wsX20, w ∈ wsX7_spoil := fun w h => (goodIn_r (big := wsX7_spoil) wsX20 [42, 43, 44, 45, 46, 47, 48, 49] rfl (by decide +kernel) w h).1
theorem hiX7_spoil_7 : ∀ w ∈ wsX70, w ∈ wsX7_spoil := fun w h => (goodIn_r (big := wsX7_spoil) wsX70 [32, 33, 34, 35, 36, 37, 38, 39, 40, 41] rfl (by decide +kernel) w h).1
theorem cw_X7_spoil_X2_has_103 {s : State} {args : Array Value} {D : va_G} {cI cZ cR : ClassId} (hE : EV D cI cZ cR s) (hts : ∀ x ∈ wsX7_spoil, x.before args s = true) : va_CN rmX7_spoil s args RX7 103 yX2_has "RainShelves" cX2_has 2 (some .boolean) wsX2_has rmX2_has 0 0 1 ∧ (Cond.instanceMethod yX2_has).before args s = true ∧ (Cond.selects RX2 yX2_has yX2_has).before args s = true := ⟨va_cnB 1 hts gX7_spoil_X2_has_n103 rfl rfl rfl (hE.nm 15 rfl) (hts (.initialized RX2) (List.mem_of_getElem? (i := 4) rfl)) (by decide +kernel) ⟨Nat.le_of_ble_eq_true rfl, Nat.le_of_ble_eq_true rfl⟩, hts (.instanceMethod yX2_has) (List.mem_of_getElem? (i := 3) rfl), hts (.selects RX2 yX2_has yX2_has) (List.mem_of_getElem? (i := 5) rfl)⟩
theorem cw_X7_spoil_X4_canBeRead_120 {s : State} {args : Array Value} {D : va_G} {cI cZ cR : ClassId} (hE : EV D cI cZ cR s) (hts : ∀ x ∈ wsX7_spoil, x.before args s = true) : va_CN rmX7_spoil s args RX7 120 yX4_canBeRead "RainShelves" cX4_canBeRead 2 (some .boolean) wsX4_canBeRead rmX4_canBeRead 0 0 1 ∧ (Cond.instanceMethod yX4_canBeRead).before args s = true ∧ (Cond.selects RX4 yX4_canBeRead yX4_canBeRead).before args s = true := ⟨va_cnB 1 hts gX7_spoil_X4_canBeRead_n120 rfl rfl rfl (hE.nm 17 rfl) (hts (.initialized RX4) (List.mem_of_getElem? (i := 9) rfl)) (by decide +kernel) ⟨Nat.le_of_ble_eq_true rfl, Nat.le_of_ble_eq_true rfl⟩, hts (.instanceMethod yX4_canBeRead) (List.mem_of_getElem? (i := 8) rfl), hts (.selects RX4 yX4_canBeRead yX4_canBeRead) (List.mem_of_getElem? (i := 10) rfl)⟩
theorem cw_X7_spoil_X4_inPan_116 {s : State} {args : Array Value} {D : va_G} {cI cZ cR : ClassId} (hE : EV D cI cZ cR s) (hts : ∀ x ∈ wsX7_spoil, x.before args s = true) : va_CN rmX7_spoil s args RX7 116 yX4_inPan "RainShelves" cX4_inPan 4 (some .int) wsX4_inPan rmX4_inPan 0 0 1 ∧ (Cond.instanceMethod yX4_inPan).before args s = true ∧ (Cond.selects RX4 yX4_inPan yX4_inPan).before args s = true := ⟨va_cnB 1 hts gX7_spoil_X4_inPan_n116 rfl rfl rfl (hE.nm 16 rfl) (hts (.initialized RX4) (List.mem_of_getElem? (i := 9) rfl)) (by decide +kernel) ⟨Nat.le_of_ble_eq_true rfl, Nat.le_of_ble_eq_true rfl⟩, hts (.instanceMethod yX4_inPan) (List.mem_of_getElem? (i := 29) rfl), hts (.selects RX4 yX4_inPan yX4_inPan) (List.mem_of_getElem? (i := 30) rfl)⟩
set_option maxRecDepth 100000 in
set_option maxHeartbeats 4000000 in
theorem c_X7_spoil (l : Launch) (D : va_G) (cI cZ cR : ClassId) (a_x : Nat) (a_house : Nat) (a_rain : Nat) (a_house_shrinks : Nat) (a_house_byAge : Nat) (a_rain_spoons : Nat) (a_text : Nat) (a_hist : Nat) (a_img_arr : Nat) (a_kept : Nat) (a_told : Nat) (a_sets : Nat) (a_frost : Nat) (a_house_years : Nat) (a_house_spoons : Nat) (a_house_sorts : Nat) (x_traced : Int64) (house_pans : Int32) (house_least : Int32) (house_shelf : Int32) (rain_springs : Int32) (rain_lost : Int32) (house_shrinks : Nat → Int32) (house_byAge : Nat → Int32) (rain_spoons : Nat → Int32) (v1 : Int32) (out : Int32) (hf : f_X7_spoil house_pans house_least house_shrinks house_byAge rain_spoons v1 = some out) : Ci l yX7_spoil wsX7_spoil rmX7_spoil D cI cZ cR [.ref a_x, .int v1] [(a_x, .inr (7, [.ref a_house, .ref a_text, .ref a_rain, .ref a_hist, .ref a_img_arr, .ref a_kept, .ref a_told, .ref a_sets, .ref a_frost, .long x_traced])), (a_house, .inr (2, [.int house_pans, .int house_least, .int house_shelf, .ref a_house_years, .ref a_house_spoons, .ref a_house_shrinks, .ref a_house_sorts, .ref a_house_byAge])), (a_rain, .inr (4, [.ref a_house, .ref a_rain_spoons, .int rain_springs, .int rain_lost])), (a_house_shrinks, .inl (cI, 7, .inl house_shrinks)), (a_house_byAge, .inl (cI, 7, .inl house_byAge)), (a_rain_spoons, .inl (cI, 49, .inl rain_spoons))] out [(a_x, .inr (7, [.ref a_house, .ref a_text, .ref a_rain, .ref a_hist, .ref a_img_arr, .ref a_kept, .ref a_told, .ref a_sets, .ref a_frost, .long x_traced])), (a_house, .inr (2, [.int house_pans, .int house_least, .int house_shelf, .ref a_house_years, .ref a_house_spoons, .ref a_house_shrinks, .ref a_house_sorts, .ref a_house_byAge])), (a_rain, .inr (4, [.ref a_house, .ref a_rain_spoons, .int rain_springs, .int rain_lost])), (a_house_shrinks, .inl (cI, 7, .inl house_shrinks)), (a_house_byAge, .inl (cI, 7, .inl house_byAge)), (a_rain_spoons, .inl (cI, 49, .inl rain_spoons))] := by
  refine ent_i (cc := cX7_spoil) (maxL := 2) .int (by decide) rfl (Nat.le_of_ble_eq_true rfl) ?_
  intro p e s m below meth c A Q hx hb hml hown hts hE hA hP hD hS hret ls hl
  have hown : s.vm.findClass RX7 = some m.cls := hown
  have hl : lv_has ls 2 [(0, .ref a_x), (1, .int v1)] := hl
  have fL10 := hts (.fieldLink RX7 10 "RainShelves" "house" "LRainShelves$House;") (List.mem_of_getElem? (i := 1) rfl)
  have fL28 := hts (.fieldLink RX7 28 "RainShelves" "rain" "LRainShelves$Rain;") (List.mem_of_getElem? (i := 2) rfl)
  have fL190 : (Cond.fieldLinkNest RX7 190 "RainShelves$House" "least" "I" "RainShelves").before ([.ref a_x, .int v1] : List Value).toArray s = true := hE.nf 6 rfl
  unfold f_X7_spoil at hf
  refine lv_aload_n hx hb dX7_spoil_0 rfl (lv_at hl 0 rfl) ?_
  refine va_get (D := D) (ci := 7) (v := .ref a_house) (C := RX7) (T := TX7) (N := 10) hx hb hts hiX7_spoil_7 hown hE.1 hP 0 rfl rfl 0 (by decide) fL10 (fun _ h9 => h9) rfl dX7_spoil_1 ?_
  refine lv_iload_n hx hb dX7_spoil_4 rfl (lv_at hl 1 rfl) ?_
  obtain ⟨u1, hu1, hf⟩ := bd_some hf
  refine cl_iN (As := [.int v1]) (rest := []) ⟨hx, hb, hml, hown, hts⟩ (c_X2_has l D cI cZ cR a_house a_house_years a_house_spoons a_house_shrinks a_house_sorts a_house_byAge house_pans house_least house_shelf v1 u1 hu1) (cw_X7_spoil_X2_has_103 hE hts) hE hP hD hS hA [1] rfl rfl [a_house] rfl rfl 1 2 rfl rfl rfl hl.1 rfl (Nat.le_of_ble_eq_true rfl) dX7_spoil_5 ⟨Nat.zero_le _, Nat.zero_le _⟩ (fun H locs hP hD hS => ?_)
  have hPD : PD D A [(a_x, .inr (7, [.ref a_house, .ref a_text, .ref a_rain, .ref a_hist, .ref a_img_arr, .ref a_kept, .ref a_told, .ref a_sets, .ref a_frost, .long x_traced])), (a_house, .inr (2, [.int house_pans, .int house_least, .int house_shelf, .ref a_house_years, .ref a_house_spoons, .ref a_house_shrinks, .ref a_house_sorts, .ref a_house_byAge])), (a_rain, .inr (4, [.ref a_house, .ref a_rain_spoons, .int rain_springs, .int rain_lost])), (a_house_shrinks, .inl (cI, 7, .inl house_shrinks)), (a_house_byAge, .inl (cI, 7, .inl house_byAge)), (a_rain_spoons, .inl (cI, 49, .inl rain_spoons))] H := ⟨hP, hD⟩
  obtain ⟨hP, hD⟩ := hPD
  refine lv_if_ne (tgt := 13) hx hb dX7_spoil_8 (by decide) (fun hc1 => ?_) (fun hc1 => ?_)
  · have hf := if_f hf hc1
    refine lv_aload_n hx hb dX7_spoil_13 rfl (lv_at hl 0 rfl) ?_
    refine va_get (D := D) (ci := 7) (v := .ref a_rain) (C := RX7) (T := TX7) (N := 10) hx hb hts hiX7_spoil_7 hown hE.1 hP 0 rfl rfl 2 (by decide) fL28 (fun _ h9 => h9) rfl dX7_spoil_14 ?_
    refine lv_iload_n hx hb dX7_spoil_17 rfl (lv_at hl 1 rfl) ?_
    obtain ⟨u2, hu2, hf⟩ := bd_some hf
    refine cl_iN (As := [.int v1]) (rest := []) ⟨hx, hb, hml, hown, hts⟩ (c_X4_canBeRead l D cI cZ cR a_rain a_house a_house_shrinks a_house_byAge a_rain_spoons a_house_years a_house_spoons a_house_sorts rain_springs rain_lost house_pans house_least house_shelf house_shrinks house_byAge rain_spoons v1 u2 hu2) (cw_X7_spoil_X4_canBeRead_120 hE hts) hE hP hD hS hA [2, 1, 3, 4, 5] rfl rfl [a_rain, a_house, a_house_shrinks, a_house_byAge, a_rain_spoons] rfl rfl 2 4 rfl rfl rfl hl.1 rfl (Nat.le_of_ble_eq_true rfl) dX7_spoil_18 ⟨Nat.zero_le _, Nat.zero_le _⟩ (fun H locs hP hD hS => ?_)
    have hPD : PD D A [(a_x, .inr (7, [.ref a_house, .ref a_text, .ref a_rain, .ref a_hist, .ref a_img_arr, .ref a_kept, .ref a_told, .ref a_sets, .ref a_frost, .long x_traced])), (a_house, .inr (2, [.int house_pans, .int house_least, .int house_shelf, .ref a_house_years, .ref a_house_spoons, .ref a_house_shrinks, .ref a_house_sorts, .ref a_house_byAge])), (a_rain, .inr (4, [.ref a_house, .ref a_rain_spoons, .int rain_springs, .int rain_lost])), (a_house_shrinks, .inl (cI, 7, .inl house_shrinks)), (a_house_byAge, .inl (cI, 7, .inl house_byAge)), (a_rain_spoons, .inl (cI, 49, .inl rain_spoons))] H := ⟨hP, hD⟩
    obtain ⟨hP, hD⟩ := hPD
    refine lv_if_eq (tgt := 45) hx hb dX7_spoil_21 (by decide) (fun hc2 => ?_) (fun hc2 => ?_)
    · have hf := if_t hf hc2
      refine lv_iconst (v := 0) hx hb dX7_spoil_45 (by decide) ?_
      have he := Option.some.inj hf
      subst he
      exact hret _ _ _ _ dX7_spoil_46 rfl hP hD hS
    · have hf := if_f hf hc2
      refine lv_aload_n hx hb dX7_spoil_24 rfl (lv_at hl 0 rfl) ?_
      refine va_get (D := D) (ci := 7) (v := .ref a_rain) (C := RX7) (T := TX7) (N := 10) hx hb hts hiX7_spoil_7 hown hE.1 hP 0 rfl rfl 2 (by decide) fL28 (fun _ h9 => h9) rfl dX7_spoil_25 ?_
      refine lv_iload_n hx hb dX7_spoil_28 rfl (lv_at hl 1 rfl) ?_
      obtain ⟨u3, hu3, hf⟩ := bd_some hf
      refine cl_iN (As := [.int v1]) (rest := []) ⟨hx, hb, hml, hown, hts⟩ (c_X4_inPan l D cI cZ cR a_rain a_house a_rain_spoons a_house_years a_house_spoons a_house_shrinks a_house_sorts a_house_byAge rain_springs rain_lost house_pans house_least house_shelf rain_spoons v1 u3 hu3) (cw_X7_spoil_X4_inPan_116 hE hts) hE hP hD hS hA [2, 1, 5] rfl rfl [a_rain, a_house, a_rain_spoons] rfl rfl 2 4 rfl rfl rfl hl.1 rfl (Nat.le_of_ble_eq_true rfl) dX7_spoil_29 ⟨Nat.zero_le _, Nat.zero_le _⟩ (fun H locs hP hD hS => ?_)
      have hPD : PD D A [(a_x, .inr (7, [.ref a_house, .ref a_text, .ref a_rain, .ref a_hist, .ref a_img_arr, .ref a_kept, .ref a_told, .ref a_sets, .ref a_frost, .long x_traced])), (a_house, .inr (2, [.int house_pans, .int house_least, .int house_shelf, .ref a_house_years, .ref a_house_spoons, .ref a_house_shrinks, .ref a_house_sorts, .ref a_house_byAge])), (a_rain, .inr (4, [.ref a_house, .ref a_rain_spoons, .int rain_springs, .int rain_lost])), (a_house_shrinks, .inl (cI, 7, .inl house_shrinks)), (a_house_byAge, .inl (cI, 7, .inl house_byAge)), (a_rain_spoons, .inl (cI, 49, .inl rain_spoons))] H := ⟨hP, hD⟩
      obtain ⟨hP, hD⟩ := hPD
      refine lv_aload_n hx hb dX7_spoil_32 rfl (lv_at hl 0 rfl) ?_
      refine va_get (D := D) (ci := 7) (v := .ref a_house) (C := RX7) (T := TX7) (N := 10) hx hb hts hiX7_spoil_7 hown hE.1 hP 0 rfl rfl 0 (by decide) fL10 (fun _ h9 => h9) rfl dX7_spoil_33 ?_
      refine va_getN (D := D) (ci := 2) (v := .int house_least) (C := RX2) (T := TX2) (N := 8) hx hb hts hiX7_spoil_2 hown hE.1 hP 1 rfl rfl 1 (by decide) fL190 (fun _ h9 => h9) rfl dX7_spoil_36 ?_
      refine lv_isub hx hb dX7_spoil_39 ?_
      refine lv_iconst (v := 1) hx hb dX7_spoil_40 (by decide) ?_
      refine lv_iadd hx hb dX7_spoil_41 ?_
      refine lv_goto (tgt := 46) hx hb dX7_spoil_42 (by decide) ?_
      have he := Option.some.inj hf
      subst he
      exact hret _ _ _ _ dX7_spoil_46 rfl hP hD hS
  · have hf := if_t hf hc1
    refine lv_iconst (v := (-1)) hx hb dX7_spoil_11 (by decide) ?_
    have he := Option.some.inj hf
    subst he
    exact hret _ _ _ _ dX7_spoil_12 rfl hP hD hS
abbrev rmX7_mix : Room := { frames := 1, cells := 0, slots := 0, locals := 25 }
theorem hiX7_mix_2 : ∀ w ∈ wsX20, w ∈ wsX7_mix := fun w h => (goodIn_r (big := wsX7_mix) wsX20 [21, 22, 23, 24, 25, 26, 27, 28] rfl (by decide +kernel) w h).1
theorem hiX7_mix_7 : ∀ w ∈ wsX70, w ∈ wsX7_mix := fun w h => (goodIn_r (big := wsX7_mix) wsX70 [11, 12, 13, 14, 15, 16, 17, 18, 19, 20] rfl (by decide +kernel) w h).1
theorem cw_X7_mix_X2_spoonsOfLesser_193 {s : State} {args : Array Value} {D : va_G} {cI cZ cR : ClassId} (hE : EV D cI cZ cR s) (hts : ∀ x ∈ wsX7_mix, x.before args s = true) : va_CN rmX7_mix s args RX7 193 yX2_spoonsOfLesser "RainShelves" cX2_spoonsOfLesser 6 (some .int) wsX2_spoonsOfLesser rmX2_spoonsOfLesser 0 0 4 ∧ (Cond.instanceMethod yX2_spoonsOfLesser).before args s = true ∧ (Cond.selects RX2 yX2_spoonsOfLesser yX2_spoonsOfLesser).before args s = true := ⟨va_cnB 4 hts gX7_mix_X2_spoonsOfLesser_n193 rfl rfl rfl (hE.nm 35 rfl) (hts (.initialized RX2) (List.mem_of_getElem? (i := 7) rfl)) (by decide +kernel) ⟨Nat.le_of_ble_eq_true rfl, Nat.le_of_ble_eq_true rfl⟩, hts (.instanceMethod yX2_spoonsOfLesser) (List.mem_of_getElem? (i := 6) rfl), hts (.selects RX2 yX2_spoonsOfLesser yX2_spoonsOfLesser) (List.mem_of_getElem? (i := 8) rfl)⟩
theorem cw_X7_mix_X7_isWithin_72 {s : State} {args : Array Value} (hts : ∀ x ∈ wsX7_mix, x.before args s = true) : CallB rmX7_mix s args RX7 72 yX7_isWithin cX7_isWithin 3 (some .boolean) wsX7_isWithin rmX7_isWithin 0 0 3 ∧ (Cond.static yX7_isWithin).before args s = true := va_cwS 3 hts gX7_mix_X7_isWithin rfl rfl rfl (by decide +kernel) ⟨Nat.le_of_ble_eq_true rfl, Nat.le_of_ble_eq_true rfl⟩
set_option maxRecDepth 100000 in
set_option maxHeartbeats 4000000 in
theorem c_X7_mix (l : Launch) (D : va_G) (cI cZ cR : ClassId) (a_x : Nat) (a_house : Nat) (a_house_years : Nat) (a_text : Nat) (a_rain : Nat) (a_hist : Nat) (a_img_arr : Nat) (a_kept : Nat) (a_told : Nat) (a_sets : Nat) (a_frost : Nat) (a_house_spoons : Nat) (a_house_shrinks : Nat) (a_house_sorts : Nat) (a_house_byAge : Nat) (x_traced : Int64) (house_pans : Int32) (house_least : Int32) (house_shelf : Int32) (house_years : Nat → Int32) (v1 : Int32) (v2 : Int32) (v3 : Int32) (out : Int32) (hf : f_X7_mix house_pans house_years v1 v2 v3 = some out) : Ci l yX7_mix wsX7_mix rmX7_mix D cI cZ cR [.ref a_x, .int v1, .int v2, .int v3] [(a_x, .inr (7, [.ref a_house, .ref a_text, .ref a_rain, .ref a_hist, .ref a_img_arr, .ref a_kept, .ref a_told, .ref a_sets, .ref a_frost, .long x_traced])), (a_house, .inr (2, [.int house_pans, .int house_least, .int house_shelf, .ref a_house_years, .ref a_house_spoons, .ref a_house_shrinks, .ref a_house_sorts, .ref a_house_byAge])), (a_house_years, .inl (cI, 7, .inl house_years))] out [(a_x, .inr (7, [.ref a_house, .ref a_text, .ref a_rain, .ref a_hist, .ref a_img_arr, .ref a_kept, .ref a_told, .ref a_sets, .ref a_frost, .long x_traced])), (a_house, .inr (2, [.int house_pans, .int house_least, .int house_shelf, .ref a_house_years, .ref a_house_spoons, .ref a_house_shrinks, .ref a_house_sorts, .ref a_house_byAge])), (a_house_years, .inl (cI, 7, .inl house_years))] := by
  refine ent_i (cc := cX7_mix) (maxL := 9) .int (by decide) rfl (Nat.le_of_ble_eq_true rfl) ?_
  intro p e s m below meth c A Q hx hb hml hown hts hE hA hP hD hS hret ls hl
  have hown : s.vm.findClass RX7 = some m.cls := hown
  have hl : lv_has ls 9 [(0, .ref a_x), (1, .int v1), (2, .int v2), (3, .int v3)] := hl
  have fL10 := hts (.fieldLink RX7 10 "RainShelves" "house" "LRainShelves$House;") (List.mem_of_getElem? (i := 1) rfl)
  have fL172 : (Cond.fieldLinkNest RX7 172 "RainShelves$House" "pans" "I" "RainShelves").before ([.ref a_x, .int v1, .int v2, .int v3] : List Value).toArray s = true := hE.nf 3 rfl
  unfold f_X7_mix at hf
  have L42 : ∀ (n42 : Nat) (v4_42 : Int32) (v5_42 : Int32) (v6_42 : Int32), f_X7_mix_L42 house_pans house_years v1 v2 v3 n42 v4_42 v5_42 v6_42 = some out → ∀ (H : Heap) (locs : List Loc) (ls : Array Slot), PD D A [(a_x, .inr (7, [.ref a_house, .ref a_text, .ref a_rain, .ref a_hist, .ref a_img_arr, .ref a_kept, .ref a_told, .ref a_sets, .ref a_frost, .long x_traced])), (a_house, .inr (2, [.int house_pans, .int house_least, .int house_shelf, .ref a_house_years, .ref a_house_spoons, .ref a_house_shrinks, .ref a_house_sorts, .ref a_house_byAge])), (a_house_years, .inl (cI, 7, .inl house_years))] H → va_S A s.heap H locs → lv_has ls 9 [(0, .ref a_x), (1, .int v1), (2, .int v2), (3, .int v3), (4, .int v4_42), (5, .int v5_42), (6, .int v6_42)] → W p l e rmX7_mix s m ([.ref a_x, .int v1, .int v2, .int v3] : List Value).toArray below meth c H locs 0 0 Q (F0 m 42 ls []) := by
    intro  n42
    induction n42 with
    | zero => intro v4_42 v5_42 v6_42 hf; cases hf
    | succ n42 ih42 =>
      intro v4_42 v5_42 v6_42 hf H locs ls hPD hS hl
      obtain ⟨hP, hD⟩ := hPD
      have hf : f_X7_mix_B42 house_pans house_years v1 v2 v3 (f_X7_mix_L42 house_pans house_years v1 v2 v3 n42) v4_42 v5_42 v6_42 = some out := hf
      unfold f_X7_mix_B42 at hf
      have L60 : ∀ (n60 : Nat) (v4_60 : Int32) (v5_60 : Int32) (v7_60 : Int32), f_X7_mix_L60 house_pans house_years v6_42 v1 v2 (f_X7_mix_L42 house_pans house_years v1 v2 v3 n42) n60 v4_60 v5_60 v7_60 = some out → ∀ (H : Heap) (locs : List Loc) (ls : Array Slot), PD D A [(a_x, .inr (7, [.ref a_house, .ref a_text, .ref a_rain, .ref a_hist, .ref a_img_arr, .ref a_kept, .ref a_told, .ref a_sets, .ref a_frost, .long x_traced])), (a_house, .inr (2, [.int house_pans, .int house_least, .int house_shelf, .ref a_house_years, .ref a_house_spoons, .ref a_house_shrinks, .ref a_house_sorts, .ref a_house_byAge])), (a_house_years, .inl (cI, 7, .inl house_years))] H → va_S A s.heap H locs → lv_has ls 9 [(0, .ref a_x), (1, .int v1), (2, .int v2), (3, .int v3), (4, .int v4_60), (5, .int v5_60), (6, .int v6_42), (7, .int v7_60)] → W p l e rmX7_mix s m ([.ref a_x, .int v1, .int v2, .int v3] : List Value).toArray below meth c H locs 0 0 Q (F0 m 60 ls []) := by
        intro  n60
        induction n60 with
        | zero => intro v4_60 v5_60 v7_60 hf; cases hf
        | succ n60 ih60 =>
          intro v4_60 v5_60 v7_60 hf H locs ls hPD hS hl
          obtain ⟨hP, hD⟩ := hPD
          have hf : f_X7_mix_B60 house_pans house_years v6_42 v1 v2 (f_X7_mix_L42 house_pans house_years v1 v2 v3 n42) (f_X7_mix_L60 house_pans house_years v6_42 v1 v2 (f_X7_mix_L42 house_pans house_years v1 v2 v3 n42) n60) v4_60 v5_60 v7_60 = some out := hf
          unfold f_X7_mix_B60 at hf
          refine lv_iload hx hb dX7_mix_60 (lv_at hl 7 rfl) ?_
          refine lv_aload_n hx hb dX7_mix_62 rfl (lv_at hl 0 rfl) ?_
          refine va_get (D := D) (ci := 7) (v := .ref a_house) (C := RX7) (T := TX7) (N := 10) hx hb hts hiX7_mix_7 hown hE.1 hP 0 rfl rfl 0 (by decide) fL10 (fun _ h9 => h9) rfl dX7_mix_63 ?_
          refine va_getN (D := D) (ci := 2) (v := .int house_pans) (C := RX2) (T := TX2) (N := 8) hx hb hts hiX7_mix_2 hown hE.1 hP 1 rfl rfl 0 (by decide) fL172 (fun _ h9 => h9) rfl dX7_mix_66 ?_
          refine lv_icmp_ge (tgt := 130) hx hb dX7_mix_69 (by decide) (fun hc1 => ?_) (fun hc1 => ?_)
          · have hf := if_t hf hc1
            refine lv_iinc (v := (v6_42 + 1)) (lv' := [(6, .int (v6_42 + 1)), (0, .ref a_x), (1, .int v1), (2, .int v2), (3, .int v3), (4, .int v4_60), (5, .int v5_60), (7, .int v7_60)]) hx hb dX7_mix_130 hl (k := 6) rfl (ii_p1 _) (by decide) rfl (fun ls hl => ?_)
            refine lv_goto (tgt := 42) hx hb dX7_mix_133 (by decide) ?_
            exact ih42 v4_60 v5_60 (v6_42 + 1) hf _ _ _ ⟨hP, hD⟩ hS (lv_sub hl [1, 2, 3, 4, 5, 6, 0] rfl)
          · have hf := if_f hf hc1
            refine lv_aload_n hx hb dX7_mix_72 rfl (lv_at hl 0 rfl) ?_
            refine va_get (D := D) (ci := 7) (v := .ref a_house) (C := RX7) (T := TX7) (N := 10) hx hb hts hiX7_mix_7 hown hE.1 hP 0 rfl rfl 0 (by decide) fL10 (fun _ h9 => h9) rfl dX7_mix_73 ?_
            refine lv_iload hx hb dX7_mix_76 (lv_at hl 6 rfl) ?_
            refine lv_iload hx hb dX7_mix_78 (lv_at hl 7 rfl) ?_
            refine lv_iload_n hx hb dX7_mix_80 rfl (lv_at hl 1 rfl) ?_
            refine lv_iload_n hx hb dX7_mix_81 rfl (lv_at hl 2 rfl) ?_
            obtain ⟨u1, hu1, hf⟩ := bd_some hf
            refine cl_iN (As := [.int v6_42, .int v7_60, .int v1, .int v2]) (rest := []) ⟨hx, hb, hml, hown, hts⟩ (c_X2_spoonsOfLesser l D cI cZ cR a_house a_house_years a_house_spoons a_house_shrinks a_house_sorts a_house_byAge house_pans house_least house_shelf house_years v6_42 v7_60 v1 v2 u1 hu1) (cw_X7_mix_X2_spoonsOfLesser_193 hE hts) hE hP hD hS hA [1, 2] rfl rfl [a_house, a_house_years] rfl rfl 1 2 rfl rfl rfl hl.1 rfl (Nat.le_of_ble_eq_true rfl) dX7_mix_82 ⟨Nat.zero_le _, Nat.zero_le _⟩ (fun H locs hP hD hS => ?_)
            have hPD : PD D A [(a_x, .inr (7, [.ref a_house, .ref a_text, .ref a_rain, .ref a_hist, .ref a_img_arr, .ref a_kept, .ref a_told, .ref a_sets, .ref a_frost, .long x_traced])), (a_house, .inr (2, [.int house_pans, .int house_least, .int house_shelf, .ref a_house_years, .ref a_house_spoons, .ref a_house_shrinks, .ref a_house_sorts, .ref a_house_byAge])), (a_house_years, .inl (cI, 7, .inl house_years))] H := ⟨hP, hD⟩
            obtain ⟨hP, hD⟩ := hPD
            refine lv_istore (lv' := [(8, .int u1), (0, .ref a_x), (1, .int v1), (2, .int v2), (3, .int v3), (4, .int v4_60), (5, .int v5_60), (6, .int v6_42), (7, .int v7_60)]) hx hb dX7_mix_85 hl (by decide) rfl (fun ls hl => ?_)
            refine lv_iload hx hb dX7_mix_87 (lv_at hl 0 rfl) ?_
            refine lv_if_le (tgt := 124) hx hb dX7_mix_89 (by decide) (fun hc2 => ?_) (fun hc2 => ?_)
            · have hf := if_t hf hc2
              refine lv_iinc (v := (v7_60 + 1)) (lv' := [(7, .int (v7_60 + 1)), (8, .int u1), (0, .ref a_x), (1, .int v1), (2, .int v2), (3, .int v3), (4, .int v4_60), (5, .int v5_60), (6, .int v6_42)]) hx hb dX7_mix_124 hl (k := 8) rfl (ii_p1 _) (by decide) rfl (fun ls hl => ?_)
              refine lv_goto (tgt := 60) hx hb dX7_mix_127 (by decide) ?_
              exact ih60 v4_60 v5_60 (v7_60 + 1) hf _ _ _ ⟨hP, hD⟩ hS (lv_sub hl [2, 3, 4, 5, 6, 7, 8, 0] rfl)
            · have hf := if_f hf hc2
              refine lv_iinc (v := (v4_60 + 1)) (lv' := [(4, .int (v4_60 + 1)), (8, .int u1), (0, .ref a_x), (1, .int v1), (2, .int v2), (3, .int v3), (5, .int v5_60), (6, .int v6_42), (7, .int v7_60)]) hx hb dX7_mix_92 hl (k := 5) rfl (ii_p1 _) (by decide) rfl (fun ls hl => ?_)
              refine lv_iload hx hb dX7_mix_95 (lv_at hl 6 rfl) ?_
              refine lv_bipush (v := (-9)) hx hb dX7_mix_97 (by decide) ?_
              refine lv_icmp_ne (tgt := 120) hx hb dX7_mix_99 (by decide) (fun hc3 => ?_) (fun hc3 => ?_)
              · have hf := if_f hf hc3
                refine lv_iload hx hb dX7_mix_120 (lv_at hl 6 rfl) ?_
                refine lv_istore (lv' := [(5, .int v5_60), (4, .int (v4_60 + 1)), (8, .int u1), (0, .ref a_x), (1, .int v1), (2, .int v2), (3, .int v3), (6, .int v6_42), (7, .int v7_60)]) hx hb dX7_mix_122 hl (by decide) rfl (fun ls hl => ?_)
                refine lv_iinc (v := (v7_60 + 1)) (lv' := [(7, .int (v7_60 + 1)), (5, .int v5_60), (4, .int (v4_60 + 1)), (8, .int u1), (0, .ref a_x), (1, .int v1), (2, .int v2), (3, .int v3), (6, .int v6_42)]) hx hb dX7_mix_124 hl (k := 8) rfl (ii_p1 _) (by decide) rfl (fun ls hl => ?_)
                refine lv_goto (tgt := 60) hx hb dX7_mix_127 (by decide) ?_
                exact ih60 (v4_60 + 1) v5_60 (v7_60 + 1) hf _ _ _ ⟨hP, hD⟩ hS (lv_sub hl [4, 5, 6, 7, 2, 1, 8, 0] rfl)
              · have hf := if_t hf hc3
                refine lv_sipush (v := 1000) hx hb dX7_mix_102 (by decide) ?_
                refine lv_iload hx hb dX7_mix_105 (lv_at hl 7 rfl) ?_
                refine lv_imul hx hb dX7_mix_107 ?_
                refine lv_bipush (v := 100) hx hb dX7_mix_108 (by decide) ?_
                refine lv_iload hx hb dX7_mix_110 (lv_at hl 8 rfl) ?_
                refine lv_imul hx hb dX7_mix_112 ?_
                refine lv_iadd hx hb dX7_mix_113 ?_
                refine lv_iload hx hb dX7_mix_114 (lv_at hl 1 rfl) ?_
                refine lv_iadd hx hb dX7_mix_116 ?_
                refine lv_goto (tgt := 122) hx hb dX7_mix_117 (by decide) ?_
                refine lv_istore (lv' := [(5, .int (((1000 * v6_42) + (100 * v7_60)) + u1)), (4, .int (v4_60 + 1)), (8, .int u1), (0, .ref a_x), (1, .int v1), (2, .int v2), (3, .int v3), (6, .int v6_42), (7, .int v7_60)]) hx hb dX7_mix_122 hl (by decide) rfl (fun ls hl => ?_)
                refine lv_iinc (v := (v7_60 + 1)) (lv' := [(7, .int (v7_60 + 1)), (5, .int (((1000 * v6_42) + (100 * v7_60)) + u1)), (4, .int (v4_60 + 1)), (8, .int u1), (0, .ref a_x), (1, .int v1), (2, .int v2), (3, .int v3), (6, .int v6_42)]) hx hb dX7_mix_124 hl (k := 8) rfl (ii_p1 _) (by decide) rfl (fun ls hl => ?_)
                refine lv_goto (tgt := 60) hx hb dX7_mix_127 (by decide) ?_
                exact ih60 (v4_60 + 1) (((1000 * v6_42) + (100 * v7_60)) + u1) (v7_60 + 1) hf _ _ _ ⟨hP, hD⟩ hS (lv_sub hl [4, 5, 6, 7, 2, 1, 8, 0] rfl)
      refine lv_iload hx hb dX7_mix_42 (lv_at hl 6 rfl) ?_
      refine lv_aload_n hx hb dX7_mix_44 rfl (lv_at hl 0 rfl) ?_
      refine va_get (D := D) (ci := 7) (v := .ref a_house) (C := RX7) (T := TX7) (N := 10) hx hb hts hiX7_mix_7 hown hE.1 hP 0 rfl rfl 0 (by decide) fL10 (fun _ h9 => h9) rfl dX7_mix_45 ?_
      refine va_getN (D := D) (ci := 2) (v := .int house_pans) (C := RX2) (T := TX2) (N := 8) hx hb hts hiX7_mix_2 hown hE.1 hP 1 rfl rfl 0 (by decide) fL172 (fun _ h9 => h9) rfl dX7_mix_48 ?_
      refine lv_icmp_ge (tgt := 136) hx hb dX7_mix_51 (by decide) (fun hc4 => ?_) (fun hc4 => ?_)
      · have hf := if_t hf hc4
        refine lv_iload_n hx hb dX7_mix_136 rfl (lv_at hl 3 rfl) ?_
        refine lv_if_ne (tgt := 145) hx hb dX7_mix_137 (by decide) (fun hc5 => ?_) (fun hc5 => ?_)
        · have hf := if_f hf hc5
          refine lv_iload hx hb dX7_mix_145 (lv_at hl 5 rfl) ?_
          have he := Option.some.inj hf
          subst he
          exact hret _ _ _ _ dX7_mix_147 rfl hP hD hS
        · have hf := if_t hf hc5
          refine lv_iload hx hb dX7_mix_140 (lv_at hl 4 rfl) ?_
          refine lv_goto (tgt := 147) hx hb dX7_mix_142 (by decide) ?_
          have he := Option.some.inj hf
          subst he
          exact hret _ _ _ _ dX7_mix_147 rfl hP hD hS
      · have hf := if_f hf hc4
        refine lv_iload hx hb dX7_mix_54 (lv_at hl 6 rfl) ?_
        refine lv_iconst (v := 1) hx hb dX7_mix_56 (by decide) ?_
        refine lv_iadd hx hb dX7_mix_57 ?_
        refine lv_istore (lv' := [(7, .int (v6_42 + 1)), (0, .ref a_x), (1, .int v1), (2, .int v2), (3, .int v3), (4, .int v4_42), (5, .int v5_42), (6, .int v6_42)]) hx hb dX7_mix_58 hl (by decide) rfl (fun ls hl => ?_)
        exact L60  FU v4_42 v5_42 (v6_42 + 1) hf _ _ _ ⟨hP, hD⟩ hS (lv_sub hl [1, 2, 3, 4, 5, 6, 7, 0] rfl)
  refine lv_iload_n hx hb dX7_mix_0 rfl (lv_at hl 1 rfl) ?_
  refine lv_iconst (v := 1) hx hb dX7_mix_1 (by decide) ?_
  refine lv_bipush (v := 60) hx hb dX7_mix_2 (by decide) ?_
  obtain ⟨u2, hu2, hf⟩ := bd_some hf
  refine cl_iS (As := [.int v1, .int 1, .int 60]) (rest := []) ⟨hx, hb, hml, hown, hts⟩ (c_X7_isWithin l D cI cZ cR   v1 1 60 u2 hu2) (cw_X7_mix_X7_isWithin_72 hts) hE hP hD hS hA rfl hl.1 rfl (Nat.le_of_ble_eq_true rfl) dX7_mix_4 ⟨Nat.zero_le _, Nat.zero_le _⟩ (fun H locs hP hS => ?_)
  refine lv_if_eq (tgt := 30) hx hb dX7_mix_7 (by decide) (fun hc6 => ?_) (fun hc6 => ?_)
  · have hf := if_t hf hc6
    refine lv_iconst (v := (-1)) hx hb dX7_mix_30 (by decide) ?_
    have he := Option.some.inj hf
    subst he
    exact hret _ _ _ _ dX7_mix_31 rfl hP hD hS
  · have hf := if_f hf hc6
    refine lv_iload_n hx hb dX7_mix_10 rfl (lv_at hl 2 rfl) ?_
    refine lv_iconst (v := 0) hx hb dX7_mix_11 (by decide) ?_
    refine lv_sipush (v := 5940) hx hb dX7_mix_12 (by decide) ?_
    obtain ⟨u3, hu3, hf⟩ := bd_some hf
    refine cl_iS (As := [.int v2, .int 0, .int 5940]) (rest := []) ⟨hx, hb, hml, hown, hts⟩ (c_X7_isWithin l D cI cZ cR   v2 0 5940 u3 hu3) (cw_X7_mix_X7_isWithin_72 hts) hE hP hD hS hA rfl hl.1 rfl (Nat.le_of_ble_eq_true rfl) dX7_mix_15 ⟨Nat.zero_le _, Nat.zero_le _⟩ (fun H locs hP hS => ?_)
    refine lv_if_eq (tgt := 30) hx hb dX7_mix_18 (by decide) (fun hc7 => ?_) (fun hc7 => ?_)
    · have hf := if_t hf hc7
      refine lv_iconst (v := (-1)) hx hb dX7_mix_30 (by decide) ?_
      have he := Option.some.inj hf
      subst he
      exact hret _ _ _ _ dX7_mix_31 rfl hP hD hS
    · have hf := if_f hf hc7
      refine lv_iload_n hx hb dX7_mix_21 rfl (lv_at hl 3 rfl) ?_
      refine lv_iconst (v := 0) hx hb dX7_mix_22 (by decide) ?_
      refine lv_iconst (v := 1) hx hb dX7_mix_23 (by decide) ?_
      obtain ⟨u4, hu4, hf⟩ := bd_some hf
      refine cl_iS (As := [.int v3, .int 0, .int 1]) (rest := []) ⟨hx, hb, hml, hown, hts⟩ (c_X7_isWithin l D cI cZ cR   v3 0 1 u4 hu4) (cw_X7_mix_X7_isWithin_72 hts) hE hP hD hS hA rfl hl.1 rfl (Nat.le_of_ble_eq_true rfl) dX7_mix_24 ⟨Nat.zero_le _, Nat.zero_le _⟩ (fun H locs hP hS => ?_)
      refine lv_if_ne (tgt := 32) hx hb dX7_mix_27 (by decide) (fun hc8 => ?_) (fun hc8 => ?_)
      · have hf := if_f hf hc8
        refine lv_iconst (v := 0) hx hb dX7_mix_32 (by decide) ?_
        refine lv_istore (lv' := [(4, .int 0), (0, .ref a_x), (1, .int v1), (2, .int v2), (3, .int v3)]) hx hb dX7_mix_33 hl (by decide) rfl (fun ls hl => ?_)
        refine lv_bipush (v := (-9)) hx hb dX7_mix_35 (by decide) ?_
        refine lv_istore (lv' := [(5, .int (-9)), (4, .int 0), (0, .ref a_x), (1, .int v1), (2, .int v2), (3, .int v3)]) hx hb dX7_mix_37 hl (by decide) rfl (fun ls hl => ?_)
        refine lv_iconst (v := 0) hx hb dX7_mix_39 (by decide) ?_
        refine lv_istore (lv' := [(6, .int 0), (5, .int (-9)), (4, .int 0), (0, .ref a_x), (1, .int v1), (2, .int v2), (3, .int v3)]) hx hb dX7_mix_40 hl (by decide) rfl (fun ls hl => ?_)
        exact L42  FU 0 (-9) 0 hf _ _ _ ⟨hP, hD⟩ hS (lv_sub hl [3, 4, 5, 6, 2, 1, 0] rfl)
      · have hf := if_t hf hc8
        refine lv_iconst (v := (-1)) hx hb dX7_mix_30 (by decide) ?_
        have he := Option.some.inj hf
        subst he
        exact hret _ _ _ _ dX7_mix_31 rfl hP hD hS
abbrev rmX7_levels : Room := { frames := 1, cells := 0, slots := 0, locals := 23 }
theorem hiX7_levels_3 : ∀ w ∈ wsX30, w ∈ wsX7_levels := fun w h => (goodIn_r (big := wsX7_levels) wsX30 [30, 31, 32, 33] rfl (by decide +kernel) w h).1
theorem hiX7_levels_7 : ∀ w ∈ wsX70, w ∈ wsX7_levels := fun w h => (goodIn_r (big := wsX7_levels) wsX70 [20, 21, 22, 23, 24, 25, 26, 27, 28, 29] rfl (by decide +kernel) w h).1
theorem cw_X7_levels_X7_isWithin_72 {s : State} {args : Array Value} (hts : ∀ x ∈ wsX7_levels, x.before args s = true) : CallB rmX7_levels s args RX7 72 yX7_isWithin cX7_isWithin 3 (some .boolean) wsX7_isWithin rmX7_isWithin 0 0 3 ∧ (Cond.static yX7_isWithin).before args s = true := va_cwS 3 hts gX7_levels_X7_isWithin rfl rfl rfl (by decide +kernel) ⟨Nat.le_of_ble_eq_true rfl, Nat.le_of_ble_eq_true rfl⟩
theorem cw_X7_levels_X2_has_103 {s : State} {args : Array Value} {D : va_G} {cI cZ cR : ClassId} (hE : EV D cI cZ cR s) (hts : ∀ x ∈ wsX7_levels, x.before args s = true) : va_CN rmX7_levels s args RX7 103 yX2_has "RainShelves" cX2_has 2 (some .boolean) wsX2_has rmX2_has 0 0 1 ∧ (Cond.instanceMethod yX2_has).before args s = true ∧ (Cond.selects RX2 yX2_has yX2_has).before args s = true := ⟨va_cnB 1 hts gX7_levels_X2_has_n103 rfl rfl rfl (hE.nm 15 rfl) (hts (.initialized RX2) (List.mem_of_getElem? (i := 8) rfl)) (by decide +kernel) ⟨Nat.le_of_ble_eq_true rfl, Nat.le_of_ble_eq_true rfl⟩, hts (.instanceMethod yX2_has) (List.mem_of_getElem? (i := 7) rfl), hts (.selects RX2 yX2_has yX2_has) (List.mem_of_getElem? (i := 9) rfl)⟩
theorem cw_X7_levels_X3_append_197 {s : State} {args : Array Value} {D : va_G} {cI cZ cR : ClassId} (hE : EV D cI cZ cR s) (hts : ∀ x ∈ wsX7_levels, x.before args s = true) : va_CN rmX7_levels s args RX7 197 yX3_append "RainShelves" cX3_append 4 (some .boolean) wsX3_append rmX3_append 0 0 3 ∧ (Cond.instanceMethod yX3_append).before args s = true ∧ (Cond.selects RX3 yX3_append yX3_append).before args s = true := ⟨va_cnB 3 hts gX7_levels_X3_append_n197 rfl rfl rfl (hE.nm 36 rfl) (hts (.initialized RX3) (List.mem_of_getElem? (i := 13) rfl)) (by decide +kernel) ⟨Nat.le_of_ble_eq_true rfl, Nat.le_of_ble_eq_true rfl⟩, hts (.instanceMethod yX3_append) (List.mem_of_getElem? (i := 12) rfl), hts (.selects RX3 yX3_append yX3_append) (List.mem_of_getElem? (i := 14) rfl)⟩
set_option maxRecDepth 100000 in
set_option maxHeartbeats 4000000 in
theorem c_X7_levels (l : Launch) (D : va_G) (cI cZ cR : ClassId) (a_x : Nat) (a_house : Nat) (a_told : Nat) (a_told_springs : Nat) (a_told_pans : Nat) (a_told_spoons : Nat) (a_text : Nat) (a_rain : Nat) (a_hist : Nat) (a_img_arr : Nat) (a_kept : Nat) (a_sets : Nat) (a_frost : Nat) (a_house_years : Nat) (a_house_spoons : Nat) (a_house_shrinks : Nat) (a_house_sorts : Nat) (a_house_byAge : Nat) (x_traced : Int64) (house_pans : Int32) (house_least : Int32) (house_shelf : Int32) (told_size : Int32) (told_springs : Nat → Int32) (told_pans : Nat → Int32) (told_spoons : Nat → Int32) (v1 : Int32) (v2 : Int32) (v3 : Int32) (out : Int32 × Int32 × (Nat → Int32) × (Nat → Int32) × (Nat → Int32)) (hf : f_X7_levels house_pans told_size told_springs told_pans told_spoons v1 v2 v3 = some out) : Ci l yX7_levels wsX7_levels rmX7_levels D cI cZ cR [.ref a_x, .int v1, .int v2, .int v3] [(a_x, .inr (7, [.ref a_house, .ref a_text, .ref a_rain, .ref a_hist, .ref a_img_arr, .ref a_kept, .ref a_told, .ref a_sets, .ref a_frost, .long x_traced])), (a_house, .inr (2, [.int house_pans, .int house_least, .int house_shelf, .ref a_house_years, .ref a_house_spoons, .ref a_house_shrinks, .ref a_house_sorts, .ref a_house_byAge])), (a_told, .inr (3, [.ref a_told_springs, .ref a_told_pans, .ref a_told_spoons, .int told_size])), (a_told_springs, .inl (cI, 5, .inl told_springs)), (a_told_pans, .inl (cI, 5, .inl told_pans)), (a_told_spoons, .inl (cI, 5, .inl told_spoons))] out.1 [(a_x, .inr (7, [.ref a_house, .ref a_text, .ref a_rain, .ref a_hist, .ref a_img_arr, .ref a_kept, .ref a_told, .ref a_sets, .ref a_frost, .long x_traced])), (a_house, .inr (2, [.int house_pans, .int house_least, .int house_shelf, .ref a_house_years, .ref a_house_spoons, .ref a_house_shrinks, .ref a_house_sorts, .ref a_house_byAge])), (a_told, .inr (3, [.ref a_told_springs, .ref a_told_pans, .ref a_told_spoons, .int out.2.1])), (a_told_springs, .inl (cI, 5, .inl out.2.2.1)), (a_told_pans, .inl (cI, 5, .inl out.2.2.2.1)), (a_told_spoons, .inl (cI, 5, .inl out.2.2.2.2))] := by
  refine ent_i (cc := cX7_levels) (maxL := 4) .int (by decide) rfl (Nat.le_of_ble_eq_true rfl) ?_
  intro p e s m below meth c A Q hx hb hml hown hts hE hA hP hD hS hret ls hl
  have hown : s.vm.findClass RX7 = some m.cls := hown
  have hl : lv_has ls 4 [(0, .ref a_x), (1, .int v1), (2, .int v2), (3, .int v3)] := hl
  have fL10 := hts (.fieldLink RX7 10 "RainShelves" "house" "LRainShelves$House;") (List.mem_of_getElem? (i := 1) rfl)
  have fL50 := hts (.fieldLink RX7 50 "RainShelves" "told" "LRainShelves$Levels;") (List.mem_of_getElem? (i := 2) rfl)
  have fL100 : (Cond.fieldLinkNest RX7 100 "RainShelves$Levels" "size" "I" "RainShelves").before ([.ref a_x, .int v1, .int v2, .int v3] : List Value).toArray s = true := hE.nf 25 rfl
  unfold f_X7_levels at hf
  refine lv_iload_n hx hb dX7_levels_0 rfl (lv_at hl 1 rfl) ?_
  refine lv_iconst (v := 0) hx hb dX7_levels_1 (by decide) ?_
  refine lv_bipush (v := 60) hx hb dX7_levels_2 (by decide) ?_
  obtain ⟨u1, hu1, hf⟩ := bd_some hf
  refine cl_iS (As := [.int v1, .int 0, .int 60]) (rest := []) ⟨hx, hb, hml, hown, hts⟩ (c_X7_isWithin l D cI cZ cR   v1 0 60 u1 hu1) (cw_X7_levels_X7_isWithin_72 hts) hE hP hD hS hA rfl hl.1 rfl (Nat.le_of_ble_eq_true rfl) dX7_levels_4 ⟨Nat.zero_le _, Nat.zero_le _⟩ (fun H locs hP hS => ?_)
  refine lv_if_eq (tgt := 32) hx hb dX7_levels_7 (by decide) (fun hc1 => ?_) (fun hc1 => ?_)
  · have hf := if_t hf hc1
    refine lv_iconst (v := (-1)) hx hb dX7_levels_32 (by decide) ?_
    have he := Option.some.inj hf
    subst he
    exact hret _ _ _ _ dX7_levels_33 rfl hP hD hS
  · have hf := if_f hf hc1
    refine lv_aload_n hx hb dX7_levels_10 rfl (lv_at hl 0 rfl) ?_
    refine va_get (D := D) (ci := 7) (v := .ref a_house) (C := RX7) (T := TX7) (N := 10) hx hb hts hiX7_levels_7 hown hE.1 hP 0 rfl rfl 0 (by decide) fL10 (fun _ h9 => h9) rfl dX7_levels_11 ?_
    refine lv_iload_n hx hb dX7_levels_14 rfl (lv_at hl 2 rfl) ?_
    obtain ⟨u2, hu2, hf⟩ := bd_some hf
    refine cl_iN (As := [.int v2]) (rest := []) ⟨hx, hb, hml, hown, hts⟩ (c_X2_has l D cI cZ cR a_house a_house_years a_house_spoons a_house_shrinks a_house_sorts a_house_byAge house_pans house_least house_shelf v2 u2 hu2) (cw_X7_levels_X2_has_103 hE hts) hE hP hD hS hA [1] rfl rfl [a_house] rfl rfl 1 2 rfl rfl rfl hl.1 rfl (Nat.le_of_ble_eq_true rfl) dX7_levels_15 ⟨Nat.zero_le _, Nat.zero_le _⟩ (fun H locs hP hD hS => ?_)
    have hPD : PD D A [(a_x, .inr (7, [.ref a_house, .ref a_text, .ref a_rain, .ref a_hist, .ref a_img_arr, .ref a_kept, .ref a_told, .ref a_sets, .ref a_frost, .long x_traced])), (a_house, .inr (2, [.int house_pans, .int house_least, .int house_shelf, .ref a_house_years, .ref a_house_spoons, .ref a_house_shrinks, .ref a_house_sorts, .ref a_house_byAge])), (a_told, .inr (3, [.ref a_told_springs, .ref a_told_pans, .ref a_told_spoons, .int told_size])), (a_told_springs, .inl (cI, 5, .inl told_springs)), (a_told_pans, .inl (cI, 5, .inl told_pans)), (a_told_spoons, .inl (cI, 5, .inl told_spoons))] H := ⟨hP, hD⟩
    obtain ⟨hP, hD⟩ := hPD
    refine lv_if_eq (tgt := 32) hx hb dX7_levels_18 (by decide) (fun hc2 => ?_) (fun hc2 => ?_)
    · have hf := if_t hf hc2
      refine lv_iconst (v := (-1)) hx hb dX7_levels_32 (by decide) ?_
      have he := Option.some.inj hf
      subst he
      exact hret _ _ _ _ dX7_levels_33 rfl hP hD hS
    · have hf := if_f hf hc2
      refine lv_iload_n hx hb dX7_levels_21 rfl (lv_at hl 3 rfl) ?_
      refine lv_iconst (v := 0) hx hb dX7_levels_22 (by decide) ?_
      refine lv_sipush (v := 420) hx hb dX7_levels_23 (by decide) ?_
      obtain ⟨u3, hu3, hf⟩ := bd_some hf
      refine cl_iS (As := [.int v3, .int 0, .int 420]) (rest := []) ⟨hx, hb, hml, hown, hts⟩ (c_X7_isWithin l D cI cZ cR   v3 0 420 u3 hu3) (cw_X7_levels_X7_isWithin_72 hts) hE hP hD hS hA rfl hl.1 rfl (Nat.le_of_ble_eq_true rfl) dX7_levels_26 ⟨Nat.zero_le _, Nat.zero_le _⟩ (fun H locs hP hS => ?_)
      refine lv_if_ne (tgt := 34) hx hb dX7_levels_29 (by decide) (fun hc3 => ?_) (fun hc3 => ?_)
      · have hf := if_f hf hc3
        refine lv_aload_n hx hb dX7_levels_34 rfl (lv_at hl 0 rfl) ?_
        refine va_get (D := D) (ci := 7) (v := .ref a_told) (C := RX7) (T := TX7) (N := 10) hx hb hts hiX7_levels_7 hown hE.1 hP 0 rfl rfl 6 (by decide) fL50 (fun _ h9 => h9) rfl dX7_levels_35 ?_
        refine lv_iload_n hx hb dX7_levels_38 rfl (lv_at hl 1 rfl) ?_
        refine lv_iload_n hx hb dX7_levels_39 rfl (lv_at hl 2 rfl) ?_
        refine lv_iload_n hx hb dX7_levels_40 rfl (lv_at hl 3 rfl) ?_
        obtain ⟨u4, hu4, hf⟩ := bd_some hf
        refine cl_iN (As := [.int v1, .int v2, .int v3]) (rest := []) ⟨hx, hb, hml, hown, hts⟩ (c_X3_append l D cI cZ cR a_told a_told_springs a_told_pans a_told_spoons told_size told_springs told_pans told_spoons v1 v2 v3 u4 hu4) (cw_X7_levels_X3_append_197 hE hts) hE hP hD hS hA [2, 3, 4, 5] rfl rfl [a_told, a_told_springs, a_told_pans, a_told_spoons] rfl rfl 2 3 rfl rfl rfl hl.1 rfl (Nat.le_of_ble_eq_true rfl) dX7_levels_41 ⟨Nat.zero_le _, Nat.zero_le _⟩ (fun H locs hP hD hS => ?_)
        have hPD : PD D A [(a_x, .inr (7, [.ref a_house, .ref a_text, .ref a_rain, .ref a_hist, .ref a_img_arr, .ref a_kept, .ref a_told, .ref a_sets, .ref a_frost, .long x_traced])), (a_house, .inr (2, [.int house_pans, .int house_least, .int house_shelf, .ref a_house_years, .ref a_house_spoons, .ref a_house_shrinks, .ref a_house_sorts, .ref a_house_byAge])), (a_told, .inr (3, [.ref a_told_springs, .ref a_told_pans, .ref a_told_spoons, .int u4.2.1])), (a_told_springs, .inl (cI, 5, .inl u4.2.2.1)), (a_told_pans, .inl (cI, 5, .inl u4.2.2.2.1)), (a_told_spoons, .inl (cI, 5, .inl u4.2.2.2.2))] H := ⟨hP, hD⟩
        obtain ⟨hP, hD⟩ := hPD
        refine lv_if_eq (tgt := 57) hx hb dX7_levels_44 (by decide) (fun hc4 => ?_) (fun hc4 => ?_)
        · have hf := if_t hf hc4
          refine lv_bipush (v := (-3)) hx hb dX7_levels_57 (by decide) ?_
          have he := Option.some.inj hf
          subst he
          exact hret _ _ _ _ dX7_levels_59 rfl hP hD hS
        · have hf := if_f hf hc4
          refine lv_aload_n hx hb dX7_levels_47 rfl (lv_at hl 0 rfl) ?_
          refine va_get (D := D) (ci := 7) (v := .ref a_told) (C := RX7) (T := TX7) (N := 10) hx hb hts hiX7_levels_7 hown hE.1 hP 0 rfl rfl 6 (by decide) fL50 (fun _ h9 => h9) rfl dX7_levels_48 ?_
          refine va_getN (D := D) (ci := 3) (v := .int u4.2.1) (C := RX3) (T := TX3) (N := 4) hx hb hts hiX7_levels_3 hown hE.1 hP 2 rfl rfl 3 (by decide) fL100 (fun _ h9 => h9) rfl dX7_levels_51 ?_
          refine lv_goto (tgt := 59) hx hb dX7_levels_54 (by decide) ?_
          have he := Option.some.inj hf
          subst he
          exact hret _ _ _ _ dX7_levels_59 rfl hP hD hS
      · have hf := if_t hf hc3
        refine lv_iconst (v := (-1)) hx hb dX7_levels_32 (by decide) ?_
        have he := Option.some.inj hf
        subst he
        exact hret _ _ _ _ dX7_levels_33 rfl hP hD hS
abbrev rmX7_forget : Room := { frames := 0, cells := 0, slots := 0, locals := 0 }
theorem hiX7_forget_3 : ∀ w ∈ wsX30, w ∈ wsX7_forget := fun w h => (goodIn_r (big := wsX7_forget) wsX30 [12, 13, 14, 15] rfl (by decide +kernel) w h).1
theorem hiX7_forget_7 : ∀ w ∈ wsX70, w ∈ wsX7_forget := fun w h => (goodIn_r (big := wsX7_forget) wsX70 [2, 3, 4, 5, 6, 7, 8, 9, 10, 11] rfl (by decide +kernel) w h).1
set_option maxRecDepth 100000 in
set_option maxHeartbeats 4000000 in
theorem c_X7_forget (l : Launch) (D : va_G) (cI cZ cR : ClassId) (a_x : Nat) (a_told : Nat) (a_house : Nat) (a_text : Nat) (a_rain : Nat) (a_hist : Nat) (a_img_arr : Nat) (a_kept : Nat) (a_sets : Nat) (a_frost : Nat) (a_told_springs : Nat) (a_told_pans : Nat) (a_told_spoons : Nat) (x_traced : Int64) (told_size : Int32) (out : Int32 × Int32) (hf : f_X7_forget told_size = some out) : Ci l yX7_forget wsX7_forget rmX7_forget D cI cZ cR [.ref a_x] [(a_x, .inr (7, [.ref a_house, .ref a_text, .ref a_rain, .ref a_hist, .ref a_img_arr, .ref a_kept, .ref a_told, .ref a_sets, .ref a_frost, .long x_traced])), (a_told, .inr (3, [.ref a_told_springs, .ref a_told_pans, .ref a_told_spoons, .int told_size]))] out.1 [(a_x, .inr (7, [.ref a_house, .ref a_text, .ref a_rain, .ref a_hist, .ref a_img_arr, .ref a_kept, .ref a_told, .ref a_sets, .ref a_frost, .long x_traced])), (a_told, .inr (3, [.ref a_told_springs, .ref a_told_pans, .ref a_told_spoons, .int out.2]))] := by
  refine ent_i (cc := cX7_forget) (maxL := 2) .int (by decide) rfl (Nat.le_of_ble_eq_true rfl) ?_
  intro p e s m below meth c A Q hx hb hml hown hts hE hA hP hD hS hret ls hl
  have hown : s.vm.findClass RX7 = some m.cls := hown
  have hl : lv_has ls 2 [(0, .ref a_x)] := hl
  have fL50 := hts (.fieldLink RX7 50 "RainShelves" "told" "LRainShelves$Levels;") (List.mem_of_getElem? (i := 1) rfl)
  have fL100 : (Cond.fieldLinkNest RX7 100 "RainShelves$Levels" "size" "I" "RainShelves").before ([.ref a_x] : List Value).toArray s = true := hE.nf 25 rfl
  unfold f_X7_forget at hf
  refine lv_aload_n hx hb dX7_forget_0 rfl (lv_at hl 0 rfl) ?_
  refine va_get (D := D) (ci := 7) (v := .ref a_told) (C := RX7) (T := TX7) (N := 10) hx hb hts hiX7_forget_7 hown hE.1 hP 0 rfl rfl 6 (by decide) fL50 (fun _ h9 => h9) rfl dX7_forget_1 ?_
  refine va_getN (D := D) (ci := 3) (v := .int told_size) (C := RX3) (T := TX3) (N := 4) hx hb hts hiX7_forget_3 hown hE.1 hP 1 rfl rfl 3 (by decide) fL100 (fun _ h9 => h9) rfl dX7_forget_4 ?_
  refine lv_istore_n (lv' := [(1, .int told_size), (0, .ref a_x)]) hx hb dX7_forget_7 rfl hl (by decide) rfl (fun ls hl => ?_)
  refine lv_aload_n hx hb dX7_forget_8 rfl (lv_at hl 1 rfl) ?_
  refine va_get (D := D) (ci := 7) (v := .ref a_told) (C := RX7) (T := TX7) (N := 10) hx hb hts hiX7_forget_7 hown hE.1 hP 0 rfl rfl 6 (by decide) fL50 (fun _ h9 => h9) rfl dX7_forget_9 ?_
  refine lv_iconst (v := 0) hx hb dX7_forget_12 (by decide) ?_
  refine va_putN (D := D) (ci := 3) (v := .int 0) (ty := .int) (C := RX3) (T := TX3) (N := 4) hx hb hts hiX7_forget_3 tyX3 tyX3_ok nmX3 hown hE.1 hP hD hS 1 rfl rfl 3 (by decide) fL100 (fun _ h9 => h9) rfl (tyX3_ok 3 (by decide)) rfl rfl (Nat.le_of_ble_eq_true rfl) dX7_forget_13 (fun H locs hP hD hS => ?_)
  have hPD : PD D A [(a_x, .inr (7, [.ref a_house, .ref a_text, .ref a_rain, .ref a_hist, .ref a_img_arr, .ref a_kept, .ref a_told, .ref a_sets, .ref a_frost, .long x_traced])), (a_told, .inr (3, [.ref a_told_springs, .ref a_told_pans, .ref a_told_spoons, .int 0]))] H := ⟨hP, hD⟩
  obtain ⟨hP, hD⟩ := hPD
  refine lv_iload_n hx hb dX7_forget_16 rfl (lv_at hl 0 rfl) ?_
  have he := Option.some.inj hf
  subst he
  exact hret _ _ _ _ dX7_forget_17 rfl hP hD hS
abbrev rmX7_areLevelsSo : Room := { frames := 3, cells := 0, slots := 0, locals := 66 }
theorem hiX7_areLevelsSo_3 : ∀ w ∈ wsX30, w ∈ wsX7_areLevelsSo := fun w h => (goodIn_r (big := wsX7_areLevelsSo) wsX30 [36, 37, 38, 39] rfl (by decide +kernel) w h).1
theorem hiX7_areLevelsSo_7 : ∀ w ∈ wsX70, w ∈ wsX7_areLevelsSo := fun w h => (goodIn_r (big := wsX7_areLevelsSo) wsX70 [26, 27, 28, 29, 30, 31, 32, 33, 34, 35] rfl (by decide +kernel) w h).1
theorem cw_X7_areLevelsSo_X7_afterSprings_169 {s : State} {args : Array Value} (hts : ∀ x ∈ wsX7_areLevelsSo, x.before args s = true) : CallW rmX7_areLevelsSo s args RX7 RX7 169 yX7_afterSprings cX7_afterSprings 4 (some .int) wsX7_afterSprings rmX7_afterSprings 0 0 3 := cwV 3 hts gX7_areLevelsSo_X7_afterSprings rfl rfl rfl (by decide +kernel) ⟨Nat.le_of_ble_eq_true rfl, Nat.le_of_ble_eq_true rfl⟩
theorem cw_X7_areLevelsSo_X4_inPan_116 {s : State} {args : Array Value} {D : va_G} {cI cZ cR : ClassId} (hE : EV D cI cZ cR s) (hts : ∀ x ∈ wsX7_areLevelsSo, x.before args s = true) : va_CN rmX7_areLevelsSo s args RX7 116 yX4_inPan "RainShelves" cX4_inPan 4 (some .int) wsX4_inPan rmX4_inPan 0 0 1 ∧ (Cond.instanceMethod yX4_inPan).before args s = true ∧ (Cond.selects RX4 yX4_inPan yX4_inPan).before args s = true := ⟨va_cnB 1 hts gX7_areLevelsSo_X4_inPan_n116 rfl rfl rfl (hE.nm 16 rfl) (hts (.initialized RX4) (List.mem_of_getElem? (i := 4) rfl)) (by decide +kernel) ⟨Nat.le_of_ble_eq_true rfl, Nat.le_of_ble_eq_true rfl⟩, hts (.instanceMethod yX4_inPan) (List.mem_of_getElem? (i := 3) rfl), hts (.selects RX4 yX4_inPan yX4_inPan) (List.mem_of_getElem? (i := 5) rfl)⟩
set_option maxRecDepth 100000 in
set_option maxHeartbeats 4000000 in
theorem c_X7_areLevelsSo (l : Launch) (D : va_G) (cI cZ cR : ClassId) (a_x : Nat) (a_told : Nat) (a_told_pans : Nat) (a_rain : Nat) (a_house : Nat) (a_rain_spoons : Nat) (a_told_springs : Nat) (a_house_shrinks : Nat) (a_told_spoons : Nat) (a_text : Nat) (a_hist : Nat) (a_img_arr : Nat) (a_kept : Nat) (a_sets : Nat) (a_frost : Nat) (a_house_years : Nat) (a_house_spoons : Nat) (a_house_sorts : Nat) (a_house_byAge : Nat) (x_traced : Int64) (told_size : Int32) (told_pans : Nat → Int32) (rain_springs : Int32) (rain_lost : Int32) (house_pans : Int32) (house_least : Int32) (house_shelf : Int32) (rain_spoons : Nat → Int32) (told_springs : Nat → Int32) (house_shrinks : Nat → Int32) (told_spoons : Nat → Int32) (v1 : Int32) (v2 : Int32) (out : Int32) (hf : f_X7_areLevelsSo told_size told_pans house_pans rain_spoons told_springs house_shrinks told_spoons v1 v2 = some out) : Ci l yX7_areLevelsSo wsX7_areLevelsSo rmX7_areLevelsSo D cI cZ cR [.ref a_x, .int v1, .int v2] [(a_x, .inr (7, [.ref a_house, .ref a_text, .ref a_rain, .ref a_hist, .ref a_img_arr, .ref a_kept, .ref a_told, .ref a_sets, .ref a_frost, .long x_traced])), (a_told, .inr (3, [.ref a_told_springs, .ref a_told_pans, .ref a_told_spoons, .int told_size])), (a_told_pans, .inl (cI, 5, .inl told_pans)), (a_rain, .inr (4, [.ref a_house, .ref a_rain_spoons, .int rain_springs, .int rain_lost])), (a_house, .inr (2, [.int house_pans, .int house_least, .int house_shelf, .ref a_house_years, .ref a_house_spoons, .ref a_house_shrinks, .ref a_house_sorts, .ref a_house_byAge])), (a_rain_spoons, .inl (cI, 49, .inl rain_spoons)), (a_told_springs, .inl (cI, 5, .inl told_springs)), (a_house_shrinks, .inl (cI, 7, .inl house_shrinks)), (a_told_spoons, .inl (cI, 5, .inl told_spoons))] out [(a_x, .inr (7, [.ref a_house, .ref a_text, .ref a_rain, .ref a_hist, .ref a_img_arr, .ref a_kept, .ref a_told, .ref a_sets, .ref a_frost, .long x_traced])), (a_told, .inr (3, [.ref a_told_springs, .ref a_told_pans, .ref a_told_spoons, .int told_size])), (a_told_pans, .inl (cI, 5, .inl told_pans)), (a_rain, .inr (4, [.ref a_house, .ref a_rain_spoons, .int rain_springs, .int rain_lost])), (a_house, .inr (2, [.int house_pans, .int house_least, .int house_shelf, .ref a_house_years, .ref a_house_spoons, .ref a_house_shrinks, .ref a_house_sorts, .ref a_house_byAge])), (a_rain_spoons, .inl (cI, 49, .inl rain_spoons)), (a_told_springs, .inl (cI, 5, .inl told_springs)), (a_house_shrinks, .inl (cI, 7, .inl house_shrinks)), (a_told_spoons, .inl (cI, 5, .inl told_spoons))] := by
  refine ent_i (cc := cX7_areLevelsSo) (maxL := 6) .boolean (by decide) rfl (Nat.le_of_ble_eq_true rfl) ?_
  intro p e s m below meth c A Q hx hb hml hown hts hE hA hP hD hS hret ls hl
  have hown : s.vm.findClass RX7 = some m.cls := hown
  have hl : lv_has ls 6 [(0, .ref a_x), (1, .int v1), (2, .int v2)] := hl
  have fL28 := hts (.fieldLink RX7 28 "RainShelves" "rain" "LRainShelves$Rain;") (List.mem_of_getElem? (i := 2) rfl)
  have fL50 := hts (.fieldLink RX7 50 "RainShelves" "told" "LRainShelves$Levels;") (List.mem_of_getElem? (i := 1) rfl)
  have fL100 : (Cond.fieldLinkNest RX7 100 "RainShelves$Levels" "size" "I" "RainShelves").before ([.ref a_x, .int v1, .int v2] : List Value).toArray s = true := hE.nf 25 rfl
  have fL205 : (Cond.fieldLinkNest RX7 205 "RainShelves$Levels" "pans" "[I" "RainShelves").before ([.ref a_x, .int v1, .int v2] : List Value).toArray s = true := hE.nf 23 rfl
  have fL207 : (Cond.fieldLinkNest RX7 207 "RainShelves$Levels" "springs" "[I" "RainShelves").before ([.ref a_x, .int v1, .int v2] : List Value).toArray s = true := hE.nf 22 rfl
  have fL209 : (Cond.fieldLinkNest RX7 209 "RainShelves$Levels" "spoons" "[I" "RainShelves").before ([.ref a_x, .int v1, .int v2] : List Value).toArray s = true := hE.nf 24 rfl
  unfold f_X7_areLevelsSo at hf
  have L2 : ∀ (n2 : Nat) (v3_2 : Int32), f_X7_areLevelsSo_L2 told_size told_pans house_pans rain_spoons told_springs house_shrinks told_spoons v1 v2 n2 v3_2 = some out → ∀ (H : Heap) (locs : List Loc) (ls : Array Slot), PD D A [(a_x, .inr (7, [.ref a_house, .ref a_text, .ref a_rain, .ref a_hist, .ref a_img_arr, .ref a_kept, .ref a_told, .ref a_sets, .ref a_frost, .long x_traced])), (a_told, .inr (3, [.ref a_told_springs, .ref a_told_pans, .ref a_told_spoons, .int told_size])), (a_told_pans, .inl (cI, 5, .inl told_pans)), (a_rain, .inr (4, [.ref a_house, .ref a_rain_spoons, .int rain_springs, .int rain_lost])), (a_house, .inr (2, [.int house_pans, .int house_least, .int house_shelf, .ref a_house_years, .ref a_house_spoons, .ref a_house_shrinks, .ref a_house_sorts, .ref a_house_byAge])), (a_rain_spoons, .inl (cI, 49, .inl rain_spoons)), (a_told_springs, .inl (cI, 5, .inl told_springs)), (a_house_shrinks, .inl (cI, 7, .inl house_shrinks)), (a_told_spoons, .inl (cI, 5, .inl told_spoons))] H → va_S A s.heap H locs → lv_has ls 6 [(0, .ref a_x), (1, .int v1), (2, .int v2), (3, .int v3_2)] → W p l e rmX7_areLevelsSo s m ([.ref a_x, .int v1, .int v2] : List Value).toArray below meth c H locs 0 0 Q (F0 m 2 ls []) := by
    intro  n2
    induction n2 with
    | zero => intro v3_2 hf; cases hf
    | succ n2 ih2 =>
      intro v3_2 hf H locs ls hPD hS hl
      obtain ⟨hP, hD⟩ := hPD
      have hf : f_X7_areLevelsSo_B2 told_size told_pans house_pans rain_spoons told_springs house_shrinks told_spoons v1 v2 (f_X7_areLevelsSo_L2 told_size told_pans house_pans rain_spoons told_springs house_shrinks told_spoons v1 v2 n2) v3_2 = some out := hf
      unfold f_X7_areLevelsSo_B2 at hf
      have J44 : ∀ (v4_44 : Int32) (s0_44 : Int32) (s1_44 : Int32), f_X7_areLevelsSo_J44 told_springs house_shrinks told_spoons v3_2 (f_X7_areLevelsSo_L2 told_size told_pans house_pans rain_spoons told_springs house_shrinks told_spoons v1 v2 n2) v4_44 s0_44 s1_44 = some out → ∀ (H : Heap) (locs : List Loc) (ls : Array Slot), PD D A [(a_x, .inr (7, [.ref a_house, .ref a_text, .ref a_rain, .ref a_hist, .ref a_img_arr, .ref a_kept, .ref a_told, .ref a_sets, .ref a_frost, .long x_traced])), (a_told, .inr (3, [.ref a_told_springs, .ref a_told_pans, .ref a_told_spoons, .int told_size])), (a_told_pans, .inl (cI, 5, .inl told_pans)), (a_rain, .inr (4, [.ref a_house, .ref a_rain_spoons, .int rain_springs, .int rain_lost])), (a_house, .inr (2, [.int house_pans, .int house_least, .int house_shelf, .ref a_house_years, .ref a_house_spoons, .ref a_house_shrinks, .ref a_house_sorts, .ref a_house_byAge])), (a_rain_spoons, .inl (cI, 49, .inl rain_spoons)), (a_told_springs, .inl (cI, 5, .inl told_springs)), (a_house_shrinks, .inl (cI, 7, .inl house_shrinks)), (a_told_spoons, .inl (cI, 5, .inl told_spoons))] H → va_S A s.heap H locs → lv_has ls 6 [(0, .ref a_x), (1, .int v1), (2, .int v2), (3, .int v3_2), (4, .int v4_44)] → W p l e rmX7_areLevelsSo s m ([.ref a_x, .int v1, .int v2] : List Value).toArray below meth c H locs 0 0 Q (F0 m 44 ls [.int s1_44, .int s0_44]) := by
        intro v4_44 s0_44 s1_44 hf H locs ls hPD hS hl
        obtain ⟨hP, hD⟩ := hPD
        unfold f_X7_areLevelsSo_J44 at hf
        refine lv_isub hx hb dX7_areLevelsSo_44 ?_
        refine lv_istore (lv' := [(5, .int (s0_44 - s1_44)), (0, .ref a_x), (1, .int v1), (2, .int v2), (3, .int v3_2), (4, .int v4_44)]) hx hb dX7_areLevelsSo_45 hl (by decide) rfl (fun ls hl => ?_)
        refine lv_aload_n hx hb dX7_areLevelsSo_47 rfl (lv_at hl 1 rfl) ?_
        refine lv_iload hx hb dX7_areLevelsSo_48 (lv_at hl 0 rfl) ?_
        refine lv_aload_n hx hb dX7_areLevelsSo_50 rfl (lv_at hl 1 rfl) ?_
        refine va_get (D := D) (ci := 7) (v := .ref a_told) (C := RX7) (T := TX7) (N := 10) hx hb hts hiX7_areLevelsSo_7 hown hE.1 hP 0 rfl rfl 6 (by decide) fL50 (fun _ h9 => h9) rfl dX7_areLevelsSo_51 ?_
        refine va_getN (D := D) (ci := 3) (v := .ref a_told_springs) (C := RX3) (T := TX3) (N := 4) hx hb hts hiX7_areLevelsSo_3 hown hE.1 hP 1 rfl rfl 0 (by decide) fL207 (fun _ h9 => h9) rfl dX7_areLevelsSo_54 ?_
        refine lv_iload_n hx hb dX7_areLevelsSo_57 rfl (lv_at hl 4 rfl) ?_
        obtain ⟨hc1, hf⟩ := ck_some hf
        refine va_iald hx hb hE.1 hP 6 0 rfl rfl (ix_in hc1) dX7_areLevelsSo_58 ?_
        refine lv_iload hx hb dX7_areLevelsSo_59 (lv_at hl 5 rfl) ?_
        obtain ⟨u1, hu1, hf⟩ := bd_some hf
        refine cl_iV (As := [.int (s0_44 - s1_44), .int (told_springs v3_2.toNatClampNeg), .int v4_44]) (rest := []) ⟨hx, hb, hml, hown, hts⟩ (c_X7_afterSprings l D cI cZ cR a_x a_house a_house_shrinks a_text a_rain a_hist a_img_arr a_kept a_told a_sets a_frost a_house_years a_house_spoons a_house_sorts a_house_byAge x_traced house_pans house_least house_shelf house_shrinks (s0_44 - s1_44) (told_springs v3_2.toNatClampNeg) v4_44 u1 hu1) (cw_X7_areLevelsSo_X7_afterSprings_169 hts) hE hP hD hS hA [0, 4, 7] rfl rfl [a_x, a_house, a_house_shrinks] rfl rfl 0 7 rfl rfl rfl hl.1 rfl (Nat.le_of_ble_eq_true rfl) dX7_areLevelsSo_61 ⟨Nat.zero_le _, Nat.zero_le _⟩ (fun H locs hP hD hS => ?_)
        have hPD : PD D A [(a_x, .inr (7, [.ref a_house, .ref a_text, .ref a_rain, .ref a_hist, .ref a_img_arr, .ref a_kept, .ref a_told, .ref a_sets, .ref a_frost, .long x_traced])), (a_told, .inr (3, [.ref a_told_springs, .ref a_told_pans, .ref a_told_spoons, .int told_size])), (a_told_pans, .inl (cI, 5, .inl told_pans)), (a_rain, .inr (4, [.ref a_house, .ref a_rain_spoons, .int rain_springs, .int rain_lost])), (a_house, .inr (2, [.int house_pans, .int house_least, .int house_shelf, .ref a_house_years, .ref a_house_spoons, .ref a_house_shrinks, .ref a_house_sorts, .ref a_house_byAge])), (a_rain_spoons, .inl (cI, 49, .inl rain_spoons)), (a_told_springs, .inl (cI, 5, .inl told_springs)), (a_house_shrinks, .inl (cI, 7, .inl house_shrinks)), (a_told_spoons, .inl (cI, 5, .inl told_spoons))] H := ⟨hP, hD⟩
        obtain ⟨hP, hD⟩ := hPD
        refine lv_aload_n hx hb dX7_areLevelsSo_64 rfl (lv_at hl 1 rfl) ?_
        refine va_get (D := D) (ci := 7) (v := .ref a_told) (C := RX7) (T := TX7) (N := 10) hx hb hts hiX7_areLevelsSo_7 hown hE.1 hP 0 rfl rfl 6 (by decide) fL50 (fun _ h9 => h9) rfl dX7_areLevelsSo_65 ?_
        refine va_getN (D := D) (ci := 3) (v := .ref a_told_spoons) (C := RX3) (T := TX3) (N := 4) hx hb hts hiX7_areLevelsSo_3 hown hE.1 hP 1 rfl rfl 2 (by decide) fL209 (fun _ h9 => h9) rfl dX7_areLevelsSo_68 ?_
        refine lv_iload_n hx hb dX7_areLevelsSo_71 rfl (lv_at hl 4 rfl) ?_
        obtain ⟨hc2, hf⟩ := ck_some hf
        refine va_iald hx hb hE.1 hP 8 0 rfl rfl (ix_in hc2) dX7_areLevelsSo_72 ?_
        refine lv_icmp_eq (tgt := 78) hx hb dX7_areLevelsSo_73 (by decide) (fun hc3 => ?_) (fun hc3 => ?_)
        · have hf := if_t hf hc3
          refine lv_iinc (v := (v3_2 + 1)) (lv' := [(3, .int (v3_2 + 1)), (5, .int (s0_44 - s1_44)), (0, .ref a_x), (1, .int v1), (2, .int v2), (4, .int v4_44)]) hx hb dX7_areLevelsSo_78 hl (k := 4) rfl (ii_p1 _) (by decide) rfl (fun ls hl => ?_)
          refine lv_goto (tgt := 2) hx hb dX7_areLevelsSo_81 (by decide) ?_
          exact ih2 (v3_2 + 1) hf _ _ _ ⟨hP, hD⟩ hS (lv_sub hl [2, 3, 4, 0] rfl)
        · have hf := if_f hf hc3
          refine lv_iconst (v := 0) hx hb dX7_areLevelsSo_76 (by decide) ?_
          have he := Option.some.inj hf
          subst he
          exact hret _ _ _ _ dX7_areLevelsSo_77 bn0 hP hD hS
      refine lv_iload_n hx hb dX7_areLevelsSo_2 rfl (lv_at hl 3 rfl) ?_
      refine lv_aload_n hx hb dX7_areLevelsSo_3 rfl (lv_at hl 0 rfl) ?_
      refine va_get (D := D) (ci := 7) (v := .ref a_told) (C := RX7) (T := TX7) (N := 10) hx hb hts hiX7_areLevelsSo_7 hown hE.1 hP 0 rfl rfl 6 (by decide) fL50 (fun _ h9 => h9) rfl dX7_areLevelsSo_4 ?_
      refine va_getN (D := D) (ci := 3) (v := .int told_size) (C := RX3) (T := TX3) (N := 4) hx hb hts hiX7_areLevelsSo_3 hown hE.1 hP 1 rfl rfl 3 (by decide) fL100 (fun _ h9 => h9) rfl dX7_areLevelsSo_7 ?_
      refine lv_icmp_ge (tgt := 84) hx hb dX7_areLevelsSo_10 (by decide) (fun hc4 => ?_) (fun hc4 => ?_)
      · have hf := if_t hf hc4
        refine lv_iconst (v := 1) hx hb dX7_areLevelsSo_84 (by decide) ?_
        have he := Option.some.inj hf
        subst he
        exact hret _ _ _ _ dX7_areLevelsSo_85 bn1 hP hD hS
      · have hf := if_f hf hc4
        refine lv_aload_n hx hb dX7_areLevelsSo_13 rfl (lv_at hl 0 rfl) ?_
        refine va_get (D := D) (ci := 7) (v := .ref a_told) (C := RX7) (T := TX7) (N := 10) hx hb hts hiX7_areLevelsSo_7 hown hE.1 hP 0 rfl rfl 6 (by decide) fL50 (fun _ h9 => h9) rfl dX7_areLevelsSo_14 ?_
        refine va_getN (D := D) (ci := 3) (v := .ref a_told_pans) (C := RX3) (T := TX3) (N := 4) hx hb hts hiX7_areLevelsSo_3 hown hE.1 hP 1 rfl rfl 1 (by decide) fL205 (fun _ h9 => h9) rfl dX7_areLevelsSo_17 ?_
        refine lv_iload_n hx hb dX7_areLevelsSo_20 rfl (lv_at hl 3 rfl) ?_
        obtain ⟨hc5, hf⟩ := ck_some hf
        refine va_iald hx hb hE.1 hP 2 0 rfl rfl (ix_in hc5) dX7_areLevelsSo_21 ?_
        refine lv_istore (lv' := [(4, .int (told_pans v3_2.toNatClampNeg)), (0, .ref a_x), (1, .int v1), (2, .int v2), (3, .int v3_2)]) hx hb dX7_areLevelsSo_22 hl (by decide) rfl (fun ls hl => ?_)
        refine lv_aload_n hx hb dX7_areLevelsSo_24 rfl (lv_at hl 1 rfl) ?_
        refine va_get (D := D) (ci := 7) (v := .ref a_rain) (C := RX7) (T := TX7) (N := 10) hx hb hts hiX7_areLevelsSo_7 hown hE.1 hP 0 rfl rfl 2 (by decide) fL28 (fun _ h9 => h9) rfl dX7_areLevelsSo_25 ?_
        refine lv_iload hx hb dX7_areLevelsSo_28 (lv_at hl 0 rfl) ?_
        obtain ⟨u2, hu2, hf⟩ := bd_some hf
        refine cl_iN (As := [.int (told_pans v3_2.toNatClampNeg)]) (rest := []) ⟨hx, hb, hml, hown, hts⟩ (c_X4_inPan l D cI cZ cR a_rain a_house a_rain_spoons a_house_years a_house_spoons a_house_shrinks a_house_sorts a_house_byAge rain_springs rain_lost house_pans house_least house_shelf rain_spoons (told_pans v3_2.toNatClampNeg) u2 hu2) (cw_X7_areLevelsSo_X4_inPan_116 hE hts) hE hP hD hS hA [3, 4, 5] rfl rfl [a_rain, a_house, a_rain_spoons] rfl rfl 3 4 rfl rfl rfl hl.1 rfl (Nat.le_of_ble_eq_true rfl) dX7_areLevelsSo_30 ⟨Nat.zero_le _, Nat.zero_le _⟩ (fun H locs hP hD hS => ?_)
        have hPD : PD D A [(a_x, .inr (7, [.ref a_house, .ref a_text, .ref a_rain, .ref a_hist, .ref a_img_arr, .ref a_kept, .ref a_told, .ref a_sets, .ref a_frost, .long x_traced])), (a_told, .inr (3, [.ref a_told_springs, .ref a_told_pans, .ref a_told_spoons, .int told_size])), (a_told_pans, .inl (cI, 5, .inl told_pans)), (a_rain, .inr (4, [.ref a_house, .ref a_rain_spoons, .int rain_springs, .int rain_lost])), (a_house, .inr (2, [.int house_pans, .int house_least, .int house_shelf, .ref a_house_years, .ref a_house_spoons, .ref a_house_shrinks, .ref a_house_sorts, .ref a_house_byAge])), (a_rain_spoons, .inl (cI, 49, .inl rain_spoons)), (a_told_springs, .inl (cI, 5, .inl told_springs)), (a_house_shrinks, .inl (cI, 7, .inl house_shrinks)), (a_told_spoons, .inl (cI, 5, .inl told_spoons))] H := ⟨hP, hD⟩
        obtain ⟨hP, hD⟩ := hPD
        refine lv_iload hx hb dX7_areLevelsSo_33 (lv_at hl 0 rfl) ?_
        refine lv_iload_n hx hb dX7_areLevelsSo_35 rfl (lv_at hl 2 rfl) ?_
        refine lv_icmp_ne (tgt := 43) hx hb dX7_areLevelsSo_36 (by decide) (fun hc6 => ?_) (fun hc6 => ?_)
        · have hf := if_f hf hc6
          refine lv_iconst (v := 0) hx hb dX7_areLevelsSo_43 (by decide) ?_
          exact J44 (told_pans v3_2.toNatClampNeg) u2 0 hf _ _ _ ⟨hP, hD⟩ hS (lv_sub hl [1, 2, 3, 4, 0] rfl)
        · have hf := if_t hf hc6
          refine lv_iload_n hx hb dX7_areLevelsSo_39 rfl (lv_at hl 3 rfl) ?_
          refine lv_goto (tgt := 44) hx hb dX7_areLevelsSo_40 (by decide) ?_
          exact J44 (told_pans v3_2.toNatClampNeg) u2 v2 hf _ _ _ ⟨hP, hD⟩ hS (lv_sub hl [1, 2, 3, 4, 0] rfl)
  refine lv_iconst (v := 0) hx hb dX7_areLevelsSo_0 (by decide) ?_
  refine lv_istore_n (lv' := [(3, .int 0), (0, .ref a_x), (1, .int v1), (2, .int v2)]) hx hb dX7_areLevelsSo_1 rfl hl (by decide) rfl (fun ls hl => ?_)
  exact L2  FU 0 hf _ _ _ ⟨hP, hD⟩ hS (lv_sub hl [1, 2, 3, 0] rfl)
abbrev rmX7_theft : Room := { frames := 4, cells := 0, slots := 0, locals := 91 }
theorem hiX7_theft_2 : ∀ w ∈ wsX20, w ∈ wsX7_theft := fun w h => (goodIn_r (big := wsX7_theft) wsX20 [46, 47, 48, 49, 50, 51, 52, 53] rfl (by decide +kernel) w h).1
theorem hiX7_theft_7 : ∀ w ∈ wsX70, w ∈ wsX7_theft := fun w h => (goodIn_r (big := wsX7_theft) wsX70 [36, 37, 38, 39, 40, 41, 42, 43, 44, 45] rfl (by decide +kernel) w h).1
theorem cw_X7_theft_X7_areLevelsSo_202 {s : State} {args : Array Value} (hts : ∀ x ∈ wsX7_theft, x.before args s = true) : CallW rmX7_theft s args RX7 RX7 202 yX7_areLevelsSo cX7_areLevelsSo 6 (some .boolean) wsX7_areLevelsSo rmX7_areLevelsSo 0 0 2 := cwV 2 hts gX7_theft_X7_areLevelsSo rfl rfl rfl (by decide +kernel) ⟨Nat.le_of_ble_eq_true rfl, Nat.le_of_ble_eq_true rfl⟩
theorem cw_X7_theft_X4_inPan_116 {s : State} {args : Array Value} {D : va_G} {cI cZ cR : ClassId} (hE : EV D cI cZ cR s) (hts : ∀ x ∈ wsX7_theft, x.before args s = true) : va_CN rmX7_theft s args RX7 116 yX4_inPan "RainShelves" cX4_inPan 4 (some .int) wsX4_inPan rmX4_inPan 0 0 1 ∧ (Cond.instanceMethod yX4_inPan).before args s = true ∧ (Cond.selects RX4 yX4_inPan yX4_inPan).before args s = true := ⟨va_cnB 1 hts gX7_theft_X4_inPan_n116 rfl rfl rfl (hE.nm 16 rfl) (hts (.initialized RX4) (List.mem_of_getElem? (i := 12) rfl)) (by decide +kernel) ⟨Nat.le_of_ble_eq_true rfl, Nat.le_of_ble_eq_true rfl⟩, hts (.instanceMethod yX4_inPan) (List.mem_of_getElem? (i := 11) rfl), hts (.selects RX4 yX4_inPan yX4_inPan) (List.mem_of_getElem? (i := 13) rfl)⟩
theorem cw_X7_theft_X7_isWithin_72 {s : State} {args : Array Value} (hts : ∀ x ∈ wsX7_theft, x.before args s = true) : CallB rmX7_theft s args RX7 72 yX7_isWithin cX7_isWithin 3 (some .boolean) wsX7_isWithin rmX7_isWithin 0 0 3 ∧ (Cond.static yX7_isWithin).before args s = true := va_cwS 3 hts gX7_theft_X7_isWithin rfl rfl rfl (by decide +kernel) ⟨Nat.le_of_ble_eq_true rfl, Nat.le_of_ble_eq_true rfl⟩
set_option maxRecDepth 100000 in
set_option maxHeartbeats 4000000 in
theorem c_X7_theft (l : Launch) (D : va_G) (cI cZ cR : ClassId) (a_x : Nat) (a_house : Nat) (a_rain : Nat) (a_rain_spoons : Nat) (a_told : Nat) (a_told_pans : Nat) (a_told_springs : Nat) (a_house_shrinks : Nat) (a_told_spoons : Nat) (a_text : Nat) (a_hist : Nat) (a_img_arr : Nat) (a_kept : Nat) (a_sets : Nat) (a_frost : Nat) (a_house_years : Nat) (a_house_spoons : Nat) (a_house_sorts : Nat) (a_house_byAge : Nat) (x_traced : Int64) (house_pans : Int32) (house_least : Int32) (house_shelf : Int32) (rain_springs : Int32) (rain_lost : Int32) (rain_spoons : Nat → Int32) (told_size : Int32) (told_pans : Nat → Int32) (told_springs : Nat → Int32) (house_shrinks : Nat → Int32) (told_spoons : Nat → Int32) (v1 : Int32) (out : Int32) (hf : f_X7_theft house_pans rain_spoons told_size told_pans told_springs house_shrinks told_spoons v1 = some out) : Ci l yX7_theft wsX7_theft rmX7_theft D cI cZ cR [.ref a_x, .int v1] [(a_x, .inr (7, [.ref a_house, .ref a_text, .ref a_rain, .ref a_hist, .ref a_img_arr, .ref a_kept, .ref a_told, .ref a_sets, .ref a_frost, .long x_traced])), (a_house, .inr (2, [.int house_pans, .int house_least, .int house_shelf, .ref a_house_years, .ref a_house_spoons, .ref a_house_shrinks, .ref a_house_sorts, .ref a_house_byAge])), (a_rain, .inr (4, [.ref a_house, .ref a_rain_spoons, .int rain_springs, .int rain_lost])), (a_rain_spoons, .inl (cI, 49, .inl rain_spoons)), (a_told, .inr (3, [.ref a_told_springs, .ref a_told_pans, .ref a_told_spoons, .int told_size])), (a_told_pans, .inl (cI, 5, .inl told_pans)), (a_told_springs, .inl (cI, 5, .inl told_springs)), (a_house_shrinks, .inl (cI, 7, .inl house_shrinks)), (a_told_spoons, .inl (cI, 5, .inl told_spoons))] out [(a_x, .inr (7, [.ref a_house, .ref a_text, .ref a_rain, .ref a_hist, .ref a_img_arr, .ref a_kept, .ref a_told, .ref a_sets, .ref a_frost, .long x_traced])), (a_house, .inr (2, [.int house_pans, .int house_least, .int house_shelf, .ref a_house_years, .ref a_house_spoons, .ref a_house_shrinks, .ref a_house_sorts, .ref a_house_byAge])), (a_rain, .inr (4, [.ref a_house, .ref a_rain_spoons, .int rain_springs, .int rain_lost])), (a_rain_spoons, .inl (cI, 49, .inl rain_spoons)), (a_told, .inr (3, [.ref a_told_springs, .ref a_told_pans, .ref a_told_spoons, .int told_size])), (a_told_pans, .inl (cI, 5, .inl told_pans)), (a_told_springs, .inl (cI, 5, .inl told_springs)), (a_house_shrinks, .inl (cI, 7, .inl house_shrinks)), (a_told_spoons, .inl (cI, 5, .inl told_spoons))] := by
  refine ent_i (cc := cX7_theft) (maxL := 8) .int (by decide) rfl (Nat.le_of_ble_eq_true rfl) ?_
  intro p e s m below meth c A Q hx hb hml hown hts hE hA hP hD hS hret ls hl
  have hown : s.vm.findClass RX7 = some m.cls := hown
  have hl : lv_has ls 8 [(0, .ref a_x), (1, .int v1)] := hl
  have fL10 := hts (.fieldLink RX7 10 "RainShelves" "house" "LRainShelves$House;") (List.mem_of_getElem? (i := 1) rfl)
  have fL28 := hts (.fieldLink RX7 28 "RainShelves" "rain" "LRainShelves$Rain;") (List.mem_of_getElem? (i := 2) rfl)
  have fL172 : (Cond.fieldLinkNest RX7 172 "RainShelves$House" "pans" "I" "RainShelves").before ([.ref a_x, .int v1] : List Value).toArray s = true := hE.nf 3 rfl
  have mBmin := hts (.static Lib.Math.min.name) (List.mem_of_getElem? (i := 4) rfl)
  have mDmin := hts (.code Lib.Math.min.name Lib.Math.min.code 2 (some .int)) (List.mem_of_getElem? (i := 6) rfl)
  have mC := hts (.initialized "java/lang/Math") (List.mem_of_getElem? (i := 5) rfl)
  have mA199 := hts (.methodLink RX7 199 Lib.Math.min.name) (List.mem_of_getElem? (i := 3) rfl)
  unfold f_X7_theft at hf
  have J114 : ∀ (v2_114 : Int32) (v3_114 : Int32) (v4_114 : Int32), f_X7_theft_J114 v1 v2_114 v3_114 v4_114 = some out → ∀ (H : Heap) (locs : List Loc) (ls : Array Slot), PD D A [(a_x, .inr (7, [.ref a_house, .ref a_text, .ref a_rain, .ref a_hist, .ref a_img_arr, .ref a_kept, .ref a_told, .ref a_sets, .ref a_frost, .long x_traced])), (a_house, .inr (2, [.int house_pans, .int house_least, .int house_shelf, .ref a_house_years, .ref a_house_spoons, .ref a_house_shrinks, .ref a_house_sorts, .ref a_house_byAge])), (a_rain, .inr (4, [.ref a_house, .ref a_rain_spoons, .int rain_springs, .int rain_lost])), (a_rain_spoons, .inl (cI, 49, .inl rain_spoons)), (a_told, .inr (3, [.ref a_told_springs, .ref a_told_pans, .ref a_told_spoons, .int told_size])), (a_told_pans, .inl (cI, 5, .inl told_pans)), (a_told_springs, .inl (cI, 5, .inl told_springs)), (a_house_shrinks, .inl (cI, 7, .inl house_shrinks)), (a_told_spoons, .inl (cI, 5, .inl told_spoons))] H → va_S A s.heap H locs → lv_has ls 8 [(1, .int v1), (2, .int v2_114), (3, .int v3_114), (4, .int v4_114)] → W p l e rmX7_theft s m ([.ref a_x, .int v1] : List Value).toArray below meth c H locs 0 0 Q (F0 m 114 ls []) := by
    intro v2_114 v3_114 v4_114 hf H locs ls hPD hS hl
    obtain ⟨hP, hD⟩ := hPD
    unfold f_X7_theft_J114 at hf
    refine lv_iload_n hx hb dX7_theft_114 rfl (lv_at hl 0 rfl) ?_
    refine lv_if_ne (tgt := 122) hx hb dX7_theft_115 (by decide) (fun hc1 => ?_) (fun hc1 => ?_)
    · have hf := if_f hf hc1
      refine lv_iload_n hx hb dX7_theft_122 rfl (lv_at hl 0 rfl) ?_
      refine lv_iconst (v := 1) hx hb dX7_theft_123 (by decide) ?_
      refine lv_icmp_ne (tgt := 131) hx hb dX7_theft_124 (by decide) (fun hc2 => ?_) (fun hc2 => ?_)
      · have hf := if_f hf hc2
        refine lv_iload hx hb dX7_theft_131 (lv_at hl 3 rfl) ?_
        have he := Option.some.inj hf
        subst he
        exact hret _ _ _ _ dX7_theft_133 rfl hP hD hS
      · have hf := if_t hf hc2
        refine lv_iload_n hx hb dX7_theft_127 rfl (lv_at hl 2 rfl) ?_
        refine lv_goto (tgt := 133) hx hb dX7_theft_128 (by decide) ?_
        have he := Option.some.inj hf
        subst he
        exact hret _ _ _ _ dX7_theft_133 rfl hP hD hS
    · have hf := if_t hf hc1
      refine lv_iload_n hx hb dX7_theft_118 rfl (lv_at hl 1 rfl) ?_
      refine lv_goto (tgt := 133) hx hb dX7_theft_119 (by decide) ?_
      have he := Option.some.inj hf
      subst he
      exact hret _ _ _ _ dX7_theft_133 rfl hP hD hS
  have L22 : ∀ (n22 : Nat) (v2_22 : Int32) (v3_22 : Int32) (v4_22 : Int32) (v5_22 : Int32), f_X7_theft_L22 house_pans rain_spoons told_size told_pans told_springs house_shrinks told_spoons v1 n22 v2_22 v3_22 v4_22 v5_22 = some out → ∀ (H : Heap) (locs : List Loc) (ls : Array Slot), PD D A [(a_x, .inr (7, [.ref a_house, .ref a_text, .ref a_rain, .ref a_hist, .ref a_img_arr, .ref a_kept, .ref a_told, .ref a_sets, .ref a_frost, .long x_traced])), (a_house, .inr (2, [.int house_pans, .int house_least, .int house_shelf, .ref a_house_years, .ref a_house_spoons, .ref a_house_shrinks, .ref a_house_sorts, .ref a_house_byAge])), (a_rain, .inr (4, [.ref a_house, .ref a_rain_spoons, .int rain_springs, .int rain_lost])), (a_rain_spoons, .inl (cI, 49, .inl rain_spoons)), (a_told, .inr (3, [.ref a_told_springs, .ref a_told_pans, .ref a_told_spoons, .int told_size])), (a_told_pans, .inl (cI, 5, .inl told_pans)), (a_told_springs, .inl (cI, 5, .inl told_springs)), (a_house_shrinks, .inl (cI, 7, .inl house_shrinks)), (a_told_spoons, .inl (cI, 5, .inl told_spoons))] H → va_S A s.heap H locs → lv_has ls 8 [(0, .ref a_x), (1, .int v1), (2, .int v2_22), (3, .int v3_22), (4, .int v4_22), (5, .int v5_22)] → W p l e rmX7_theft s m ([.ref a_x, .int v1] : List Value).toArray below meth c H locs 0 0 Q (F0 m 22 ls []) := by
    intro  n22
    induction n22 with
    | zero => intro v2_22 v3_22 v4_22 v5_22 hf; cases hf
    | succ n22 ih22 =>
      intro v2_22 v3_22 v4_22 v5_22 hf H locs ls hPD hS hl
      obtain ⟨hP, hD⟩ := hPD
      have hf : f_X7_theft_B22 house_pans rain_spoons told_size told_pans told_springs house_shrinks told_spoons v1 (f_X7_theft_L22 house_pans rain_spoons told_size told_pans told_springs house_shrinks told_spoons v1 n22) v2_22 v3_22 v4_22 v5_22 = some out := hf
      unfold f_X7_theft_B22 at hf
      have L53 : ∀ (v6_53 : Int32) (n53 : Nat) (v2_53 : Int32) (v3_53 : Int32) (v4_53 : Int32) (v7_53 : Int32), f_X7_theft_L53 house_pans rain_spoons told_size told_pans told_springs house_shrinks told_spoons v5_22 (f_X7_theft_L22 house_pans rain_spoons told_size told_pans told_springs house_shrinks told_spoons v1 n22) v6_53 n53 v2_53 v3_53 v4_53 v7_53 = some out → ∀ (H : Heap) (locs : List Loc) (ls : Array Slot), PD D A [(a_x, .inr (7, [.ref a_house, .ref a_text, .ref a_rain, .ref a_hist, .ref a_img_arr, .ref a_kept, .ref a_told, .ref a_sets, .ref a_frost, .long x_traced])), (a_house, .inr (2, [.int house_pans, .int house_least, .int house_shelf, .ref a_house_years, .ref a_house_spoons, .ref a_house_shrinks, .ref a_house_sorts, .ref a_house_byAge])), (a_rain, .inr (4, [.ref a_house, .ref a_rain_spoons, .int rain_springs, .int rain_lost])), (a_rain_spoons, .inl (cI, 49, .inl rain_spoons)), (a_told, .inr (3, [.ref a_told_springs, .ref a_told_pans, .ref a_told_spoons, .int told_size])), (a_told_pans, .inl (cI, 5, .inl told_pans)), (a_told_springs, .inl (cI, 5, .inl told_springs)), (a_house_shrinks, .inl (cI, 7, .inl house_shrinks)), (a_told_spoons, .inl (cI, 5, .inl told_spoons))] H → va_S A s.heap H locs → lv_has ls 8 [(0, .ref a_x), (1, .int v1), (2, .int v2_53), (3, .int v3_53), (4, .int v4_53), (5, .int v5_22), (6, .int v6_53), (7, .int v7_53)] → W p l e rmX7_theft s m ([.ref a_x, .int v1] : List Value).toArray below meth c H locs 0 0 Q (F0 m 53 ls []) := by
        intro v6_53 n53
        induction n53 with
        | zero => intro v2_53 v3_53 v4_53 v7_53 hf; cases hf
        | succ n53 ih53 =>
          intro v2_53 v3_53 v4_53 v7_53 hf H locs ls hPD hS hl
          obtain ⟨hP, hD⟩ := hPD
          have hf : f_X7_theft_B53 house_pans rain_spoons told_size told_pans told_springs house_shrinks told_spoons v5_22 (f_X7_theft_L22 house_pans rain_spoons told_size told_pans told_springs house_shrinks told_spoons v1 n22) v6_53 (f_X7_theft_L53 house_pans rain_spoons told_size told_pans told_springs house_shrinks told_spoons v5_22 (f_X7_theft_L22 house_pans rain_spoons told_size told_pans told_springs house_shrinks told_spoons v1 n22) v6_53 n53) v2_53 v3_53 v4_53 v7_53 = some out := hf
          unfold f_X7_theft_B53 at hf
          have J92 : ∀ (v2_92 : Int32) (s0_92 : Int32), f_X7_theft_J92 v5_22 v4_53 v7_53 (f_X7_theft_L53 house_pans rain_spoons told_size told_pans told_springs house_shrinks told_spoons v5_22 (f_X7_theft_L22 house_pans rain_spoons told_size told_pans told_springs house_shrinks told_spoons v1 n22) v6_53 n53) v2_92 s0_92 = some out → ∀ (H : Heap) (locs : List Loc) (ls : Array Slot), PD D A [(a_x, .inr (7, [.ref a_house, .ref a_text, .ref a_rain, .ref a_hist, .ref a_img_arr, .ref a_kept, .ref a_told, .ref a_sets, .ref a_frost, .long x_traced])), (a_house, .inr (2, [.int house_pans, .int house_least, .int house_shelf, .ref a_house_years, .ref a_house_spoons, .ref a_house_shrinks, .ref a_house_sorts, .ref a_house_byAge])), (a_rain, .inr (4, [.ref a_house, .ref a_rain_spoons, .int rain_springs, .int rain_lost])), (a_rain_spoons, .inl (cI, 49, .inl rain_spoons)), (a_told, .inr (3, [.ref a_told_springs, .ref a_told_pans, .ref a_told_spoons, .int told_size])), (a_told_pans, .inl (cI, 5, .inl told_pans)), (a_told_springs, .inl (cI, 5, .inl told_springs)), (a_house_shrinks, .inl (cI, 7, .inl house_shrinks)), (a_told_spoons, .inl (cI, 5, .inl told_spoons))] H → va_S A s.heap H locs → lv_has ls 8 [(0, .ref a_x), (1, .int v1), (2, .int v2_92), (4, .int v4_53), (5, .int v5_22), (6, .int v6_53), (7, .int v7_53)] → W p l e rmX7_theft s m ([.ref a_x, .int v1] : List Value).toArray below meth c H locs 0 0 Q (F0 m 92 ls [.int s0_92]) := by
            intro v2_92 s0_92 hf H locs ls hPD hS hl
            obtain ⟨hP, hD⟩ := hPD
            unfold f_X7_theft_J92 at hf
            refine lv_istore_n (lv' := [(3, .int s0_92), (0, .ref a_x), (1, .int v1), (2, .int v2_92), (4, .int v4_53), (5, .int v5_22), (6, .int v6_53), (7, .int v7_53)]) hx hb dX7_theft_92 rfl hl (by decide) rfl (fun ls hl => ?_)
            refine lv_iload hx hb dX7_theft_93 (lv_at hl 4 rfl) ?_
            refine lv_iconst (v := 1) hx hb dX7_theft_95 (by decide) ?_
            refine lv_iload hx hb dX7_theft_96 (lv_at hl 5 rfl) ?_
            refine lv_ishl hx hb dX7_theft_98 ?_
            refine lv_ior hx hb dX7_theft_99 ?_
            refine lv_istore (lv' := [(4, .int (v4_53 ||| ((1 : Int32) <<< (v5_22 &&& 31)))), (3, .int s0_92), (0, .ref a_x), (1, .int v1), (2, .int v2_92), (5, .int v5_22), (6, .int v6_53), (7, .int v7_53)]) hx hb dX7_theft_100 hl (by decide) rfl (fun ls hl => ?_)
            refine lv_iinc (v := (v7_53 + 1)) (lv' := [(7, .int (v7_53 + 1)), (4, .int (v4_53 ||| ((1 : Int32) <<< (v5_22 &&& 31)))), (3, .int s0_92), (0, .ref a_x), (1, .int v1), (2, .int v2_92), (5, .int v5_22), (6, .int v6_53)]) hx hb dX7_theft_102 hl (k := 7) rfl (ii_p1 _) (by decide) rfl (fun ls hl => ?_)
            refine lv_goto (tgt := 53) hx hb dX7_theft_105 (by decide) ?_
            exact ih53 v2_92 s0_92 (v4_53 ||| ((1 : Int32) <<< (v5_22 &&& 31))) (v7_53 + 1) hf _ _ _ ⟨hP, hD⟩ hS (lv_sub hl [3, 4, 5, 2, 1, 6, 7, 0] rfl)
          refine lv_iload hx hb dX7_theft_53 (lv_at hl 7 rfl) ?_
          refine lv_iload hx hb dX7_theft_55 (lv_at hl 6 rfl) ?_
          refine lv_icmp_gt (tgt := 108) hx hb dX7_theft_57 (by decide) (fun hc3 => ?_) (fun hc3 => ?_)
          · have hf := if_t hf hc3
            refine lv_iinc (v := (v5_22 + 1)) (lv' := [(5, .int (v5_22 + 1)), (0, .ref a_x), (1, .int v1), (2, .int v2_53), (3, .int v3_53), (4, .int v4_53), (6, .int v6_53), (7, .int v7_53)]) hx hb dX7_theft_108 hl (k := 5) rfl (ii_p1 _) (by decide) rfl (fun ls hl => ?_)
            refine lv_goto (tgt := 22) hx hb dX7_theft_111 (by decide) ?_
            exact ih22 v2_53 v3_53 v4_53 (v5_22 + 1) hf _ _ _ ⟨hP, hD⟩ hS (lv_sub hl [1, 2, 3, 4, 5, 0] rfl)
          · have hf := if_f hf hc3
            refine lv_aload_n hx hb dX7_theft_60 rfl (lv_at hl 0 rfl) ?_
            refine lv_iload hx hb dX7_theft_61 (lv_at hl 5 rfl) ?_
            refine lv_iload hx hb dX7_theft_63 (lv_at hl 7 rfl) ?_
            obtain ⟨u1, hu1, hf⟩ := bd_some hf
            refine cl_iV (As := [.int v5_22, .int v7_53]) (rest := []) ⟨hx, hb, hml, hown, hts⟩ (c_X7_areLevelsSo l D cI cZ cR a_x a_told a_told_pans a_rain a_house a_rain_spoons a_told_springs a_house_shrinks a_told_spoons a_text a_hist a_img_arr a_kept a_sets a_frost a_house_years a_house_spoons a_house_sorts a_house_byAge x_traced told_size told_pans rain_springs rain_lost house_pans house_least house_shelf rain_spoons told_springs house_shrinks told_spoons v5_22 v7_53 u1 hu1) (cw_X7_theft_X7_areLevelsSo_202 hts) hE hP hD hS hA [0, 4, 5, 2, 1, 3, 6, 7, 8] rfl rfl [a_x, a_told, a_told_pans, a_rain, a_house, a_rain_spoons, a_told_springs, a_house_shrinks, a_told_spoons] rfl rfl 0 7 rfl rfl rfl hl.1 rfl (Nat.le_of_ble_eq_true rfl) dX7_theft_65 ⟨Nat.zero_le _, Nat.zero_le _⟩ (fun H locs hP hD hS => ?_)
            have hPD : PD D A [(a_x, .inr (7, [.ref a_house, .ref a_text, .ref a_rain, .ref a_hist, .ref a_img_arr, .ref a_kept, .ref a_told, .ref a_sets, .ref a_frost, .long x_traced])), (a_house, .inr (2, [.int house_pans, .int house_least, .int house_shelf, .ref a_house_years, .ref a_house_spoons, .ref a_house_shrinks, .ref a_house_sorts, .ref a_house_byAge])), (a_rain, .inr (4, [.ref a_house, .ref a_rain_spoons, .int rain_springs, .int rain_lost])), (a_rain_spoons, .inl (cI, 49, .inl rain_spoons)), (a_told, .inr (3, [.ref a_told_springs, .ref a_told_pans, .ref a_told_spoons, .int told_size])), (a_told_pans, .inl (cI, 5, .inl told_pans)), (a_told_springs, .inl (cI, 5, .inl told_springs)), (a_house_shrinks, .inl (cI, 7, .inl house_shrinks)), (a_told_spoons, .inl (cI, 5, .inl told_spoons))] H := ⟨hP, hD⟩
            obtain ⟨hP, hD⟩ := hPD
            refine lv_if_eq (tgt := 102) hx hb dX7_theft_68 (by decide) (fun hc4 => ?_) (fun hc4 => ?_)
            · have hf := if_t hf hc4
              refine lv_iinc (v := (v7_53 + 1)) (lv' := [(7, .int (v7_53 + 1)), (0, .ref a_x), (1, .int v1), (2, .int v2_53), (3, .int v3_53), (4, .int v4_53), (5, .int v5_22), (6, .int v6_53)]) hx hb dX7_theft_102 hl (k := 7) rfl (ii_p1 _) (by decide) rfl (fun ls hl => ?_)
              refine lv_goto (tgt := 53) hx hb dX7_theft_105 (by decide) ?_
              exact ih53 v2_53 v3_53 v4_53 (v7_53 + 1) hf _ _ _ ⟨hP, hD⟩ hS (lv_sub hl [1, 2, 3, 4, 5, 6, 7, 0] rfl)
            · have hf := if_f hf hc4
              refine lv_iinc (v := (v2_53 + 1)) (lv' := [(2, .int (v2_53 + 1)), (0, .ref a_x), (1, .int v1), (3, .int v3_53), (4, .int v4_53), (5, .int v5_22), (6, .int v6_53), (7, .int v7_53)]) hx hb dX7_theft_71 hl (k := 2) rfl (ii_p1 _) (by decide) rfl (fun ls hl => ?_)
              refine lv_iload_n hx hb dX7_theft_74 rfl (lv_at hl 3 rfl) ?_
              refine lv_bipush (v := (-9)) hx hb dX7_theft_75 (by decide) ?_
              refine lv_icmp_ne (tgt := 91) hx hb dX7_theft_77 (by decide) (fun hc5 => ?_) (fun hc5 => ?_)
              · have hf := if_f hf hc5
                refine lv_iload_n hx hb dX7_theft_91 rfl (lv_at hl 3 rfl) ?_
                exact J92 (v2_53 + 1) v3_53 hf _ _ _ ⟨hP, hD⟩ hS (lv_sub hl [1, 2, 0, 4, 5, 6, 7] rfl)
              · have hf := if_t hf hc5
                refine lv_bipush (v := 100) hx hb dX7_theft_80 (by decide) ?_
                refine lv_iload hx hb dX7_theft_82 (lv_at hl 5 rfl) ?_
                refine lv_imul hx hb dX7_theft_84 ?_
                refine lv_iload hx hb dX7_theft_85 (lv_at hl 7 rfl) ?_
                refine lv_iadd hx hb dX7_theft_87 ?_
                refine lv_goto (tgt := 92) hx hb dX7_theft_88 (by decide) ?_
                exact J92 (v2_53 + 1) ((100 * v5_22) + v7_53) hf _ _ _ ⟨hP, hD⟩ hS (lv_sub hl [1, 2, 0, 4, 5, 6, 7] rfl)
      refine lv_iload hx hb dX7_theft_22 (lv_at hl 5 rfl) ?_
      refine lv_aload_n hx hb dX7_theft_24 rfl (lv_at hl 0 rfl) ?_
      refine va_get (D := D) (ci := 7) (v := .ref a_house) (C := RX7) (T := TX7) (N := 10) hx hb hts hiX7_theft_7 hown hE.1 hP 0 rfl rfl 0 (by decide) fL10 (fun _ h9 => h9) rfl dX7_theft_25 ?_
      refine va_getN (D := D) (ci := 2) (v := .int house_pans) (C := RX2) (T := TX2) (N := 8) hx hb hts hiX7_theft_2 hown hE.1 hP 1 rfl rfl 0 (by decide) fL172 (fun _ h9 => h9) rfl dX7_theft_28 ?_
      refine lv_icmp_ge (tgt := 114) hx hb dX7_theft_31 (by decide) (fun hc6 => ?_) (fun hc6 => ?_)
      · have hf := if_t hf hc6
        exact J114 v2_22 v3_22 v4_22 hf _ _ _ ⟨hP, hD⟩ hS (lv_sub hl [1, 2, 3, 4] rfl)
      · have hf := if_f hf hc6
        refine lv_bipush (v := 20) hx hb dX7_theft_34 (by decide) ?_
        refine lv_aload_n hx hb dX7_theft_36 rfl (lv_at hl 0 rfl) ?_
        refine va_get (D := D) (ci := 7) (v := .ref a_rain) (C := RX7) (T := TX7) (N := 10) hx hb hts hiX7_theft_7 hown hE.1 hP 0 rfl rfl 2 (by decide) fL28 (fun _ h9 => h9) rfl dX7_theft_37 ?_
        refine lv_iload hx hb dX7_theft_40 (lv_at hl 5 rfl) ?_
        obtain ⟨u2, hu2, hf⟩ := bd_some hf
        refine cl_iN (As := [.int v5_22]) (rest := [.int 20]) ⟨hx, hb, hml, hown, hts⟩ (c_X4_inPan l D cI cZ cR a_rain a_house a_rain_spoons a_house_years a_house_spoons a_house_shrinks a_house_sorts a_house_byAge rain_springs rain_lost house_pans house_least house_shelf rain_spoons v5_22 u2 hu2) (cw_X7_theft_X4_inPan_116 hE hts) hE hP hD hS hA [2, 1, 3] rfl rfl [a_rain, a_house, a_rain_spoons] rfl rfl 2 4 rfl rfl rfl hl.1 rfl (Nat.le_of_ble_eq_true rfl) dX7_theft_42 ⟨Nat.zero_le _, Nat.zero_le _⟩ (fun H locs hP hD hS => ?_)
        have hPD : PD D A [(a_x, .inr (7, [.ref a_house, .ref a_text, .ref a_rain, .ref a_hist, .ref a_img_arr, .ref a_kept, .ref a_told, .ref a_sets, .ref a_frost, .long x_traced])), (a_house, .inr (2, [.int house_pans, .int house_least, .int house_shelf, .ref a_house_years, .ref a_house_spoons, .ref a_house_shrinks, .ref a_house_sorts, .ref a_house_byAge])), (a_rain, .inr (4, [.ref a_house, .ref a_rain_spoons, .int rain_springs, .int rain_lost])), (a_rain_spoons, .inl (cI, 49, .inl rain_spoons)), (a_told, .inr (3, [.ref a_told_springs, .ref a_told_pans, .ref a_told_spoons, .int told_size])), (a_told_pans, .inl (cI, 5, .inl told_pans)), (a_told_springs, .inl (cI, 5, .inl told_springs)), (a_house_shrinks, .inl (cI, 7, .inl house_shrinks)), (a_told_spoons, .inl (cI, 5, .inl told_spoons))] H := ⟨hP, hD⟩
        obtain ⟨hP, hD⟩ := hPD
        refine va_mmin hx hb (hml.trans hl.1.symm) hown mA199 mBmin mC mDmin (Nat.le_of_ble_eq_true rfl) (Nat.le_of_ble_eq_true rfl) (Nat.zero_le _) (Nat.zero_le _) dX7_theft_45 ?_
        refine lv_istore (lv' := [(6, .int (if u2 < (20 : Int32) then u2 else (20 : Int32))), (0, .ref a_x), (1, .int v1), (2, .int v2_22), (3, .int v3_22), (4, .int v4_22), (5, .int v5_22)]) hx hb dX7_theft_48 hl (by decide) rfl (fun ls hl => ?_)
        refine lv_iconst (v := 1) hx hb dX7_theft_50 (by decide) ?_
        refine lv_istore (lv' := [(7, .int 1), (6, .int (if u2 < (20 : Int32) then u2 else (20 : Int32))), (0, .ref a_x), (1, .int v1), (2, .int v2_22), (3, .int v3_22), (4, .int v4_22), (5, .int v5_22)]) hx hb dX7_theft_51 hl (by decide) rfl (fun ls hl => ?_)
        exact L53 (if u2 < (20 : Int32) then u2 else (20 : Int32)) FU v2_22 v3_22 v4_22 1 hf _ _ _ ⟨hP, hD⟩ hS (lv_sub hl [2, 3, 4, 5, 6, 7, 1, 0] rfl)
  refine lv_iload_n hx hb dX7_theft_0 rfl (lv_at hl 1 rfl) ?_
  refine lv_iconst (v := 0) hx hb dX7_theft_1 (by decide) ?_
  refine lv_iconst (v := 2) hx hb dX7_theft_2 (by decide) ?_
  obtain ⟨u3, hu3, hf⟩ := bd_some hf
  refine cl_iS (As := [.int v1, .int 0, .int 2]) (rest := []) ⟨hx, hb, hml, hown, hts⟩ (c_X7_isWithin l D cI cZ cR   v1 0 2 u3 hu3) (cw_X7_theft_X7_isWithin_72 hts) hE hP hD hS hA rfl hl.1 rfl (Nat.le_of_ble_eq_true rfl) dX7_theft_3 ⟨Nat.zero_le _, Nat.zero_le _⟩ (fun H locs hP hS => ?_)
  refine lv_if_ne (tgt := 11) hx hb dX7_theft_6 (by decide) (fun hc7 => ?_) (fun hc7 => ?_)
  · have hf := if_f hf hc7
    refine lv_iconst (v := 0) hx hb dX7_theft_11 (by decide) ?_
    refine lv_istore_n (lv' := [(2, .int 0), (0, .ref a_x), (1, .int v1)]) hx hb dX7_theft_12 rfl hl (by decide) rfl (fun ls hl => ?_)
    refine lv_bipush (v := (-9)) hx hb dX7_theft_13 (by decide) ?_
    refine lv_istore_n (lv' := [(3, .int (-9)), (2, .int 0), (0, .ref a_x), (1, .int v1)]) hx hb dX7_theft_15 rfl hl (by decide) rfl (fun ls hl => ?_)
    refine lv_iconst (v := 0) hx hb dX7_theft_16 (by decide) ?_
    refine lv_istore (lv' := [(4, .int 0), (3, .int (-9)), (2, .int 0), (0, .ref a_x), (1, .int v1)]) hx hb dX7_theft_17 hl (by decide) rfl (fun ls hl => ?_)
    refine lv_iconst (v := 0) hx hb dX7_theft_19 (by decide) ?_
    refine lv_istore (lv' := [(5, .int 0), (4, .int 0), (3, .int (-9)), (2, .int 0), (0, .ref a_x), (1, .int v1)]) hx hb dX7_theft_20 hl (by decide) rfl (fun ls hl => ?_)
    exact L22  FU 0 (-9) 0 0 hf _ _ _ ⟨hP, hD⟩ hS (lv_sub hl [4, 5, 3, 2, 1, 0] rfl)
  · have hf := if_t hf hc7
    refine lv_iconst (v := (-1)) hx hb dX7_theft_9 (by decide) ?_
    have he := Option.some.inj hf
    subst he
    exact hret _ _ _ _ dX7_theft_10 rfl hP hD hS
abbrev rmX7_shelves : Room := { frames := 4, cells := 0, slots := 0, locals := 91 }
theorem hiX7_shelves_7 : ∀ w ∈ wsX70, w ∈ wsX7_shelves := fun w h => (goodIn_r (big := wsX7_shelves) wsX70 [52, 53, 54, 55, 56, 57, 58, 59, 60, 61] rfl (by decide +kernel) w h).1
theorem cw_X7_shelves_X5_weigh_180 {s : State} {args : Array Value} {D : va_G} {cI cZ cR : ClassId} (hE : EV D cI cZ cR s) (hts : ∀ x ∈ wsX7_shelves, x.before args s = true) : va_CN rmX7_shelves s args RX7 180 yX5_weigh "RainShelves" cX5_weigh 6 none wsX5_weigh rmX5_weigh 0 0 2 ∧ (Cond.instanceMethod yX5_weigh).before args s = true ∧ (Cond.selects RX5 yX5_weigh yX5_weigh).before args s = true := ⟨va_cnB 2 hts gX7_shelves_X5_weigh_n180 rfl rfl rfl (hE.nm 30 rfl) (hts (.initialized RX5) (List.mem_of_getElem? (i := 5) rfl)) (by decide +kernel) ⟨Nat.le_of_ble_eq_true rfl, Nat.le_of_ble_eq_true rfl⟩, hts (.instanceMethod yX5_weigh) (List.mem_of_getElem? (i := 4) rfl), hts (.selects RX5 yX5_weigh yX5_weigh) (List.mem_of_getElem? (i := 6) rfl)⟩
theorem cw_X7_shelves_X5_fewestShelves_212 {s : State} {args : Array Value} {D : va_G} {cI cZ cR : ClassId} (hE : EV D cI cZ cR s) (hts : ∀ x ∈ wsX7_shelves, x.before args s = true) : va_CN rmX7_shelves s args RX7 212 yX5_fewestShelves "RainShelves" cX5_fewestShelves 2 (some .int) wsX5_fewestShelves rmX5_fewestShelves 0 0 0 ∧ (Cond.instanceMethod yX5_fewestShelves).before args s = true ∧ (Cond.selects RX5 yX5_fewestShelves yX5_fewestShelves).before args s = true := ⟨va_cnB 0 hts gX7_shelves_X5_fewestShelves_n212 rfl rfl rfl (hE.nm 37 rfl) (hts (.initialized RX5) (List.mem_of_getElem? (i := 5) rfl)) (by decide +kernel) ⟨Nat.le_of_ble_eq_true rfl, Nat.le_of_ble_eq_true rfl⟩, hts (.instanceMethod yX5_fewestShelves) (List.mem_of_getElem? (i := 32) rfl), hts (.selects RX5 yX5_fewestShelves yX5_fewestShelves) (List.mem_of_getElem? (i := 33) rfl)⟩
set_option maxRecDepth 100000 in
set_option maxHeartbeats 4000000 in
theorem c_X7_shelves (l : Launch) (D : va_G) (cI cZ cR : ClassId) (a_x : Nat) (a_sets : Nat) (a_house : Nat) (a_house_sorts : Nat) (a_sets_weights : Nat) (a_rain : Nat) (a_rain_spoons : Nat) (a_sets_fewest : Nat) (a_text : Nat) (a_hist : Nat) (a_img_arr : Nat) (a_kept : Nat) (a_told : Nat) (a_frost : Nat) (a_house_years : Nat) (a_house_spoons : Nat) (a_house_shrinks : Nat) (a_house_byAge : Nat) (x_traced : Int64) (sets_size : Int32) (sets_shelf : Int32) (sets_hail : Int32) (sets_filled : Int32) (house_pans : Int32) (house_least : Int32) (house_shelf : Int32) (house_sorts : Nat → Int32) (sets_weights : Nat → Int32) (rain_springs : Int32) (rain_lost : Int32) (rain_spoons : Nat → Int32) (sets_fewest : Nat → Int32) (out : Int32 × Int32 × Int32 × Int32 × Int32 × (Nat → Int32) × (Nat → Int32)) (hf : f_X7_shelves house_pans house_shelf house_sorts sets_weights rain_spoons sets_fewest = some out) : Ci l yX7_shelves wsX7_shelves rmX7_shelves D cI cZ cR [.ref a_x] [(a_x, .inr (7, [.ref a_house, .ref a_text, .ref a_rain, .ref a_hist, .ref a_img_arr, .ref a_kept, .ref a_told, .ref a_sets, .ref a_frost, .long x_traced])), (a_sets, .inr (5, [.ref a_sets_weights, .ref a_sets_fewest, .int sets_size, .int sets_shelf, .int sets_hail, .int sets_filled])), (a_house, .inr (2, [.int house_pans, .int house_least, .int house_shelf, .ref a_house_years, .ref a_house_spoons, .ref a_house_shrinks, .ref a_house_sorts, .ref a_house_byAge])), (a_house_sorts, .inl (cI, 7, .inl house_sorts)), (a_sets_weights, .inl (cI, 128, .inl sets_weights)), (a_rain, .inr (4, [.ref a_house, .ref a_rain_spoons, .int rain_springs, .int rain_lost])), (a_rain_spoons, .inl (cI, 49, .inl rain_spoons)), (a_sets_fewest, .inl (cI, 128, .inl sets_fewest))] out.1 [(a_x, .inr (7, [.ref a_house, .ref a_text, .ref a_rain, .ref a_hist, .ref a_img_arr, .ref a_kept, .ref a_told, .ref a_sets, .ref a_frost, .long x_traced])), (a_sets, .inr (5, [.ref a_sets_weights, .ref a_sets_fewest, .int out.2.1, .int out.2.2.1, .int out.2.2.2.1, .int out.2.2.2.2.1])), (a_house, .inr (2, [.int house_pans, .int house_least, .int house_shelf, .ref a_house_years, .ref a_house_spoons, .ref a_house_shrinks, .ref a_house_sorts, .ref a_house_byAge])), (a_house_sorts, .inl (cI, 7, .inl house_sorts)), (a_sets_weights, .inl (cI, 128, .inl out.2.2.2.2.2.1)), (a_rain, .inr (4, [.ref a_house, .ref a_rain_spoons, .int rain_springs, .int rain_lost])), (a_rain_spoons, .inl (cI, 49, .inl rain_spoons)), (a_sets_fewest, .inl (cI, 128, .inl out.2.2.2.2.2.2))] := by
  refine ent_i (cc := cX7_shelves) (maxL := 1) .int (by decide) rfl (Nat.le_of_ble_eq_true rfl) ?_
  intro p e s m below meth c A Q hx hb hml hown hts hE hA hP hD hS hret ls hl
  have hown : s.vm.findClass RX7 = some m.cls := hown
  have hl : lv_has ls 1 [(0, .ref a_x)] := hl
  have fL10 := hts (.fieldLink RX7 10 "RainShelves" "house" "LRainShelves$House;") (List.mem_of_getElem? (i := 2) rfl)
  have fL28 := hts (.fieldLink RX7 28 "RainShelves" "rain" "LRainShelves$Rain;") (List.mem_of_getElem? (i := 3) rfl)
  have fL57 := hts (.fieldLink RX7 57 "RainShelves" "sets" "LRainShelves$Sets;") (List.mem_of_getElem? (i := 1) rfl)
  unfold f_X7_shelves at hf
  refine lv_aload_n hx hb dX7_shelves_0 rfl (lv_at hl 0 rfl) ?_
  refine va_get (D := D) (ci := 7) (v := .ref a_sets) (C := RX7) (T := TX7) (N := 10) hx hb hts hiX7_shelves_7 hown hE.1 hP 0 rfl rfl 7 (by decide) fL57 (fun _ h9 => h9) rfl dX7_shelves_1 ?_
  refine lv_aload_n hx hb dX7_shelves_4 rfl (lv_at hl 0 rfl) ?_
  refine va_get (D := D) (ci := 7) (v := .ref a_house) (C := RX7) (T := TX7) (N := 10) hx hb hts hiX7_shelves_7 hown hE.1 hP 0 rfl rfl 0 (by decide) fL10 (fun _ h9 => h9) rfl dX7_shelves_5 ?_
  refine lv_aload_n hx hb dX7_shelves_8 rfl (lv_at hl 0 rfl) ?_
  refine va_get (D := D) (ci := 7) (v := .ref a_rain) (C := RX7) (T := TX7) (N := 10) hx hb hts hiX7_shelves_7 hown hE.1 hP 0 rfl rfl 2 (by decide) fL28 (fun _ h9 => h9) rfl dX7_shelves_9 ?_
  obtain ⟨u1, hu1, hf⟩ := bd_some hf
  refine cl_vN (As := [.ref a_house, .ref a_rain]) (rest := []) ⟨hx, hb, hml, hown, hts⟩ (c_X5_weigh l D cI cZ cR a_sets a_house a_rain a_house_sorts a_sets_weights a_rain_spoons a_sets_fewest a_house_years a_house_spoons a_house_shrinks a_house_byAge sets_size sets_shelf sets_hail sets_filled house_pans house_least house_shelf house_sorts sets_weights rain_springs rain_lost rain_spoons  u1 hu1) (cw_X7_shelves_X5_weigh_180 hE hts) hE hP hD hS hA [1, 2, 3, 4, 5, 6] rfl rfl [a_sets, a_house, a_house_sorts, a_sets_weights, a_rain, a_rain_spoons] rfl rfl 1 5 rfl rfl rfl hl.1 rfl (Nat.le_of_ble_eq_true rfl) dX7_shelves_12 ⟨Nat.zero_le _, Nat.zero_le _⟩ (fun H locs hP hD hS => ?_)
  have hPD : PD D A [(a_x, .inr (7, [.ref a_house, .ref a_text, .ref a_rain, .ref a_hist, .ref a_img_arr, .ref a_kept, .ref a_told, .ref a_sets, .ref a_frost, .long x_traced])), (a_sets, .inr (5, [.ref a_sets_weights, .ref a_sets_fewest, .int u1.1, .int u1.2.1, .int u1.2.2.1, .int u1.2.2.2.1])), (a_house, .inr (2, [.int house_pans, .int house_least, .int house_shelf, .ref a_house_years, .ref a_house_spoons, .ref a_house_shrinks, .ref a_house_sorts, .ref a_house_byAge])), (a_house_sorts, .inl (cI, 7, .inl house_sorts)), (a_sets_weights, .inl (cI, 128, .inl u1.2.2.2.2)), (a_rain, .inr (4, [.ref a_house, .ref a_rain_spoons, .int rain_springs, .int rain_lost])), (a_rain_spoons, .inl (cI, 49, .inl rain_spoons)), (a_sets_fewest, .inl (cI, 128, .inl sets_fewest))] H := ⟨hP, hD⟩
  obtain ⟨hP, hD⟩ := hPD
  refine lv_aload_n hx hb dX7_shelves_15 rfl (lv_at hl 0 rfl) ?_
  refine va_get (D := D) (ci := 7) (v := .ref a_sets) (C := RX7) (T := TX7) (N := 10) hx hb hts hiX7_shelves_7 hown hE.1 hP 0 rfl rfl 7 (by decide) fL57 (fun _ h9 => h9) rfl dX7_shelves_16 ?_
  obtain ⟨u2, hu2, hf⟩ := bd_some hf
  refine cl_iN (As := []) (rest := []) ⟨hx, hb, hml, hown, hts⟩ (c_X5_fewestShelves l D cI cZ cR a_sets a_sets_weights a_sets_fewest u1.1 u1.2.1 u1.2.2.1 u1.2.2.2.1 u1.2.2.2.2 sets_fewest  u2 hu2) (cw_X7_shelves_X5_fewestShelves_212 hE hts) hE hP hD hS hA [1, 4, 7] rfl rfl [a_sets, a_sets_weights, a_sets_fewest] rfl rfl 1 5 rfl rfl rfl hl.1 rfl (Nat.le_of_ble_eq_true rfl) dX7_shelves_19 ⟨Nat.zero_le _, Nat.zero_le _⟩ (fun H locs hP hD hS => ?_)
  have hPD : PD D A [(a_x, .inr (7, [.ref a_house, .ref a_text, .ref a_rain, .ref a_hist, .ref a_img_arr, .ref a_kept, .ref a_told, .ref a_sets, .ref a_frost, .long x_traced])), (a_sets, .inr (5, [.ref a_sets_weights, .ref a_sets_fewest, .int u1.1, .int u1.2.1, .int u1.2.2.1, .int u1.2.2.2.1])), (a_house, .inr (2, [.int house_pans, .int house_least, .int house_shelf, .ref a_house_years, .ref a_house_spoons, .ref a_house_shrinks, .ref a_house_sorts, .ref a_house_byAge])), (a_house_sorts, .inl (cI, 7, .inl house_sorts)), (a_sets_weights, .inl (cI, 128, .inl u1.2.2.2.2)), (a_rain, .inr (4, [.ref a_house, .ref a_rain_spoons, .int rain_springs, .int rain_lost])), (a_rain_spoons, .inl (cI, 49, .inl rain_spoons)), (a_sets_fewest, .inl (cI, 128, .inl u2.2))] H := ⟨hP, hD⟩
  obtain ⟨hP, hD⟩ := hPD
  have he := Option.some.inj hf
  subst he
  exact hret _ _ _ _ dX7_shelves_22 rfl hP hD hS
abbrev rmX7_beside : Room := { frames := 4, cells := 0, slots := 0, locals := 91 }
theorem hiX7_beside_7 : ∀ w ∈ wsX70, w ∈ wsX7_beside := fun w h => (goodIn_r (big := wsX7_beside) wsX70 [57, 58, 59, 60, 61, 62, 63, 64, 65, 66] rfl (by decide +kernel) w h).1
theorem cw_X7_beside_X2_has_103 {s : State} {args : Array Value} {D : va_G} {cI cZ cR : ClassId} (hE : EV D cI cZ cR s) (hts : ∀ x ∈ wsX7_beside, x.before args s = true) : va_CN rmX7_beside s args RX7 103 yX2_has "RainShelves" cX2_has 2 (some .boolean) wsX2_has rmX2_has 0 0 1 ∧ (Cond.instanceMethod yX2_has).before args s = true ∧ (Cond.selects RX2 yX2_has yX2_has).before args s = true := ⟨va_cnB 1 hts gX7_beside_X2_has_n103 rfl rfl rfl (hE.nm 15 rfl) (hts (.initialized RX2) (List.mem_of_getElem? (i := 5) rfl)) (by decide +kernel) ⟨Nat.le_of_ble_eq_true rfl, Nat.le_of_ble_eq_true rfl⟩, hts (.instanceMethod yX2_has) (List.mem_of_getElem? (i := 4) rfl), hts (.selects RX2 yX2_has yX2_has) (List.mem_of_getElem? (i := 6) rfl)⟩
theorem cw_X7_beside_X5_weigh_180 {s : State} {args : Array Value} {D : va_G} {cI cZ cR : ClassId} (hE : EV D cI cZ cR s) (hts : ∀ x ∈ wsX7_beside, x.before args s = true) : va_CN rmX7_beside s args RX7 180 yX5_weigh "RainShelves" cX5_weigh 6 none wsX5_weigh rmX5_weigh 0 0 2 ∧ (Cond.instanceMethod yX5_weigh).before args s = true ∧ (Cond.selects RX5 yX5_weigh yX5_weigh).before args s = true := ⟨va_cnB 2 hts gX7_beside_X5_weigh_n180 rfl rfl rfl (hE.nm 30 rfl) (hts (.initialized RX5) (List.mem_of_getElem? (i := 10) rfl)) (by decide +kernel) ⟨Nat.le_of_ble_eq_true rfl, Nat.le_of_ble_eq_true rfl⟩, hts (.instanceMethod yX5_weigh) (List.mem_of_getElem? (i := 9) rfl), hts (.selects RX5 yX5_weigh yX5_weigh) (List.mem_of_getElem? (i := 11) rfl)⟩
theorem cw_X7_beside_X5_mostBeside_215 {s : State} {args : Array Value} {D : va_G} {cI cZ cR : ClassId} (hE : EV D cI cZ cR s) (hts : ∀ x ∈ wsX7_beside, x.before args s = true) : va_CN rmX7_beside s args RX7 215 yX5_mostBeside "RainShelves" cX5_mostBeside 5 (some .int) wsX5_mostBeside rmX5_mostBeside 0 0 1 ∧ (Cond.instanceMethod yX5_mostBeside).before args s = true ∧ (Cond.selects RX5 yX5_mostBeside yX5_mostBeside).before args s = true := ⟨va_cnB 1 hts gX7_beside_X5_mostBeside_n215 rfl rfl rfl (hE.nm 38 rfl) (hts (.initialized RX5) (List.mem_of_getElem? (i := 10) rfl)) (by decide +kernel) ⟨Nat.le_of_ble_eq_true rfl, Nat.le_of_ble_eq_true rfl⟩, hts (.instanceMethod yX5_mostBeside) (List.mem_of_getElem? (i := 35) rfl), hts (.selects RX5 yX5_mostBeside yX5_mostBeside) (List.mem_of_getElem? (i := 36) rfl)⟩
set_option maxRecDepth 100000 in
set_option maxHeartbeats 4000000 in
theorem c_X7_beside (l : Launch) (D : va_G) (cI cZ cR : ClassId) (a_x : Nat) (a_house : Nat) (a_sets : Nat) (a_house_sorts : Nat) (a_sets_weights : Nat) (a_rain : Nat) (a_rain_spoons : Nat) (a_text : Nat) (a_hist : Nat) (a_img_arr : Nat) (a_kept : Nat) (a_told : Nat) (a_frost : Nat) (a_house_years : Nat) (a_house_spoons : Nat) (a_house_shrinks : Nat) (a_house_byAge : Nat) (a_sets_fewest : Nat) (x_traced : Int64) (house_pans : Int32) (house_least : Int32) (house_shelf : Int32) (sets_size : Int32) (sets_shelf : Int32) (sets_hail : Int32) (sets_filled : Int32) (house_sorts : Nat → Int32) (sets_weights : Nat → Int32) (rain_springs : Int32) (rain_lost : Int32) (rain_spoons : Nat → Int32) (v1 : Int32) (out : Int32 × Int32 × Int32 × Int32 × Int32 × (Nat → Int32)) (hf : f_X7_beside house_pans house_shelf sets_size sets_shelf sets_hail sets_filled house_sorts sets_weights rain_spoons v1 = some out) : Ci l yX7_beside wsX7_beside rmX7_beside D cI cZ cR [.ref a_x, .int v1] [(a_x, .inr (7, [.ref a_house, .ref a_text, .ref a_rain, .ref a_hist, .ref a_img_arr, .ref a_kept, .ref a_told, .ref a_sets, .ref a_frost, .long x_traced])), (a_house, .inr (2, [.int house_pans, .int house_least, .int house_shelf, .ref a_house_years, .ref a_house_spoons, .ref a_house_shrinks, .ref a_house_sorts, .ref a_house_byAge])), (a_sets, .inr (5, [.ref a_sets_weights, .ref a_sets_fewest, .int sets_size, .int sets_shelf, .int sets_hail, .int sets_filled])), (a_house_sorts, .inl (cI, 7, .inl house_sorts)), (a_sets_weights, .inl (cI, 128, .inl sets_weights)), (a_rain, .inr (4, [.ref a_house, .ref a_rain_spoons, .int rain_springs, .int rain_lost])), (a_rain_spoons, .inl (cI, 49, .inl rain_spoons))] out.1 [(a_x, .inr (7, [.ref a_house, .ref a_text, .ref a_rain, .ref a_hist, .ref a_img_arr, .ref a_kept, .ref a_told, .ref a_sets, .ref a_frost, .long x_traced])), (a_house, .inr (2, [.int house_pans, .int house_least, .int house_shelf, .ref a_house_years, .ref a_house_spoons, .ref a_house_shrinks, .ref a_house_sorts, .ref a_house_byAge])), (a_sets, .inr (5, [.ref a_sets_weights, .ref a_sets_fewest, .int out.2.1, .int out.2.2.1, .int out.2.2.2.1, .int out.2.2.2.2.1])), (a_house_sorts, .inl (cI, 7, .inl house_sorts)), (a_sets_weights, .inl (cI, 128, .inl out.2.2.2.2.2)), (a_rain, .inr (4, [.ref a_house, .ref a_rain_spoons, .int rain_springs, .int rain_lost])), (a_rain_spoons, .inl (cI, 49, .inl rain_spoons))] := by
  refine ent_i (cc := cX7_beside) (maxL := 2) .int (by decide) rfl (Nat.le_of_ble_eq_true rfl) ?_
  intro p e s m below meth c A Q hx hb hml hown hts hE hA hP hD hS hret ls hl
  have hown : s.vm.findClass RX7 = some m.cls := hown
  have hl : lv_has ls 2 [(0, .ref a_x), (1, .int v1)] := hl
  have fL10 := hts (.fieldLink RX7 10 "RainShelves" "house" "LRainShelves$House;") (List.mem_of_getElem? (i := 1) rfl)
  have fL28 := hts (.fieldLink RX7 28 "RainShelves" "rain" "LRainShelves$Rain;") (List.mem_of_getElem? (i := 3) rfl)
  have fL57 := hts (.fieldLink RX7 57 "RainShelves" "sets" "LRainShelves$Sets;") (List.mem_of_getElem? (i := 2) rfl)
  unfold f_X7_beside at hf
  refine lv_aload_n hx hb dX7_beside_0 rfl (lv_at hl 0 rfl) ?_
  refine va_get (D := D) (ci := 7) (v := .ref a_house) (C := RX7) (T := TX7) (N := 10) hx hb hts hiX7_beside_7 hown hE.1 hP 0 rfl rfl 0 (by decide) fL10 (fun _ h9 => h9) rfl dX7_beside_1 ?_
  refine lv_iload_n hx hb dX7_beside_4 rfl (lv_at hl 1 rfl) ?_
  obtain ⟨u1, hu1, hf⟩ := bd_some hf
  refine cl_iN (As := [.int v1]) (rest := []) ⟨hx, hb, hml, hown, hts⟩ (c_X2_has l D cI cZ cR a_house a_house_years a_house_spoons a_house_shrinks a_house_sorts a_house_byAge house_pans house_least house_shelf v1 u1 hu1) (cw_X7_beside_X2_has_103 hE hts) hE hP hD hS hA [1] rfl rfl [a_house] rfl rfl 1 2 rfl rfl rfl hl.1 rfl (Nat.le_of_ble_eq_true rfl) dX7_beside_5 ⟨Nat.zero_le _, Nat.zero_le _⟩ (fun H locs hP hD hS => ?_)
  have hPD : PD D A [(a_x, .inr (7, [.ref a_house, .ref a_text, .ref a_rain, .ref a_hist, .ref a_img_arr, .ref a_kept, .ref a_told, .ref a_sets, .ref a_frost, .long x_traced])), (a_house, .inr (2, [.int house_pans, .int house_least, .int house_shelf, .ref a_house_years, .ref a_house_spoons, .ref a_house_shrinks, .ref a_house_sorts, .ref a_house_byAge])), (a_sets, .inr (5, [.ref a_sets_weights, .ref a_sets_fewest, .int sets_size, .int sets_shelf, .int sets_hail, .int sets_filled])), (a_house_sorts, .inl (cI, 7, .inl house_sorts)), (a_sets_weights, .inl (cI, 128, .inl sets_weights)), (a_rain, .inr (4, [.ref a_house, .ref a_rain_spoons, .int rain_springs, .int rain_lost])), (a_rain_spoons, .inl (cI, 49, .inl rain_spoons))] H := ⟨hP, hD⟩
  obtain ⟨hP, hD⟩ := hPD
  refine lv_if_ne (tgt := 13) hx hb dX7_beside_8 (by decide) (fun hc1 => ?_) (fun hc1 => ?_)
  · have hf := if_f hf hc1
    refine lv_aload_n hx hb dX7_beside_13 rfl (lv_at hl 0 rfl) ?_
    refine va_get (D := D) (ci := 7) (v := .ref a_sets) (C := RX7) (T := TX7) (N := 10) hx hb hts hiX7_beside_7 hown hE.1 hP 0 rfl rfl 7 (by decide) fL57 (fun _ h9 => h9) rfl dX7_beside_14 ?_
    refine lv_aload_n hx hb dX7_beside_17 rfl (lv_at hl 0 rfl) ?_
    refine va_get (D := D) (ci := 7) (v := .ref a_house) (C := RX7) (T := TX7) (N := 10) hx hb hts hiX7_beside_7 hown hE.1 hP 0 rfl rfl 0 (by decide) fL10 (fun _ h9 => h9) rfl dX7_beside_18 ?_
    refine lv_aload_n hx hb dX7_beside_21 rfl (lv_at hl 0 rfl) ?_
    refine va_get (D := D) (ci := 7) (v := .ref a_rain) (C := RX7) (T := TX7) (N := 10) hx hb hts hiX7_beside_7 hown hE.1 hP 0 rfl rfl 2 (by decide) fL28 (fun _ h9 => h9) rfl dX7_beside_22 ?_
    obtain ⟨u2, hu2, hf⟩ := bd_some hf
    refine cl_vN (As := [.ref a_house, .ref a_rain]) (rest := []) ⟨hx, hb, hml, hown, hts⟩ (c_X5_weigh l D cI cZ cR a_sets a_house a_rain a_house_sorts a_sets_weights a_rain_spoons a_sets_fewest a_house_years a_house_spoons a_house_shrinks a_house_byAge sets_size sets_shelf sets_hail sets_filled house_pans house_least house_shelf house_sorts sets_weights rain_springs rain_lost rain_spoons  u2 hu2) (cw_X7_beside_X5_weigh_180 hE hts) hE hP hD hS hA [2, 1, 3, 4, 5, 6] rfl rfl [a_sets, a_house, a_house_sorts, a_sets_weights, a_rain, a_rain_spoons] rfl rfl 2 5 rfl rfl rfl hl.1 rfl (Nat.le_of_ble_eq_true rfl) dX7_beside_25 ⟨Nat.zero_le _, Nat.zero_le _⟩ (fun H locs hP hD hS => ?_)
    have hPD : PD D A [(a_x, .inr (7, [.ref a_house, .ref a_text, .ref a_rain, .ref a_hist, .ref a_img_arr, .ref a_kept, .ref a_told, .ref a_sets, .ref a_frost, .long x_traced])), (a_house, .inr (2, [.int house_pans, .int house_least, .int house_shelf, .ref a_house_years, .ref a_house_spoons, .ref a_house_shrinks, .ref a_house_sorts, .ref a_house_byAge])), (a_sets, .inr (5, [.ref a_sets_weights, .ref a_sets_fewest, .int u2.1, .int u2.2.1, .int u2.2.2.1, .int u2.2.2.2.1])), (a_house_sorts, .inl (cI, 7, .inl house_sorts)), (a_sets_weights, .inl (cI, 128, .inl u2.2.2.2.2)), (a_rain, .inr (4, [.ref a_house, .ref a_rain_spoons, .int rain_springs, .int rain_lost])), (a_rain_spoons, .inl (cI, 49, .inl rain_spoons))] H := ⟨hP, hD⟩
    obtain ⟨hP, hD⟩ := hPD
    refine lv_aload_n hx hb dX7_beside_28 rfl (lv_at hl 0 rfl) ?_
    refine va_get (D := D) (ci := 7) (v := .ref a_sets) (C := RX7) (T := TX7) (N := 10) hx hb hts hiX7_beside_7 hown hE.1 hP 0 rfl rfl 7 (by decide) fL57 (fun _ h9 => h9) rfl dX7_beside_29 ?_
    refine lv_iload_n hx hb dX7_beside_32 rfl (lv_at hl 1 rfl) ?_
    obtain ⟨u3, hu3, hf⟩ := bd_some hf
    refine cl_iN (As := [.int v1]) (rest := []) ⟨hx, hb, hml, hown, hts⟩ (c_X5_mostBeside l D cI cZ cR a_sets a_sets_weights a_sets_fewest u2.1 u2.2.1 u2.2.2.1 u2.2.2.2.1 u2.2.2.2.2 v1 u3 hu3) (cw_X7_beside_X5_mostBeside_215 hE hts) hE hP hD hS hA [2, 4] rfl rfl [a_sets, a_sets_weights] rfl rfl 2 5 rfl rfl rfl hl.1 rfl (Nat.le_of_ble_eq_true rfl) dX7_beside_33 ⟨Nat.zero_le _, Nat.zero_le _⟩ (fun H locs hP hD hS => ?_)
    have hPD : PD D A [(a_x, .inr (7, [.ref a_house, .ref a_text, .ref a_rain, .ref a_hist, .ref a_img_arr, .ref a_kept, .ref a_told, .ref a_sets, .ref a_frost, .long x_traced])), (a_house, .inr (2, [.int house_pans, .int house_least, .int house_shelf, .ref a_house_years, .ref a_house_spoons, .ref a_house_shrinks, .ref a_house_sorts, .ref a_house_byAge])), (a_sets, .inr (5, [.ref a_sets_weights, .ref a_sets_fewest, .int u2.1, .int u2.2.1, .int u2.2.2.1, .int u2.2.2.2.1])), (a_house_sorts, .inl (cI, 7, .inl house_sorts)), (a_sets_weights, .inl (cI, 128, .inl u2.2.2.2.2)), (a_rain, .inr (4, [.ref a_house, .ref a_rain_spoons, .int rain_springs, .int rain_lost])), (a_rain_spoons, .inl (cI, 49, .inl rain_spoons))] H := ⟨hP, hD⟩
    obtain ⟨hP, hD⟩ := hPD
    have he := Option.some.inj hf
    subst he
    exact hret _ _ _ _ dX7_beside_36 rfl hP hD hS
  · have hf := if_t hf hc1
    refine lv_iconst (v := (-1)) hx hb dX7_beside_11 (by decide) ?_
    have he := Option.some.inj hf
    subst he
    exact hret _ _ _ _ dX7_beside_12 rfl hP hD hS
abbrev rmX7_odds : Room := { frames := 5, cells := 0, slots := 0, locals := 115 }
theorem hiX7_odds_0 : ∀ w ∈ wsX00, w ∈ wsX7_odds := fun w h => (goodIn_r (big := wsX7_odds) wsX00 [67, 68, 69] rfl (by decide +kernel) w h).1
theorem hiX7_odds_7 : ∀ w ∈ wsX70, w ∈ wsX7_odds := fun w h => (goodIn_r (big := wsX7_odds) wsX70 [57, 58, 59, 60, 61, 62, 63, 64, 65, 66] rfl (by decide +kernel) w h).1
theorem cw_X7_odds_X7_isWithin_72 {s : State} {args : Array Value} (hts : ∀ x ∈ wsX7_odds, x.before args s = true) : CallB rmX7_odds s args RX7 72 yX7_isWithin cX7_isWithin 3 (some .boolean) wsX7_isWithin rmX7_isWithin 0 0 3 ∧ (Cond.static yX7_isWithin).before args s = true := va_cwS 3 hts gX7_odds_X7_isWithin rfl rfl rfl (by decide +kernel) ⟨Nat.le_of_ble_eq_true rfl, Nat.le_of_ble_eq_true rfl⟩
theorem cw_X7_odds_X4_readable_142 {s : State} {args : Array Value} {D : va_G} {cI cZ cR : ClassId} (hE : EV D cI cZ cR s) (hts : ∀ x ∈ wsX7_odds, x.before args s = true) : va_CN rmX7_odds s args RX7 142 yX4_readable "RainShelves" cX4_readable 3 (some .int) wsX4_readable rmX4_readable 0 0 0 ∧ (Cond.instanceMethod yX4_readable).before args s = true ∧ (Cond.selects RX4 yX4_readable yX4_readable).before args s = true := ⟨va_cnB 0 hts gX7_odds_X4_readable_n142 rfl rfl rfl (hE.nm 22 rfl) (hts (.initialized RX4) (List.mem_of_getElem? (i := 8) rfl)) (by decide +kernel) ⟨Nat.le_of_ble_eq_true rfl, Nat.le_of_ble_eq_true rfl⟩, hts (.instanceMethod yX4_readable) (List.mem_of_getElem? (i := 7) rfl), hts (.selects RX4 yX4_readable yX4_readable) (List.mem_of_getElem? (i := 9) rfl)⟩
theorem cw_X7_odds_J6_bitCount_0f7a4_218 {s : State} {args : Array Value} (hts : ∀ x ∈ wsX7_odds, x.before args s = true) : CallB rmX7_odds s args RX7 218 yJ6_bitCount_0f7a4 cJ6_bitCount_0f7a4 1 (some .int) wsJ6_bitCount_0f7a4 rmJ6_bitCount_0f7a4 0 0 1 ∧ (Cond.static yJ6_bitCount_0f7a4).before args s = true := va_cwS 1 hts gX7_odds_J6_bitCount_0f7a4 rfl rfl rfl (by decide +kernel) ⟨Nat.le_of_ble_eq_true rfl, Nat.le_of_ble_eq_true rfl⟩
theorem cw_X7_odds_X0_reckon_223 {s : State} {args : Array Value} {D : va_G} {cI cZ cR : ClassId} (hE : EV D cI cZ cR s) (hts : ∀ x ∈ wsX7_odds, x.before args s = true) : va_CN rmX7_odds s args RX7 223 yX0_reckon "RainShelves" cX0_reckon 5 none wsX0_reckon rmX0_reckon 0 0 3 ∧ (Cond.instanceMethod yX0_reckon).before args s = true ∧ (Cond.selects RX0 yX0_reckon yX0_reckon).before args s = true := ⟨va_cnB 3 hts gX7_odds_X0_reckon_n223 rfl rfl rfl (hE.nm 39 rfl) (hts (.initialized RX0) (List.mem_of_getElem? (i := 40) rfl)) (by decide +kernel) ⟨Nat.le_of_ble_eq_true rfl, Nat.le_of_ble_eq_true rfl⟩, hts (.instanceMethod yX0_reckon) (List.mem_of_getElem? (i := 39) rfl), hts (.selects RX0 yX0_reckon yX0_reckon) (List.mem_of_getElem? (i := 41) rfl)⟩
set_option maxRecDepth 100000 in
set_option maxHeartbeats 4000000 in
theorem c_X7_odds (l : Launch) (D : va_G) (cI cZ cR : ClassId) (a_x : Nat) (a_rain : Nat) (a_house : Nat) (a_house_shrinks : Nat) (a_house_byAge : Nat) (a_rain_spoons : Nat) (a_frost : Nat) (a_frost_cases : Nat) (a_text : Nat) (a_hist : Nat) (a_img_arr : Nat) (a_kept : Nat) (a_told : Nat) (a_sets : Nat) (a_house_years : Nat) (a_house_spoons : Nat) (a_house_sorts : Nat) (x_traced : Int64) (rain_springs : Int32) (rain_lost : Int32) (house_pans : Int32) (house_least : Int32) (house_shelf : Int32) (house_shrinks : Nat → Int32) (house_byAge : Nat → Int32) (rain_spoons : Nat → Int32) (frost_upper : Int32) (frost_lower : Int32) (frost_cases : Nat → Int32) (v1 : Int32) (v2 : Int32) (v3 : Int32) (out : Int32 × Int32 × Int32 × (Nat → Int32)) (hf : f_X7_odds house_pans house_least house_shrinks house_byAge rain_spoons frost_upper frost_lower frost_cases v1 v2 v3 = some out) : Ci l yX7_odds wsX7_odds rmX7_odds D cI cZ cR [.ref a_x, .int v1, .int v2, .int v3] [(a_x, .inr (7, [.ref a_house, .ref a_text, .ref a_rain, .ref a_hist, .ref a_img_arr, .ref a_kept, .ref a_told, .ref a_sets, .ref a_frost, .long x_traced])), (a_rain, .inr (4, [.ref a_house, .ref a_rain_spoons, .int rain_springs, .int rain_lost])), (a_house, .inr (2, [.int house_pans, .int house_least, .int house_shelf, .ref a_house_years, .ref a_house_spoons, .ref a_house_shrinks, .ref a_house_sorts, .ref a_house_byAge])), (a_house_shrinks, .inl (cI, 7, .inl house_shrinks)), (a_house_byAge, .inl (cI, 7, .inl house_byAge)), (a_rain_spoons, .inl (cI, 49, .inl rain_spoons)), (a_frost, .inr (0, [.ref a_frost_cases, .int frost_upper, .int frost_lower])), (a_frost_cases, .inl (cI, 8, .inl frost_cases))] out.1 [(a_x, .inr (7, [.ref a_house, .ref a_text, .ref a_rain, .ref a_hist, .ref a_img_arr, .ref a_kept, .ref a_told, .ref a_sets, .ref a_frost, .long x_traced])), (a_rain, .inr (4, [.ref a_house, .ref a_rain_spoons, .int rain_springs, .int rain_lost])), (a_house, .inr (2, [.int house_pans, .int house_least, .int house_shelf, .ref a_house_years, .ref a_house_spoons, .ref a_house_shrinks, .ref a_house_sorts, .ref a_house_byAge])), (a_house_shrinks, .inl (cI, 7, .inl house_shrinks)), (a_house_byAge, .inl (cI, 7, .inl house_byAge)), (a_rain_spoons, .inl (cI, 49, .inl rain_spoons)), (a_frost, .inr (0, [.ref a_frost_cases, .int out.2.1, .int out.2.2.1])), (a_frost_cases, .inl (cI, 8, .inl out.2.2.2))] := by
  refine ent_i (cc := cX7_odds) (maxL := 4) .int (by decide) rfl (Nat.le_of_ble_eq_true rfl) ?_
  intro p e s m below meth c A Q hx hb hml hown hts hE hA hP hD hS hret ls hl
  have hown : s.vm.findClass RX7 = some m.cls := hown
  have hl : lv_has ls 4 [(0, .ref a_x), (1, .int v1), (2, .int v2), (3, .int v3)] := hl
  have fL28 := hts (.fieldLink RX7 28 "RainShelves" "rain" "LRainShelves$Rain;") (List.mem_of_getElem? (i := 2) rfl)
  have fL64 := hts (.fieldLink RX7 64 "RainShelves" "frost" "LRainShelves$Frost;") (List.mem_of_getElem? (i := 1) rfl)
  have fL227 : (Cond.fieldLinkNest RX7 227 "RainShelves$Frost" "upper" "I" "RainShelves").before ([.ref a_x, .int v1, .int v2, .int v3] : List Value).toArray s = true := hE.nf 26 rfl
  have fL230 : (Cond.fieldLinkNest RX7 230 "RainShelves$Frost" "lower" "I" "RainShelves").before ([.ref a_x, .int v1, .int v2, .int v3] : List Value).toArray s = true := hE.nf 27 rfl
  unfold f_X7_odds at hf
  refine lv_iload_n hx hb dX7_odds_0 rfl (lv_at hl 1 rfl) ?_
  refine lv_iconst (v := 0) hx hb dX7_odds_1 (by decide) ?_
  refine lv_bipush (v := 10) hx hb dX7_odds_2 (by decide) ?_
  obtain ⟨u1, hu1, hf⟩ := bd_some hf
  refine cl_iS (As := [.int v1, .int 0, .int 10]) (rest := []) ⟨hx, hb, hml, hown, hts⟩ (c_X7_isWithin l D cI cZ cR   v1 0 10 u1 hu1) (cw_X7_odds_X7_isWithin_72 hts) hE hP hD hS hA rfl hl.1 rfl (Nat.le_of_ble_eq_true rfl) dX7_odds_4 ⟨Nat.zero_le _, Nat.zero_le _⟩ (fun H locs hP hS => ?_)
  refine lv_if_eq (tgt := 29) hx hb dX7_odds_7 (by decide) (fun hc1 => ?_) (fun hc1 => ?_)
  · have hf := if_t hf hc1
    refine lv_iconst (v := (-1)) hx hb dX7_odds_29 (by decide) ?_
    have he := Option.some.inj hf
    subst he
    exact hret _ _ _ _ dX7_odds_30 rfl hP hD hS
  · have hf := if_f hf hc1
    refine lv_iload_n hx hb dX7_odds_10 rfl (lv_at hl 2 rfl) ?_
    refine lv_iconst (v := 0) hx hb dX7_odds_11 (by decide) ?_
    refine lv_bipush (v := 7) hx hb dX7_odds_12 (by decide) ?_
    obtain ⟨u2, hu2, hf⟩ := bd_some hf
    refine cl_iS (As := [.int v2, .int 0, .int 7]) (rest := []) ⟨hx, hb, hml, hown, hts⟩ (c_X7_isWithin l D cI cZ cR   v2 0 7 u2 hu2) (cw_X7_odds_X7_isWithin_72 hts) hE hP hD hS hA rfl hl.1 rfl (Nat.le_of_ble_eq_true rfl) dX7_odds_14 ⟨Nat.zero_le _, Nat.zero_le _⟩ (fun H locs hP hS => ?_)
    refine lv_if_eq (tgt := 29) hx hb dX7_odds_17 (by decide) (fun hc2 => ?_) (fun hc2 => ?_)
    · have hf := if_t hf hc2
      refine lv_iconst (v := (-1)) hx hb dX7_odds_29 (by decide) ?_
      have he := Option.some.inj hf
      subst he
      exact hret _ _ _ _ dX7_odds_30 rfl hP hD hS
    · have hf := if_f hf hc2
      refine lv_iload_n hx hb dX7_odds_20 rfl (lv_at hl 3 rfl) ?_
      refine lv_iconst (v := 0) hx hb dX7_odds_21 (by decide) ?_
      refine lv_iconst (v := 1) hx hb dX7_odds_22 (by decide) ?_
      obtain ⟨u3, hu3, hf⟩ := bd_some hf
      refine cl_iS (As := [.int v3, .int 0, .int 1]) (rest := []) ⟨hx, hb, hml, hown, hts⟩ (c_X7_isWithin l D cI cZ cR   v3 0 1 u3 hu3) (cw_X7_odds_X7_isWithin_72 hts) hE hP hD hS hA rfl hl.1 rfl (Nat.le_of_ble_eq_true rfl) dX7_odds_23 ⟨Nat.zero_le _, Nat.zero_le _⟩ (fun H locs hP hS => ?_)
      refine lv_if_ne (tgt := 31) hx hb dX7_odds_26 (by decide) (fun hc3 => ?_) (fun hc3 => ?_)
      · have hf := if_f hf hc3
        refine lv_aload_n hx hb dX7_odds_31 rfl (lv_at hl 0 rfl) ?_
        refine va_get (D := D) (ci := 7) (v := .ref a_frost) (C := RX7) (T := TX7) (N := 10) hx hb hts hiX7_odds_7 hown hE.1 hP 0 rfl rfl 8 (by decide) fL64 (fun _ h9 => h9) rfl dX7_odds_32 ?_
        refine lv_iload_n hx hb dX7_odds_35 rfl (lv_at hl 1 rfl) ?_
        refine lv_iload_n hx hb dX7_odds_36 rfl (lv_at hl 2 rfl) ?_
        refine lv_aload_n hx hb dX7_odds_37 rfl (lv_at hl 0 rfl) ?_
        refine va_get (D := D) (ci := 7) (v := .ref a_rain) (C := RX7) (T := TX7) (N := 10) hx hb hts hiX7_odds_7 hown hE.1 hP 0 rfl rfl 2 (by decide) fL28 (fun _ h9 => h9) rfl dX7_odds_38 ?_
        obtain ⟨u4, hu4, hf⟩ := bd_some hf
        refine cl_iN (As := []) (rest := [.int v2, .int v1, .ref a_frost]) ⟨hx, hb, hml, hown, hts⟩ (c_X4_readable l D cI cZ cR a_rain a_house a_house_shrinks a_house_byAge a_rain_spoons a_house_years a_house_spoons a_house_sorts rain_springs rain_lost house_pans house_least house_shelf house_shrinks house_byAge rain_spoons  u4 hu4) (cw_X7_odds_X4_readable_142 hE hts) hE hP hD hS hA [1, 2, 3, 4, 5] rfl rfl [a_rain, a_house, a_house_shrinks, a_house_byAge, a_rain_spoons] rfl rfl 1 4 rfl rfl rfl hl.1 rfl (Nat.le_of_ble_eq_true rfl) dX7_odds_41 ⟨Nat.zero_le _, Nat.zero_le _⟩ (fun H locs hP hD hS => ?_)
        have hPD : PD D A [(a_x, .inr (7, [.ref a_house, .ref a_text, .ref a_rain, .ref a_hist, .ref a_img_arr, .ref a_kept, .ref a_told, .ref a_sets, .ref a_frost, .long x_traced])), (a_rain, .inr (4, [.ref a_house, .ref a_rain_spoons, .int rain_springs, .int rain_lost])), (a_house, .inr (2, [.int house_pans, .int house_least, .int house_shelf, .ref a_house_years, .ref a_house_spoons, .ref a_house_shrinks, .ref a_house_sorts, .ref a_house_byAge])), (a_house_shrinks, .inl (cI, 7, .inl house_shrinks)), (a_house_byAge, .inl (cI, 7, .inl house_byAge)), (a_rain_spoons, .inl (cI, 49, .inl rain_spoons)), (a_frost, .inr (0, [.ref a_frost_cases, .int frost_upper, .int frost_lower])), (a_frost_cases, .inl (cI, 8, .inl frost_cases))] H := ⟨hP, hD⟩
        obtain ⟨hP, hD⟩ := hPD
        obtain ⟨u5, hu5, hf⟩ := bd_some hf
        refine cl_iS (As := [.int u4]) (rest := [.int v2, .int v1, .ref a_frost]) ⟨hx, hb, hml, hown, hts⟩ (c_J6_bitCount_0f7a4 l D cI cZ cR   u4 u5 hu5) (cw_X7_odds_J6_bitCount_0f7a4_218 hts) hE hP hD hS hA rfl hl.1 rfl (Nat.le_of_ble_eq_true rfl) dX7_odds_44 ⟨Nat.zero_le _, Nat.zero_le _⟩ (fun H locs hP hS => ?_)
        obtain ⟨u6, hu6, hf⟩ := bd_some hf
        refine cl_vN (As := [.int v1, .int v2, .int u5]) (rest := []) ⟨hx, hb, hml, hown, hts⟩ (c_X0_reckon l D cI cZ cR a_frost a_frost_cases frost_upper frost_lower frost_cases v1 v2 u5 u6 hu6) (cw_X7_odds_X0_reckon_223 hE hts) hE hP hD hS hA [6, 7] rfl rfl [a_frost, a_frost_cases] rfl rfl 6 0 rfl rfl rfl hl.1 rfl (Nat.le_of_ble_eq_true rfl) dX7_odds_47 ⟨Nat.zero_le _, Nat.zero_le _⟩ (fun H locs hP hD hS => ?_)
        have hPD : PD D A [(a_x, .inr (7, [.ref a_house, .ref a_text, .ref a_rain, .ref a_hist, .ref a_img_arr, .ref a_kept, .ref a_told, .ref a_sets, .ref a_frost, .long x_traced])), (a_rain, .inr (4, [.ref a_house, .ref a_rain_spoons, .int rain_springs, .int rain_lost])), (a_house, .inr (2, [.int house_pans, .int house_least, .int house_shelf, .ref a_house_years, .ref a_house_spoons, .ref a_house_shrinks, .ref a_house_sorts, .ref a_house_byAge])), (a_house_shrinks, .inl (cI, 7, .inl house_shrinks)), (a_house_byAge, .inl (cI, 7, .inl house_byAge)), (a_rain_spoons, .inl (cI, 49, .inl rain_spoons)), (a_frost, .inr (0, [.ref a_frost_cases, .int u6.1, .int u6.2.1])), (a_frost_cases, .inl (cI, 8, .inl u6.2.2))] H := ⟨hP, hD⟩
        obtain ⟨hP, hD⟩ := hPD
        refine lv_iload_n hx hb dX7_odds_50 rfl (lv_at hl 3 rfl) ?_
        refine lv_if_ne (tgt := 64) hx hb dX7_odds_51 (by decide) (fun hc4 => ?_) (fun hc4 => ?_)
        · have hf := if_f hf hc4
          refine lv_aload_n hx hb dX7_odds_64 rfl (lv_at hl 0 rfl) ?_
          refine va_get (D := D) (ci := 7) (v := .ref a_frost) (C := RX7) (T := TX7) (N := 10) hx hb hts hiX7_odds_7 hown hE.1 hP 0 rfl rfl 8 (by decide) fL64 (fun _ h9 => h9) rfl dX7_odds_65 ?_
          refine va_getN (D := D) (ci := 0) (v := .int u6.2.1) (C := RX0) (T := TX0) (N := 3) hx hb hts hiX7_odds_0 hown hE.1 hP 6 rfl rfl 2 (by decide) fL230 (fun _ h9 => h9) rfl dX7_odds_68 ?_
          have he := Option.some.inj hf
          subst he
          exact hret _ _ _ _ dX7_odds_71 rfl hP hD hS
        · have hf := if_t hf hc4
          refine lv_aload_n hx hb dX7_odds_54 rfl (lv_at hl 0 rfl) ?_
          refine va_get (D := D) (ci := 7) (v := .ref a_frost) (C := RX7) (T := TX7) (N := 10) hx hb hts hiX7_odds_7 hown hE.1 hP 0 rfl rfl 8 (by decide) fL64 (fun _ h9 => h9) rfl dX7_odds_55 ?_
          refine va_getN (D := D) (ci := 0) (v := .int u6.1) (C := RX0) (T := TX0) (N := 3) hx hb hts hiX7_odds_0 hown hE.1 hP 6 rfl rfl 1 (by decide) fL227 (fun _ h9 => h9) rfl dX7_odds_58 ?_
          refine lv_goto (tgt := 71) hx hb dX7_odds_61 (by decide) ?_
          have he := Option.some.inj hf
          subst he
          exact hret _ _ _ _ dX7_odds_71 rfl hP hD hS
      · have hf := if_t hf hc3
        refine lv_iconst (v := (-1)) hx hb dX7_odds_29 (by decide) ?_
        have he := Option.some.inj hf
        subst he
        exact hret _ _ _ _ dX7_odds_30 rfl hP hD hS
abbrev rmX7_rateOfPan : Room := { frames := 3, cells := 0, slots := 0, locals := 66 }
theorem hiX7_rateOfPan_7 : ∀ w ∈ wsX70, w ∈ wsX7_rateOfPan := fun w h => (goodIn_r (big := wsX7_rateOfPan) wsX70 [16, 17, 18, 19, 20, 21, 22, 23, 24, 25] rfl (by decide +kernel) w h).1
theorem cw_X7_rateOfPan_X4_inPan_116 {s : State} {args : Array Value} {D : va_G} {cI cZ cR : ClassId} (hE : EV D cI cZ cR s) (hts : ∀ x ∈ wsX7_rateOfPan, x.before args s = true) : va_CN rmX7_rateOfPan s args RX7 116 yX4_inPan "RainShelves" cX4_inPan 4 (some .int) wsX4_inPan rmX4_inPan 0 0 1 ∧ (Cond.instanceMethod yX4_inPan).before args s = true ∧ (Cond.selects RX4 yX4_inPan yX4_inPan).before args s = true := ⟨va_cnB 1 hts gX7_rateOfPan_X4_inPan_n116 rfl rfl rfl (hE.nm 16 rfl) (hts (.initialized RX4) (List.mem_of_getElem? (i := 4) rfl)) (by decide +kernel) ⟨Nat.le_of_ble_eq_true rfl, Nat.le_of_ble_eq_true rfl⟩, hts (.instanceMethod yX4_inPan) (List.mem_of_getElem? (i := 3) rfl), hts (.selects RX4 yX4_inPan yX4_inPan) (List.mem_of_getElem? (i := 5) rfl)⟩
set_option maxRecDepth 100000 in
set_option maxHeartbeats 4000000 in
theorem c_X7_rateOfPan (l : Launch) (D : va_G) (cI cZ cR : ClassId) (a_x : Nat) (a_rain : Nat) (a_house : Nat) (a_rain_spoons : Nat) (a_text : Nat) (a_hist : Nat) (a_img_arr : Nat) (a_kept : Nat) (a_told : Nat) (a_sets : Nat) (a_frost : Nat) (a_house_years : Nat) (a_house_spoons : Nat) (a_house_shrinks : Nat) (a_house_sorts : Nat) (a_house_byAge : Nat) (x_traced : Int64) (rain_springs : Int32) (rain_lost : Int32) (house_pans : Int32) (house_least : Int32) (house_shelf : Int32) (rain_spoons : Nat → Int32) (v1 : Int32) (out : Int32 × Int64) (hf : f_X7_rateOfPan x_traced house_pans rain_spoons v1 = some out) : Ci l yX7_rateOfPan wsX7_rateOfPan rmX7_rateOfPan D cI cZ cR [.ref a_x, .int v1] [(a_x, .inr (7, [.ref a_house, .ref a_text, .ref a_rain, .ref a_hist, .ref a_img_arr, .ref a_kept, .ref a_told, .ref a_sets, .ref a_frost, .long x_traced])), (a_rain, .inr (4, [.ref a_house, .ref a_rain_spoons, .int rain_springs, .int rain_lost])), (a_house, .inr (2, [.int house_pans, .int house_least, .int house_shelf, .ref a_house_years, .ref a_house_spoons, .ref a_house_shrinks, .ref a_house_sorts, .ref a_house_byAge])), (a_rain_spoons, .inl (cI, 49, .inl rain_spoons))] out.1 [(a_x, .inr (7, [.ref a_house, .ref a_text, .ref a_rain, .ref a_hist, .ref a_img_arr, .ref a_kept, .ref a_told, .ref a_sets, .ref a_frost, .long out.2])), (a_rain, .inr (4, [.ref a_house, .ref a_rain_spoons, .int rain_springs, .int rain_lost])), (a_house, .inr (2, [.int house_pans, .int house_least, .int house_shelf, .ref a_house_years, .ref a_house_spoons, .ref a_house_shrinks, .ref a_house_sorts, .ref a_house_byAge])), (a_rain_spoons, .inl (cI, 49, .inl rain_spoons))] := by
  refine ent_i (cc := cX7_rateOfPan) (maxL := 2) .int (by decide) rfl (Nat.le_of_ble_eq_true rfl) ?_
  intro p e s m below meth c A Q hx hb hml hown hts hE hA hP hD hS hret ls hl
  have hown : s.vm.findClass RX7 = some m.cls := hown
  have hl : lv_has ls 2 [(0, .ref a_x), (1, .int v1)] := hl
  have fL28 := hts (.fieldLink RX7 28 "RainShelves" "rain" "LRainShelves$Rain;") (List.mem_of_getElem? (i := 2) rfl)
  have fL68 := hts (.fieldLink RX7 68 "RainShelves" "traced" "J") (List.mem_of_getElem? (i := 1) rfl)
  unfold f_X7_rateOfPan at hf
  refine lv_aload_n hx hb dX7_rateOfPan_0 rfl (lv_at hl 0 rfl) ?_
  refine lv_dup hx hb dX7_rateOfPan_1 rfl ?_
  refine va_get (D := D) (ci := 7) (v := .long x_traced) (C := RX7) (T := TX7) (N := 10) hx hb hts hiX7_rateOfPan_7 hown hE.1 hP 0 rfl rfl 9 (by decide) fL68 (fun _ h9 => h9) rfl dX7_rateOfPan_2 ?_
  refine lv_lconst (v := 1) hx hb dX7_rateOfPan_5 (by decide) ?_
  refine lv_ladd hx hb dX7_rateOfPan_6 ?_
  refine va_put (D := D) (ci := 7) (v := .long (x_traced + 1)) (ty := .long) (C := RX7) (T := TX7) (N := 10) hx hb hts hiX7_rateOfPan_7 tyX7 tyX7_ok nmX7 hown hE.1 hP hD hS 0 rfl rfl 9 (by decide) fL68 (fun _ h9 => h9) rfl (tyX7_ok 9 (by decide)) rfl rfl (Nat.le_of_ble_eq_true rfl) dX7_rateOfPan_7 (fun H locs hP hD hS => ?_)
  have hPD : PD D A [(a_x, .inr (7, [.ref a_house, .ref a_text, .ref a_rain, .ref a_hist, .ref a_img_arr, .ref a_kept, .ref a_told, .ref a_sets, .ref a_frost, .long (x_traced + 1)])), (a_rain, .inr (4, [.ref a_house, .ref a_rain_spoons, .int rain_springs, .int rain_lost])), (a_house, .inr (2, [.int house_pans, .int house_least, .int house_shelf, .ref a_house_years, .ref a_house_spoons, .ref a_house_shrinks, .ref a_house_sorts, .ref a_house_byAge])), (a_rain_spoons, .inl (cI, 49, .inl rain_spoons))] H := ⟨hP, hD⟩
  obtain ⟨hP, hD⟩ := hPD
  refine lv_aload_n hx hb dX7_rateOfPan_10 rfl (lv_at hl 0 rfl) ?_
  refine va_get (D := D) (ci := 7) (v := .ref a_rain) (C := RX7) (T := TX7) (N := 10) hx hb hts hiX7_rateOfPan_7 hown hE.1 hP 0 rfl rfl 2 (by decide) fL28 (fun _ h9 => h9) rfl dX7_rateOfPan_11 ?_
  refine lv_iload_n hx hb dX7_rateOfPan_14 rfl (lv_at hl 1 rfl) ?_
  obtain ⟨u1, hu1, hf⟩ := bd_some hf
  refine cl_iN (As := [.int v1]) (rest := []) ⟨hx, hb, hml, hown, hts⟩ (c_X4_inPan l D cI cZ cR a_rain a_house a_rain_spoons a_house_years a_house_spoons a_house_shrinks a_house_sorts a_house_byAge rain_springs rain_lost house_pans house_least house_shelf rain_spoons v1 u1 hu1) (cw_X7_rateOfPan_X4_inPan_116 hE hts) hE hP hD hS hA [1, 2, 3] rfl rfl [a_rain, a_house, a_rain_spoons] rfl rfl 1 4 rfl rfl rfl hl.1 rfl (Nat.le_of_ble_eq_true rfl) dX7_rateOfPan_15 ⟨Nat.zero_le _, Nat.zero_le _⟩ (fun H locs hP hD hS => ?_)
  have hPD : PD D A [(a_x, .inr (7, [.ref a_house, .ref a_text, .ref a_rain, .ref a_hist, .ref a_img_arr, .ref a_kept, .ref a_told, .ref a_sets, .ref a_frost, .long (x_traced + 1)])), (a_rain, .inr (4, [.ref a_house, .ref a_rain_spoons, .int rain_springs, .int rain_lost])), (a_house, .inr (2, [.int house_pans, .int house_least, .int house_shelf, .ref a_house_years, .ref a_house_spoons, .ref a_house_shrinks, .ref a_house_sorts, .ref a_house_byAge])), (a_rain_spoons, .inl (cI, 49, .inl rain_spoons))] H := ⟨hP, hD⟩
  obtain ⟨hP, hD⟩ := hPD
  have he := Option.some.inj hf
  subst he
  exact hret _ _ _ _ dX7_rateOfPan_18 rfl hP hD hS
abbrev rmX7_rateOfUrn : Room := { frames := 4, cells := 0, slots := 0, locals := 87 }
theorem hiX7_rateOfUrn_4 : ∀ w ∈ wsX40, w ∈ wsX7_rateOfUrn := fun w h => (goodIn_r (big := wsX7_rateOfUrn) wsX40 [32, 33, 34, 35] rfl (by decide +kernel) w h).1
theorem hiX7_rateOfUrn_7 : ∀ w ∈ wsX70, w ∈ wsX7_rateOfUrn := fun w h => (goodIn_r (big := wsX7_rateOfUrn) wsX70 [22, 23, 24, 25, 26, 27, 28, 29, 30, 31] rfl (by decide +kernel) w h).1
theorem cw_X7_rateOfUrn_X7_rateOfPan_234 {s : State} {args : Array Value} (hts : ∀ x ∈ wsX7_rateOfUrn, x.before args s = true) : CallW rmX7_rateOfUrn s args RX7 RX7 234 yX7_rateOfPan cX7_rateOfPan 2 (some .int) wsX7_rateOfPan rmX7_rateOfPan 0 0 1 := cwV 1 hts gX7_rateOfUrn_X7_rateOfPan rfl rfl rfl (by decide +kernel) ⟨Nat.le_of_ble_eq_true rfl, Nat.le_of_ble_eq_true rfl⟩
set_option maxRecDepth 100000 in
set_option maxHeartbeats 4000000 in
theorem c_X7_rateOfUrn (l : Launch) (D : va_G) (cI cZ cR : ClassId) (a_x : Nat) (a_rain : Nat) (a_house : Nat) (a_rain_spoons : Nat) (a_text : Nat) (a_hist : Nat) (a_img_arr : Nat) (a_kept : Nat) (a_told : Nat) (a_sets : Nat) (a_frost : Nat) (a_house_years : Nat) (a_house_spoons : Nat) (a_house_shrinks : Nat) (a_house_sorts : Nat) (a_house_byAge : Nat) (x_traced : Int64) (rain_springs : Int32) (rain_lost : Int32) (house_pans : Int32) (house_least : Int32) (house_shelf : Int32) (rain_spoons : Nat → Int32) (v1 : Int32) (out : Int32 × Int64) (hf : f_X7_rateOfUrn x_traced rain_springs house_pans rain_spoons v1 = some out) : Ci l yX7_rateOfUrn wsX7_rateOfUrn rmX7_rateOfUrn D cI cZ cR [.ref a_x, .int v1] [(a_x, .inr (7, [.ref a_house, .ref a_text, .ref a_rain, .ref a_hist, .ref a_img_arr, .ref a_kept, .ref a_told, .ref a_sets, .ref a_frost, .long x_traced])), (a_rain, .inr (4, [.ref a_house, .ref a_rain_spoons, .int rain_springs, .int rain_lost])), (a_house, .inr (2, [.int house_pans, .int house_least, .int house_shelf, .ref a_house_years, .ref a_house_spoons, .ref a_house_shrinks, .ref a_house_sorts, .ref a_house_byAge])), (a_rain_spoons, .inl (cI, 49, .inl rain_spoons))] out.1 [(a_x, .inr (7, [.ref a_house, .ref a_text, .ref a_rain, .ref a_hist, .ref a_img_arr, .ref a_kept, .ref a_told, .ref a_sets, .ref a_frost, .long out.2])), (a_rain, .inr (4, [.ref a_house, .ref a_rain_spoons, .int rain_springs, .int rain_lost])), (a_house, .inr (2, [.int house_pans, .int house_least, .int house_shelf, .ref a_house_years, .ref a_house_spoons, .ref a_house_shrinks, .ref a_house_sorts, .ref a_house_byAge])), (a_rain_spoons, .inl (cI, 49, .inl rain_spoons))] := by
  refine ent_i (cc := cX7_rateOfUrn) (maxL := 2) .int (by decide) rfl (Nat.le_of_ble_eq_true rfl) ?_
  intro p e s m below meth c A Q hx hb hml hown hts hE hA hP hD hS hret ls hl
  have hown : s.vm.findClass RX7 = some m.cls := hown
  have hl : lv_has ls 2 [(0, .ref a_x), (1, .int v1)] := hl
  have fL28 := hts (.fieldLink RX7 28 "RainShelves" "rain" "LRainShelves$Rain;") (List.mem_of_getElem? (i := 3) rfl)
  have fL68 := hts (.fieldLink RX7 68 "RainShelves" "traced" "J") (List.mem_of_getElem? (i := 1) rfl)
  have fL133 : (Cond.fieldLinkNest RX7 133 "RainShelves$Rain" "springs" "I" "RainShelves").before ([.ref a_x, .int v1] : List Value).toArray s = true := hE.nf 19 rfl
  have cL260 := hts (.constantLong RX7 260 (100000)) (List.mem_of_getElem? (i := 2) rfl)
  unfold f_X7_rateOfUrn at hf
  refine lv_aload_n hx hb dX7_rateOfUrn_0 rfl (lv_at hl 0 rfl) ?_
  refine lv_dup hx hb dX7_rateOfUrn_1 rfl ?_
  refine va_get (D := D) (ci := 7) (v := .long x_traced) (C := RX7) (T := TX7) (N := 10) hx hb hts hiX7_rateOfUrn_7 hown hE.1 hP 0 rfl rfl 9 (by decide) fL68 (fun _ h9 => h9) rfl dX7_rateOfUrn_2 ?_
  refine lv_ldc2 (v := 100000) hx hb hown cL260 dX7_rateOfUrn_5 ?_
  refine lv_ladd hx hb dX7_rateOfUrn_8 ?_
  refine va_put (D := D) (ci := 7) (v := .long (x_traced + 100000)) (ty := .long) (C := RX7) (T := TX7) (N := 10) hx hb hts hiX7_rateOfUrn_7 tyX7 tyX7_ok nmX7 hown hE.1 hP hD hS 0 rfl rfl 9 (by decide) fL68 (fun _ h9 => h9) rfl (tyX7_ok 9 (by decide)) rfl rfl (Nat.le_of_ble_eq_true rfl) dX7_rateOfUrn_9 (fun H locs hP hD hS => ?_)
  have hPD : PD D A [(a_x, .inr (7, [.ref a_house, .ref a_text, .ref a_rain, .ref a_hist, .ref a_img_arr, .ref a_kept, .ref a_told, .ref a_sets, .ref a_frost, .long (x_traced + 100000)])), (a_rain, .inr (4, [.ref a_house, .ref a_rain_spoons, .int rain_springs, .int rain_lost])), (a_house, .inr (2, [.int house_pans, .int house_least, .int house_shelf, .ref a_house_years, .ref a_house_spoons, .ref a_house_shrinks, .ref a_house_sorts, .ref a_house_byAge])), (a_rain_spoons, .inl (cI, 49, .inl rain_spoons))] H := ⟨hP, hD⟩
  obtain ⟨hP, hD⟩ := hPD
  refine lv_aload_n hx hb dX7_rateOfUrn_12 rfl (lv_at hl 0 rfl) ?_
  refine lv_iload_n hx hb dX7_rateOfUrn_13 rfl (lv_at hl 1 rfl) ?_
  obtain ⟨u1, hu1, hf⟩ := bd_some hf
  refine cl_iV (As := [.int v1]) (rest := []) ⟨hx, hb, hml, hown, hts⟩ (c_X7_rateOfPan l D cI cZ cR a_x a_rain a_house a_rain_spoons a_text a_hist a_img_arr a_kept a_told a_sets a_frost a_house_years a_house_spoons a_house_shrinks a_house_sorts a_house_byAge (x_traced + 100000) rain_springs rain_lost house_pans house_least house_shelf rain_spoons v1 u1 hu1) (cw_X7_rateOfUrn_X7_rateOfPan_234 hts) hE hP hD hS hA [0, 1, 2, 3] rfl rfl [a_x, a_rain, a_house, a_rain_spoons] rfl rfl 0 7 rfl rfl rfl hl.1 rfl (Nat.le_of_ble_eq_true rfl) dX7_rateOfUrn_14 ⟨Nat.zero_le _, Nat.zero_le _⟩ (fun H locs hP hD hS => ?_)
  have hPD : PD D A [(a_x, .inr (7, [.ref a_house, .ref a_text, .ref a_rain, .ref a_hist, .ref a_img_arr, .ref a_kept, .ref a_told, .ref a_sets, .ref a_frost, .long u1.2])), (a_rain, .inr (4, [.ref a_house, .ref a_rain_spoons, .int rain_springs, .int rain_lost])), (a_house, .inr (2, [.int house_pans, .int house_least, .int house_shelf, .ref a_house_years, .ref a_house_spoons, .ref a_house_shrinks, .ref a_house_sorts, .ref a_house_byAge])), (a_rain_spoons, .inl (cI, 49, .inl rain_spoons))] H := ⟨hP, hD⟩
  obtain ⟨hP, hD⟩ := hPD
  refine lv_aload_n hx hb dX7_rateOfUrn_17 rfl (lv_at hl 0 rfl) ?_
  refine va_get (D := D) (ci := 7) (v := .ref a_rain) (C := RX7) (T := TX7) (N := 10) hx hb hts hiX7_rateOfUrn_7 hown hE.1 hP 0 rfl rfl 2 (by decide) fL28 (fun _ h9 => h9) rfl dX7_rateOfUrn_18 ?_
  refine va_getN (D := D) (ci := 4) (v := .int rain_springs) (C := RX4) (T := TX4) (N := 4) hx hb hts hiX7_rateOfUrn_4 hown hE.1 hP 1 rfl rfl 2 (by decide) fL133 (fun _ h9 => h9) rfl dX7_rateOfUrn_21 ?_
  refine lv_iadd hx hb dX7_rateOfUrn_24 ?_
  have he := Option.some.inj hf
  subst he
  exact hret _ _ _ _ dX7_rateOfUrn_25 rfl hP hD hS
abbrev rmX7_rateOfBottle : Room := { frames := 4, cells := 0, slots := 0, locals := 87 }
theorem hiX7_rateOfBottle_2 : ∀ w ∈ wsX20, w ∈ wsX7_rateOfBottle := fun w h => (goodIn_r (big := wsX7_rateOfBottle) wsX20 [33, 34, 35, 36, 37, 38, 39, 40] rfl (by decide +kernel) w h).1
theorem hiX7_rateOfBottle_7 : ∀ w ∈ wsX70, w ∈ wsX7_rateOfBottle := fun w h => (goodIn_r (big := wsX7_rateOfBottle) wsX70 [23, 24, 25, 26, 27, 28, 29, 30, 31, 32] rfl (by decide +kernel) w h).1
theorem cw_X7_rateOfBottle_X7_rateOfPan_234 {s : State} {args : Array Value} (hts : ∀ x ∈ wsX7_rateOfBottle, x.before args s = true) : CallW rmX7_rateOfBottle s args RX7 RX7 234 yX7_rateOfPan cX7_rateOfPan 2 (some .int) wsX7_rateOfPan rmX7_rateOfPan 0 0 1 := cwV 1 hts gX7_rateOfBottle_X7_rateOfPan rfl rfl rfl (by decide +kernel) ⟨Nat.le_of_ble_eq_true rfl, Nat.le_of_ble_eq_true rfl⟩
set_option maxRecDepth 100000 in
set_option maxHeartbeats 4000000 in
theorem c_X7_rateOfBottle (l : Launch) (D : va_G) (cI cZ cR : ClassId) (a_x : Nat) (a_rain : Nat) (a_house : Nat) (a_rain_spoons : Nat) (a_house_years : Nat) (a_text : Nat) (a_hist : Nat) (a_img_arr : Nat) (a_kept : Nat) (a_told : Nat) (a_sets : Nat) (a_frost : Nat) (a_house_spoons : Nat) (a_house_shrinks : Nat) (a_house_sorts : Nat) (a_house_byAge : Nat) (x_traced : Int64) (rain_springs : Int32) (rain_lost : Int32) (house_pans : Int32) (house_least : Int32) (house_shelf : Int32) (rain_spoons : Nat → Int32) (house_years : Nat → Int32) (v1 : Int32) (out : Int32 × Int64) (hf : f_X7_rateOfBottle x_traced house_pans rain_spoons house_years v1 = some out) : Ci l yX7_rateOfBottle wsX7_rateOfBottle rmX7_rateOfBottle D cI cZ cR [.ref a_x, .int v1] [(a_x, .inr (7, [.ref a_house, .ref a_text, .ref a_rain, .ref a_hist, .ref a_img_arr, .ref a_kept, .ref a_told, .ref a_sets, .ref a_frost, .long x_traced])), (a_rain, .inr (4, [.ref a_house, .ref a_rain_spoons, .int rain_springs, .int rain_lost])), (a_house, .inr (2, [.int house_pans, .int house_least, .int house_shelf, .ref a_house_years, .ref a_house_spoons, .ref a_house_shrinks, .ref a_house_sorts, .ref a_house_byAge])), (a_rain_spoons, .inl (cI, 49, .inl rain_spoons)), (a_house_years, .inl (cI, 7, .inl house_years))] out.1 [(a_x, .inr (7, [.ref a_house, .ref a_text, .ref a_rain, .ref a_hist, .ref a_img_arr, .ref a_kept, .ref a_told, .ref a_sets, .ref a_frost, .long out.2])), (a_rain, .inr (4, [.ref a_house, .ref a_rain_spoons, .int rain_springs, .int rain_lost])), (a_house, .inr (2, [.int house_pans, .int house_least, .int house_shelf, .ref a_house_years, .ref a_house_spoons, .ref a_house_shrinks, .ref a_house_sorts, .ref a_house_byAge])), (a_rain_spoons, .inl (cI, 49, .inl rain_spoons)), (a_house_years, .inl (cI, 7, .inl house_years))] := by
  refine ent_i (cc := cX7_rateOfBottle) (maxL := 2) .int (by decide) rfl (Nat.le_of_ble_eq_true rfl) ?_
  intro p e s m below meth c A Q hx hb hml hown hts hE hA hP hD hS hret ls hl
  have hown : s.vm.findClass RX7 = some m.cls := hown
  have hl : lv_has ls 2 [(0, .ref a_x), (1, .int v1)] := hl
  have fL10 := hts (.fieldLink RX7 10 "RainShelves" "house" "LRainShelves$House;") (List.mem_of_getElem? (i := 3) rfl)
  have fL68 := hts (.fieldLink RX7 68 "RainShelves" "traced" "J") (List.mem_of_getElem? (i := 1) rfl)
  have fL106 : (Cond.fieldLinkNest RX7 106 "RainShelves$House" "years" "[I" "RainShelves").before ([.ref a_x, .int v1] : List Value).toArray s = true := hE.nf 10 rfl
  have cL254 := hts (.constantLong RX7 254 (100)) (List.mem_of_getElem? (i := 2) rfl)
  unfold f_X7_rateOfBottle at hf
  refine lv_aload_n hx hb dX7_rateOfBottle_0 rfl (lv_at hl 0 rfl) ?_
  refine lv_dup hx hb dX7_rateOfBottle_1 rfl ?_
  refine va_get (D := D) (ci := 7) (v := .long x_traced) (C := RX7) (T := TX7) (N := 10) hx hb hts hiX7_rateOfBottle_7 hown hE.1 hP 0 rfl rfl 9 (by decide) fL68 (fun _ h9 => h9) rfl dX7_rateOfBottle_2 ?_
  refine lv_ldc2 (v := 100) hx hb hown cL254 dX7_rateOfBottle_5 ?_
  refine lv_ladd hx hb dX7_rateOfBottle_8 ?_
  refine va_put (D := D) (ci := 7) (v := .long (x_traced + 100)) (ty := .long) (C := RX7) (T := TX7) (N := 10) hx hb hts hiX7_rateOfBottle_7 tyX7 tyX7_ok nmX7 hown hE.1 hP hD hS 0 rfl rfl 9 (by decide) fL68 (fun _ h9 => h9) rfl (tyX7_ok 9 (by decide)) rfl rfl (Nat.le_of_ble_eq_true rfl) dX7_rateOfBottle_9 (fun H locs hP hD hS => ?_)
  have hPD : PD D A [(a_x, .inr (7, [.ref a_house, .ref a_text, .ref a_rain, .ref a_hist, .ref a_img_arr, .ref a_kept, .ref a_told, .ref a_sets, .ref a_frost, .long (x_traced + 100)])), (a_rain, .inr (4, [.ref a_house, .ref a_rain_spoons, .int rain_springs, .int rain_lost])), (a_house, .inr (2, [.int house_pans, .int house_least, .int house_shelf, .ref a_house_years, .ref a_house_spoons, .ref a_house_shrinks, .ref a_house_sorts, .ref a_house_byAge])), (a_rain_spoons, .inl (cI, 49, .inl rain_spoons)), (a_house_years, .inl (cI, 7, .inl house_years))] H := ⟨hP, hD⟩
  obtain ⟨hP, hD⟩ := hPD
  refine lv_aload_n hx hb dX7_rateOfBottle_12 rfl (lv_at hl 0 rfl) ?_
  refine lv_iload_n hx hb dX7_rateOfBottle_13 rfl (lv_at hl 1 rfl) ?_
  obtain ⟨u1, hu1, hf⟩ := bd_some hf
  refine cl_iV (As := [.int v1]) (rest := []) ⟨hx, hb, hml, hown, hts⟩ (c_X7_rateOfPan l D cI cZ cR a_x a_rain a_house a_rain_spoons a_text a_hist a_img_arr a_kept a_told a_sets a_frost a_house_years a_house_spoons a_house_shrinks a_house_sorts a_house_byAge (x_traced + 100) rain_springs rain_lost house_pans house_least house_shelf rain_spoons v1 u1 hu1) (cw_X7_rateOfBottle_X7_rateOfPan_234 hts) hE hP hD hS hA [0, 1, 2, 3] rfl rfl [a_x, a_rain, a_house, a_rain_spoons] rfl rfl 0 7 rfl rfl rfl hl.1 rfl (Nat.le_of_ble_eq_true rfl) dX7_rateOfBottle_14 ⟨Nat.zero_le _, Nat.zero_le _⟩ (fun H locs hP hD hS => ?_)
  have hPD : PD D A [(a_x, .inr (7, [.ref a_house, .ref a_text, .ref a_rain, .ref a_hist, .ref a_img_arr, .ref a_kept, .ref a_told, .ref a_sets, .ref a_frost, .long u1.2])), (a_rain, .inr (4, [.ref a_house, .ref a_rain_spoons, .int rain_springs, .int rain_lost])), (a_house, .inr (2, [.int house_pans, .int house_least, .int house_shelf, .ref a_house_years, .ref a_house_spoons, .ref a_house_shrinks, .ref a_house_sorts, .ref a_house_byAge])), (a_rain_spoons, .inl (cI, 49, .inl rain_spoons)), (a_house_years, .inl (cI, 7, .inl house_years))] H := ⟨hP, hD⟩
  obtain ⟨hP, hD⟩ := hPD
  refine lv_aload_n hx hb dX7_rateOfBottle_17 rfl (lv_at hl 0 rfl) ?_
  refine va_get (D := D) (ci := 7) (v := .ref a_house) (C := RX7) (T := TX7) (N := 10) hx hb hts hiX7_rateOfBottle_7 hown hE.1 hP 0 rfl rfl 0 (by decide) fL10 (fun _ h9 => h9) rfl dX7_rateOfBottle_18 ?_
  refine va_getN (D := D) (ci := 2) (v := .ref a_house_years) (C := RX2) (T := TX2) (N := 8) hx hb hts hiX7_rateOfBottle_2 hown hE.1 hP 2 rfl rfl 3 (by decide) fL106 (fun _ h9 => h9) rfl dX7_rateOfBottle_21 ?_
  refine lv_iload_n hx hb dX7_rateOfBottle_24 rfl (lv_at hl 1 rfl) ?_
  obtain ⟨hc1, hf⟩ := ck_some hf
  refine va_iald hx hb hE.1 hP 4 0 rfl rfl (ix_in hc1) dX7_rateOfBottle_25 ?_
  refine lv_isub hx hb dX7_rateOfBottle_26 ?_
  have he := Option.some.inj hf
  subst he
  exact hret _ _ _ _ dX7_rateOfBottle_27 rfl hP hD hS
abbrev rmX7_rateOfPhial : Room := { frames := 5, cells := 0, slots := 0, locals := 108 }
theorem hiX7_rateOfPhial_7 : ∀ w ∈ wsX70, w ∈ wsX7_rateOfPhial := fun w h => (goodIn_r (big := wsX7_rateOfPhial) wsX70 [28, 29, 30, 31, 32, 33, 34, 35, 36, 37] rfl (by decide +kernel) w h).1
theorem cw_X7_rateOfPhial_X7_rateOfBottle_240 {s : State} {args : Array Value} (hts : ∀ x ∈ wsX7_rateOfPhial, x.before args s = true) : CallW rmX7_rateOfPhial s args RX7 RX7 240 yX7_rateOfBottle cX7_rateOfBottle 2 (some .int) wsX7_rateOfBottle rmX7_rateOfBottle 0 0 1 := cwV 1 hts gX7_rateOfPhial_X7_rateOfBottle rfl rfl rfl (by decide +kernel) ⟨Nat.le_of_ble_eq_true rfl, Nat.le_of_ble_eq_true rfl⟩
set_option maxRecDepth 100000 in
set_option maxHeartbeats 4000000 in
theorem c_X7_rateOfPhial (l : Launch) (D : va_G) (cI cZ cR : ClassId) (a_x : Nat) (a_rain : Nat) (a_house : Nat) (a_rain_spoons : Nat) (a_house_years : Nat) (a_text : Nat) (a_hist : Nat) (a_img_arr : Nat) (a_kept : Nat) (a_told : Nat) (a_sets : Nat) (a_frost : Nat) (a_house_spoons : Nat) (a_house_shrinks : Nat) (a_house_sorts : Nat) (a_house_byAge : Nat) (x_traced : Int64) (rain_springs : Int32) (rain_lost : Int32) (house_pans : Int32) (house_least : Int32) (house_shelf : Int32) (rain_spoons : Nat → Int32) (house_years : Nat → Int32) (v1 : Int32) (out : Int32 × Int64) (hf : f_X7_rateOfPhial x_traced house_pans rain_spoons house_years v1 = some out) : Ci l yX7_rateOfPhial wsX7_rateOfPhial rmX7_rateOfPhial D cI cZ cR [.ref a_x, .int v1] [(a_x, .inr (7, [.ref a_house, .ref a_text, .ref a_rain, .ref a_hist, .ref a_img_arr, .ref a_kept, .ref a_told, .ref a_sets, .ref a_frost, .long x_traced])), (a_rain, .inr (4, [.ref a_house, .ref a_rain_spoons, .int rain_springs, .int rain_lost])), (a_house, .inr (2, [.int house_pans, .int house_least, .int house_shelf, .ref a_house_years, .ref a_house_spoons, .ref a_house_shrinks, .ref a_house_sorts, .ref a_house_byAge])), (a_rain_spoons, .inl (cI, 49, .inl rain_spoons)), (a_house_years, .inl (cI, 7, .inl house_years))] out.1 [(a_x, .inr (7, [.ref a_house, .ref a_text, .ref a_rain, .ref a_hist, .ref a_img_arr, .ref a_kept, .ref a_told, .ref a_sets, .ref a_frost, .long out.2])), (a_rain, .inr (4, [.ref a_house, .ref a_rain_spoons, .int rain_springs, .int rain_lost])), (a_house, .inr (2, [.int house_pans, .int house_least, .int house_shelf, .ref a_house_years, .ref a_house_spoons, .ref a_house_shrinks, .ref a_house_sorts, .ref a_house_byAge])), (a_rain_spoons, .inl (cI, 49, .inl rain_spoons)), (a_house_years, .inl (cI, 7, .inl house_years))] := by
  refine ent_i (cc := cX7_rateOfPhial) (maxL := 2) .int (by decide) rfl (Nat.le_of_ble_eq_true rfl) ?_
  intro p e s m below meth c A Q hx hb hml hown hts hE hA hP hD hS hret ls hl
  have hown : s.vm.findClass RX7 = some m.cls := hown
  have hl : lv_has ls 2 [(0, .ref a_x), (1, .int v1)] := hl
  have fL68 := hts (.fieldLink RX7 68 "RainShelves" "traced" "J") (List.mem_of_getElem? (i := 1) rfl)
  have cL258 := hts (.constantLong RX7 258 (10000)) (List.mem_of_getElem? (i := 2) rfl)
  unfold f_X7_rateOfPhial at hf
  refine lv_aload_n hx hb dX7_rateOfPhial_0 rfl (lv_at hl 0 rfl) ?_
  refine lv_dup hx hb dX7_rateOfPhial_1 rfl ?_
  refine va_get (D := D) (ci := 7) (v := .long x_traced) (C := RX7) (T := TX7) (N := 10) hx hb hts hiX7_rateOfPhial_7 hown hE.1 hP 0 rfl rfl 9 (by decide) fL68 (fun _ h9 => h9) rfl dX7_rateOfPhial_2 ?_
  refine lv_ldc2 (v := 10000) hx hb hown cL258 dX7_rateOfPhial_5 ?_
  refine lv_ladd hx hb dX7_rateOfPhial_8 ?_
  refine va_put (D := D) (ci := 7) (v := .long (x_traced + 10000)) (ty := .long) (C := RX7) (T := TX7) (N := 10) hx hb hts hiX7_rateOfPhial_7 tyX7 tyX7_ok nmX7 hown hE.1 hP hD hS 0 rfl rfl 9 (by decide) fL68 (fun _ h9 => h9) rfl (tyX7_ok 9 (by decide)) rfl rfl (Nat.le_of_ble_eq_true rfl) dX7_rateOfPhial_9 (fun H locs hP hD hS => ?_)
  have hPD : PD D A [(a_x, .inr (7, [.ref a_house, .ref a_text, .ref a_rain, .ref a_hist, .ref a_img_arr, .ref a_kept, .ref a_told, .ref a_sets, .ref a_frost, .long (x_traced + 10000)])), (a_rain, .inr (4, [.ref a_house, .ref a_rain_spoons, .int rain_springs, .int rain_lost])), (a_house, .inr (2, [.int house_pans, .int house_least, .int house_shelf, .ref a_house_years, .ref a_house_spoons, .ref a_house_shrinks, .ref a_house_sorts, .ref a_house_byAge])), (a_rain_spoons, .inl (cI, 49, .inl rain_spoons)), (a_house_years, .inl (cI, 7, .inl house_years))] H := ⟨hP, hD⟩
  obtain ⟨hP, hD⟩ := hPD
  refine lv_aload_n hx hb dX7_rateOfPhial_12 rfl (lv_at hl 0 rfl) ?_
  refine lv_iload_n hx hb dX7_rateOfPhial_13 rfl (lv_at hl 1 rfl) ?_
  obtain ⟨u1, hu1, hf⟩ := bd_some hf
  refine cl_iV (As := [.int v1]) (rest := []) ⟨hx, hb, hml, hown, hts⟩ (c_X7_rateOfBottle l D cI cZ cR a_x a_rain a_house a_rain_spoons a_house_years a_text a_hist a_img_arr a_kept a_told a_sets a_frost a_house_spoons a_house_shrinks a_house_sorts a_house_byAge (x_traced + 10000) rain_springs rain_lost house_pans house_least house_shelf rain_spoons house_years v1 u1 hu1) (cw_X7_rateOfPhial_X7_rateOfBottle_240 hts) hE hP hD hS hA [0, 1, 2, 3, 4] rfl rfl [a_x, a_rain, a_house, a_rain_spoons, a_house_years] rfl rfl 0 7 rfl rfl rfl hl.1 rfl (Nat.le_of_ble_eq_true rfl) dX7_rateOfPhial_14 ⟨Nat.zero_le _, Nat.zero_le _⟩ (fun H locs hP hD hS => ?_)
  have hPD : PD D A [(a_x, .inr (7, [.ref a_house, .ref a_text, .ref a_rain, .ref a_hist, .ref a_img_arr, .ref a_kept, .ref a_told, .ref a_sets, .ref a_frost, .long u1.2])), (a_rain, .inr (4, [.ref a_house, .ref a_rain_spoons, .int rain_springs, .int rain_lost])), (a_house, .inr (2, [.int house_pans, .int house_least, .int house_shelf, .ref a_house_years, .ref a_house_spoons, .ref a_house_shrinks, .ref a_house_sorts, .ref a_house_byAge])), (a_rain_spoons, .inl (cI, 49, .inl rain_spoons)), (a_house_years, .inl (cI, 7, .inl house_years))] H := ⟨hP, hD⟩
  obtain ⟨hP, hD⟩ := hPD
  refine lv_iload_n hx hb dX7_rateOfPhial_17 rfl (lv_at hl 1 rfl) ?_
  refine lv_iadd hx hb dX7_rateOfPhial_18 ?_
  have he := Option.some.inj hf
  subst he
  exact hret _ _ _ _ dX7_rateOfPhial_19 rfl hP hD hS
abbrev rmX7_rateOfSaucer : Room := { frames := 4, cells := 0, slots := 0, locals := 87 }
theorem hiX7_rateOfSaucer_2 : ∀ w ∈ wsX20, w ∈ wsX7_rateOfSaucer := fun w h => (goodIn_r (big := wsX7_rateOfSaucer) wsX20 [33, 34, 35, 36, 37, 38, 39, 40] rfl (by decide +kernel) w h).1
theorem hiX7_rateOfSaucer_7 : ∀ w ∈ wsX70, w ∈ wsX7_rateOfSaucer := fun w h => (goodIn_r (big := wsX7_rateOfSaucer) wsX70 [23, 24, 25, 26, 27, 28, 29, 30, 31, 32] rfl (by decide +kernel) w h).1
theorem cw_X7_rateOfSaucer_X7_rateOfPan_234 {s : State} {args : Array Value} (hts : ∀ x ∈ wsX7_rateOfSaucer, x.before args s = true) : CallW rmX7_rateOfSaucer s args RX7 RX7 234 yX7_rateOfPan cX7_rateOfPan 2 (some .int) wsX7_rateOfPan rmX7_rateOfPan 0 0 1 := cwV 1 hts gX7_rateOfSaucer_X7_rateOfPan rfl rfl rfl (by decide +kernel) ⟨Nat.le_of_ble_eq_true rfl, Nat.le_of_ble_eq_true rfl⟩
set_option maxRecDepth 100000 in
set_option maxHeartbeats 4000000 in
theorem c_X7_rateOfSaucer (l : Launch) (D : va_G) (cI cZ cR : ClassId) (a_x : Nat) (a_rain : Nat) (a_house : Nat) (a_rain_spoons : Nat) (a_house_shrinks : Nat) (a_text : Nat) (a_hist : Nat) (a_img_arr : Nat) (a_kept : Nat) (a_told : Nat) (a_sets : Nat) (a_frost : Nat) (a_house_years : Nat) (a_house_spoons : Nat) (a_house_sorts : Nat) (a_house_byAge : Nat) (x_traced : Int64) (rain_springs : Int32) (rain_lost : Int32) (house_pans : Int32) (house_least : Int32) (house_shelf : Int32) (rain_spoons : Nat → Int32) (house_shrinks : Nat → Int32) (v1 : Int32) (out : Int32 × Int64) (hf : f_X7_rateOfSaucer x_traced house_pans rain_spoons house_shrinks v1 = some out) : Ci l yX7_rateOfSaucer wsX7_rateOfSaucer rmX7_rateOfSaucer D cI cZ cR [.ref a_x, .int v1] [(a_x, .inr (7, [.ref a_house, .ref a_text, .ref a_rain, .ref a_hist, .ref a_img_arr, .ref a_kept, .ref a_told, .ref a_sets, .ref a_frost, .long x_traced])), (a_rain, .inr (4, [.ref a_house, .ref a_rain_spoons, .int rain_springs, .int rain_lost])), (a_house, .inr (2, [.int house_pans, .int house_least, .int house_shelf, .ref a_house_years, .ref a_house_spoons, .ref a_house_shrinks, .ref a_house_sorts, .ref a_house_byAge])), (a_rain_spoons, .inl (cI, 49, .inl rain_spoons)), (a_house_shrinks, .inl (cI, 7, .inl house_shrinks))] out.1 [(a_x, .inr (7, [.ref a_house, .ref a_text, .ref a_rain, .ref a_hist, .ref a_img_arr, .ref a_kept, .ref a_told, .ref a_sets, .ref a_frost, .long out.2])), (a_rain, .inr (4, [.ref a_house, .ref a_rain_spoons, .int rain_springs, .int rain_lost])), (a_house, .inr (2, [.int house_pans, .int house_least, .int house_shelf, .ref a_house_years, .ref a_house_spoons, .ref a_house_shrinks, .ref a_house_sorts, .ref a_house_byAge])), (a_rain_spoons, .inl (cI, 49, .inl rain_spoons)), (a_house_shrinks, .inl (cI, 7, .inl house_shrinks))] := by
  refine ent_i (cc := cX7_rateOfSaucer) (maxL := 2) .int (by decide) rfl (Nat.le_of_ble_eq_true rfl) ?_
  intro p e s m below meth c A Q hx hb hml hown hts hE hA hP hD hS hret ls hl
  have hown : s.vm.findClass RX7 = some m.cls := hown
  have hl : lv_has ls 2 [(0, .ref a_x), (1, .int v1)] := hl
  have fL10 := hts (.fieldLink RX7 10 "RainShelves" "house" "LRainShelves$House;") (List.mem_of_getElem? (i := 3) rfl)
  have fL68 := hts (.fieldLink RX7 68 "RainShelves" "traced" "J") (List.mem_of_getElem? (i := 1) rfl)
  have fL110 : (Cond.fieldLinkNest RX7 110 "RainShelves$House" "shrinks" "[I" "RainShelves").before ([.ref a_x, .int v1] : List Value).toArray s = true := hE.nf 13 rfl
  have cL252 := hts (.constantLong RX7 252 (10)) (List.mem_of_getElem? (i := 2) rfl)
  unfold f_X7_rateOfSaucer at hf
  refine lv_aload_n hx hb dX7_rateOfSaucer_0 rfl (lv_at hl 0 rfl) ?_
  refine lv_dup hx hb dX7_rateOfSaucer_1 rfl ?_
  refine va_get (D := D) (ci := 7) (v := .long x_traced) (C := RX7) (T := TX7) (N := 10) hx hb hts hiX7_rateOfSaucer_7 hown hE.1 hP 0 rfl rfl 9 (by decide) fL68 (fun _ h9 => h9) rfl dX7_rateOfSaucer_2 ?_
  refine lv_ldc2 (v := 10) hx hb hown cL252 dX7_rateOfSaucer_5 ?_
  refine lv_ladd hx hb dX7_rateOfSaucer_8 ?_
  refine va_put (D := D) (ci := 7) (v := .long (x_traced + 10)) (ty := .long) (C := RX7) (T := TX7) (N := 10) hx hb hts hiX7_rateOfSaucer_7 tyX7 tyX7_ok nmX7 hown hE.1 hP hD hS 0 rfl rfl 9 (by decide) fL68 (fun _ h9 => h9) rfl (tyX7_ok 9 (by decide)) rfl rfl (Nat.le_of_ble_eq_true rfl) dX7_rateOfSaucer_9 (fun H locs hP hD hS => ?_)
  have hPD : PD D A [(a_x, .inr (7, [.ref a_house, .ref a_text, .ref a_rain, .ref a_hist, .ref a_img_arr, .ref a_kept, .ref a_told, .ref a_sets, .ref a_frost, .long (x_traced + 10)])), (a_rain, .inr (4, [.ref a_house, .ref a_rain_spoons, .int rain_springs, .int rain_lost])), (a_house, .inr (2, [.int house_pans, .int house_least, .int house_shelf, .ref a_house_years, .ref a_house_spoons, .ref a_house_shrinks, .ref a_house_sorts, .ref a_house_byAge])), (a_rain_spoons, .inl (cI, 49, .inl rain_spoons)), (a_house_shrinks, .inl (cI, 7, .inl house_shrinks))] H := ⟨hP, hD⟩
  obtain ⟨hP, hD⟩ := hPD
  refine lv_aload_n hx hb dX7_rateOfSaucer_12 rfl (lv_at hl 0 rfl) ?_
  refine lv_iload_n hx hb dX7_rateOfSaucer_13 rfl (lv_at hl 1 rfl) ?_
  obtain ⟨u1, hu1, hf⟩ := bd_some hf
  refine cl_iV (As := [.int v1]) (rest := []) ⟨hx, hb, hml, hown, hts⟩ (c_X7_rateOfPan l D cI cZ cR a_x a_rain a_house a_rain_spoons a_text a_hist a_img_arr a_kept a_told a_sets a_frost a_house_years a_house_spoons a_house_shrinks a_house_sorts a_house_byAge (x_traced + 10) rain_springs rain_lost house_pans house_least house_shelf rain_spoons v1 u1 hu1) (cw_X7_rateOfSaucer_X7_rateOfPan_234 hts) hE hP hD hS hA [0, 1, 2, 3] rfl rfl [a_x, a_rain, a_house, a_rain_spoons] rfl rfl 0 7 rfl rfl rfl hl.1 rfl (Nat.le_of_ble_eq_true rfl) dX7_rateOfSaucer_14 ⟨Nat.zero_le _, Nat.zero_le _⟩ (fun H locs hP hD hS => ?_)
  have hPD : PD D A [(a_x, .inr (7, [.ref a_house, .ref a_text, .ref a_rain, .ref a_hist, .ref a_img_arr, .ref a_kept, .ref a_told, .ref a_sets, .ref a_frost, .long u1.2])), (a_rain, .inr (4, [.ref a_house, .ref a_rain_spoons, .int rain_springs, .int rain_lost])), (a_house, .inr (2, [.int house_pans, .int house_least, .int house_shelf, .ref a_house_years, .ref a_house_spoons, .ref a_house_shrinks, .ref a_house_sorts, .ref a_house_byAge])), (a_rain_spoons, .inl (cI, 49, .inl rain_spoons)), (a_house_shrinks, .inl (cI, 7, .inl house_shrinks))] H := ⟨hP, hD⟩
  obtain ⟨hP, hD⟩ := hPD
  refine lv_aload_n hx hb dX7_rateOfSaucer_17 rfl (lv_at hl 0 rfl) ?_
  refine va_get (D := D) (ci := 7) (v := .ref a_house) (C := RX7) (T := TX7) (N := 10) hx hb hts hiX7_rateOfSaucer_7 hown hE.1 hP 0 rfl rfl 0 (by decide) fL10 (fun _ h9 => h9) rfl dX7_rateOfSaucer_18 ?_
  refine va_getN (D := D) (ci := 2) (v := .ref a_house_shrinks) (C := RX2) (T := TX2) (N := 8) hx hb hts hiX7_rateOfSaucer_2 hown hE.1 hP 2 rfl rfl 5 (by decide) fL110 (fun _ h9 => h9) rfl dX7_rateOfSaucer_21 ?_
  refine lv_iload_n hx hb dX7_rateOfSaucer_24 rfl (lv_at hl 1 rfl) ?_
  obtain ⟨hc1, hf⟩ := ck_some hf
  refine va_iald hx hb hE.1 hP 4 0 rfl rfl (ix_in hc1) dX7_rateOfSaucer_25 ?_
  refine lv_iadd hx hb dX7_rateOfSaucer_26 ?_
  have he := Option.some.inj hf
  subst he
  exact hret _ _ _ _ dX7_rateOfSaucer_27 rfl hP hD hS
abbrev rmX7_rateOfFont : Room := { frames := 5, cells := 0, slots := 0, locals := 108 }
theorem hiX7_rateOfFont_7 : ∀ w ∈ wsX70, w ∈ wsX7_rateOfFont := fun w h => (goodIn_r (big := wsX7_rateOfFont) wsX70 [28, 29, 30, 31, 32, 33, 34, 35, 36, 37] rfl (by decide +kernel) w h).1
theorem cw_X7_rateOfFont_X7_rateOfSaucer_237 {s : State} {args : Array Value} (hts : ∀ x ∈ wsX7_rateOfFont, x.before args s = true) : CallW rmX7_rateOfFont s args RX7 RX7 237 yX7_rateOfSaucer cX7_rateOfSaucer 2 (some .int) wsX7_rateOfSaucer rmX7_rateOfSaucer 0 0 1 := cwV 1 hts gX7_rateOfFont_X7_rateOfSaucer rfl rfl rfl (by decide +kernel) ⟨Nat.le_of_ble_eq_true rfl, Nat.le_of_ble_eq_true rfl⟩
set_option maxRecDepth 100000 in
set_option maxHeartbeats 4000000 in
theorem c_X7_rateOfFont (l : Launch) (D : va_G) (cI cZ cR : ClassId) (a_x : Nat) (a_rain : Nat) (a_house : Nat) (a_rain_spoons : Nat) (a_house_shrinks : Nat) (a_text : Nat) (a_hist : Nat) (a_img_arr : Nat) (a_kept : Nat) (a_told : Nat) (a_sets : Nat) (a_frost : Nat) (a_house_years : Nat) (a_house_spoons : Nat) (a_house_sorts : Nat) (a_house_byAge : Nat) (x_traced : Int64) (rain_springs : Int32) (rain_lost : Int32) (house_pans : Int32) (house_least : Int32) (house_shelf : Int32) (rain_spoons : Nat → Int32) (house_shrinks : Nat → Int32) (v1 : Int32) (out : Int32 × Int64) (hf : f_X7_rateOfFont x_traced house_pans rain_spoons house_shrinks v1 = some out) : Ci l yX7_rateOfFont wsX7_rateOfFont rmX7_rateOfFont D cI cZ cR [.ref a_x, .int v1] [(a_x, .inr (7, [.ref a_house, .ref a_text, .ref a_rain, .ref a_hist, .ref a_img_arr, .ref a_kept, .ref a_told, .ref a_sets, .ref a_frost, .long x_traced])), (a_rain, .inr (4, [.ref a_house, .ref a_rain_spoons, .int rain_springs, .int rain_lost])), (a_house, .inr (2, [.int house_pans, .int house_least, .int house_shelf, .ref a_house_years, .ref a_house_spoons, .ref a_house_shrinks, .ref a_house_sorts, .ref a_house_byAge])), (a_rain_spoons, .inl (cI, 49, .inl rain_spoons)), (a_house_shrinks, .inl (cI, 7, .inl house_shrinks))] out.1 [(a_x, .inr (7, [.ref a_house, .ref a_text, .ref a_rain, .ref a_hist, .ref a_img_arr, .ref a_kept, .ref a_told, .ref a_sets, .ref a_frost, .long out.2])), (a_rain, .inr (4, [.ref a_house, .ref a_rain_spoons, .int rain_springs, .int rain_lost])), (a_house, .inr (2, [.int house_pans, .int house_least, .int house_shelf, .ref a_house_years, .ref a_house_spoons, .ref a_house_shrinks, .ref a_house_sorts, .ref a_house_byAge])), (a_rain_spoons, .inl (cI, 49, .inl rain_spoons)), (a_house_shrinks, .inl (cI, 7, .inl house_shrinks))] := by
  refine ent_i (cc := cX7_rateOfFont) (maxL := 2) .int (by decide) rfl (Nat.le_of_ble_eq_true rfl) ?_
  intro p e s m below meth c A Q hx hb hml hown hts hE hA hP hD hS hret ls hl
  have hown : s.vm.findClass RX7 = some m.cls := hown
  have hl : lv_has ls 2 [(0, .ref a_x), (1, .int v1)] := hl
  have fL68 := hts (.fieldLink RX7 68 "RainShelves" "traced" "J") (List.mem_of_getElem? (i := 1) rfl)
  have cL256 := hts (.constantLong RX7 256 (1000)) (List.mem_of_getElem? (i := 2) rfl)
  unfold f_X7_rateOfFont at hf
  refine lv_aload_n hx hb dX7_rateOfFont_0 rfl (lv_at hl 0 rfl) ?_
  refine lv_dup hx hb dX7_rateOfFont_1 rfl ?_
  refine va_get (D := D) (ci := 7) (v := .long x_traced) (C := RX7) (T := TX7) (N := 10) hx hb hts hiX7_rateOfFont_7 hown hE.1 hP 0 rfl rfl 9 (by decide) fL68 (fun _ h9 => h9) rfl dX7_rateOfFont_2 ?_
  refine lv_ldc2 (v := 1000) hx hb hown cL256 dX7_rateOfFont_5 ?_
  refine lv_ladd hx hb dX7_rateOfFont_8 ?_
  refine va_put (D := D) (ci := 7) (v := .long (x_traced + 1000)) (ty := .long) (C := RX7) (T := TX7) (N := 10) hx hb hts hiX7_rateOfFont_7 tyX7 tyX7_ok nmX7 hown hE.1 hP hD hS 0 rfl rfl 9 (by decide) fL68 (fun _ h9 => h9) rfl (tyX7_ok 9 (by decide)) rfl rfl (Nat.le_of_ble_eq_true rfl) dX7_rateOfFont_9 (fun H locs hP hD hS => ?_)
  have hPD : PD D A [(a_x, .inr (7, [.ref a_house, .ref a_text, .ref a_rain, .ref a_hist, .ref a_img_arr, .ref a_kept, .ref a_told, .ref a_sets, .ref a_frost, .long (x_traced + 1000)])), (a_rain, .inr (4, [.ref a_house, .ref a_rain_spoons, .int rain_springs, .int rain_lost])), (a_house, .inr (2, [.int house_pans, .int house_least, .int house_shelf, .ref a_house_years, .ref a_house_spoons, .ref a_house_shrinks, .ref a_house_sorts, .ref a_house_byAge])), (a_rain_spoons, .inl (cI, 49, .inl rain_spoons)), (a_house_shrinks, .inl (cI, 7, .inl house_shrinks))] H := ⟨hP, hD⟩
  obtain ⟨hP, hD⟩ := hPD
  refine lv_iconst (v := 2) hx hb dX7_rateOfFont_12 (by decide) ?_
  refine lv_aload_n hx hb dX7_rateOfFont_13 rfl (lv_at hl 0 rfl) ?_
  refine lv_iload_n hx hb dX7_rateOfFont_14 rfl (lv_at hl 1 rfl) ?_
  obtain ⟨u1, hu1, hf⟩ := bd_some hf
  refine cl_iV (As := [.int v1]) (rest := [.int 2]) ⟨hx, hb, hml, hown, hts⟩ (c_X7_rateOfSaucer l D cI cZ cR a_x a_rain a_house a_rain_spoons a_house_shrinks a_text a_hist a_img_arr a_kept a_told a_sets a_frost a_house_years a_house_spoons a_house_sorts a_house_byAge (x_traced + 1000) rain_springs rain_lost house_pans house_least house_shelf rain_spoons house_shrinks v1 u1 hu1) (cw_X7_rateOfFont_X7_rateOfSaucer_237 hts) hE hP hD hS hA [0, 1, 2, 3, 4] rfl rfl [a_x, a_rain, a_house, a_rain_spoons, a_house_shrinks] rfl rfl 0 7 rfl rfl rfl hl.1 rfl (Nat.le_of_ble_eq_true rfl) dX7_rateOfFont_15 ⟨Nat.zero_le _, Nat.zero_le _⟩ (fun H locs hP hD hS => ?_)
  have hPD : PD D A [(a_x, .inr (7, [.ref a_house, .ref a_text, .ref a_rain, .ref a_hist, .ref a_img_arr, .ref a_kept, .ref a_told, .ref a_sets, .ref a_frost, .long u1.2])), (a_rain, .inr (4, [.ref a_house, .ref a_rain_spoons, .int rain_springs, .int rain_lost])), (a_house, .inr (2, [.int house_pans, .int house_least, .int house_shelf, .ref a_house_years, .ref a_house_spoons, .ref a_house_shrinks, .ref a_house_sorts, .ref a_house_byAge])), (a_rain_spoons, .inl (cI, 49, .inl rain_spoons)), (a_house_shrinks, .inl (cI, 7, .inl house_shrinks))] H := ⟨hP, hD⟩
  obtain ⟨hP, hD⟩ := hPD
  refine lv_imul hx hb dX7_rateOfFont_18 ?_
  have he := Option.some.inj hf
  subst he
  exact hret _ _ _ _ dX7_rateOfFont_19 rfl hP hD hS
abbrev rmX7_rate : Room := { frames := 6, cells := 0, slots := 0, locals := 129 }
theorem hiX7_rate_7 : ∀ w ∈ wsX70, w ∈ wsX7_rate := fun w h => (goodIn_r (big := wsX7_rate) wsX70 [53, 54, 55, 56, 57, 58, 59, 60, 61, 62] rfl (by decide +kernel) w h).1
theorem cw_X7_rate_X2_has_103 {s : State} {args : Array Value} {D : va_G} {cI cZ cR : ClassId} (hE : EV D cI cZ cR s) (hts : ∀ x ∈ wsX7_rate, x.before args s = true) : va_CN rmX7_rate s args RX7 103 yX2_has "RainShelves" cX2_has 2 (some .boolean) wsX2_has rmX2_has 0 0 1 ∧ (Cond.instanceMethod yX2_has).before args s = true ∧ (Cond.selects RX2 yX2_has yX2_has).before args s = true := ⟨va_cnB 1 hts gX7_rate_X2_has_n103 rfl rfl rfl (hE.nm 15 rfl) (hts (.initialized RX2) (List.mem_of_getElem? (i := 4) rfl)) (by decide +kernel) ⟨Nat.le_of_ble_eq_true rfl, Nat.le_of_ble_eq_true rfl⟩, hts (.instanceMethod yX2_has) (List.mem_of_getElem? (i := 3) rfl), hts (.selects RX2 yX2_has yX2_has) (List.mem_of_getElem? (i := 5) rfl)⟩
theorem cw_X7_rate_X7_rateOfPan_234 {s : State} {args : Array Value} (hts : ∀ x ∈ wsX7_rate, x.before args s = true) : CallW rmX7_rate s args RX7 RX7 234 yX7_rateOfPan cX7_rateOfPan 2 (some .int) wsX7_rateOfPan rmX7_rateOfPan 0 0 1 := cwV 1 hts gX7_rate_X7_rateOfPan rfl rfl rfl (by decide +kernel) ⟨Nat.le_of_ble_eq_true rfl, Nat.le_of_ble_eq_true rfl⟩
theorem cw_X7_rate_X7_rateOfSaucer_237 {s : State} {args : Array Value} (hts : ∀ x ∈ wsX7_rate, x.before args s = true) : CallW rmX7_rate s args RX7 RX7 237 yX7_rateOfSaucer cX7_rateOfSaucer 2 (some .int) wsX7_rateOfSaucer rmX7_rateOfSaucer 0 0 1 := cwV 1 hts gX7_rate_X7_rateOfSaucer rfl rfl rfl (by decide +kernel) ⟨Nat.le_of_ble_eq_true rfl, Nat.le_of_ble_eq_true rfl⟩
theorem cw_X7_rate_X7_rateOfBottle_240 {s : State} {args : Array Value} (hts : ∀ x ∈ wsX7_rate, x.before args s = true) : CallW rmX7_rate s args RX7 RX7 240 yX7_rateOfBottle cX7_rateOfBottle 2 (some .int) wsX7_rateOfBottle rmX7_rateOfBottle 0 0 1 := cwV 1 hts gX7_rate_X7_rateOfBottle rfl rfl rfl (by decide +kernel) ⟨Nat.le_of_ble_eq_true rfl, Nat.le_of_ble_eq_true rfl⟩
theorem cw_X7_rate_X7_rateOfFont_243 {s : State} {args : Array Value} (hts : ∀ x ∈ wsX7_rate, x.before args s = true) : CallW rmX7_rate s args RX7 RX7 243 yX7_rateOfFont cX7_rateOfFont 2 (some .int) wsX7_rateOfFont rmX7_rateOfFont 0 0 1 := cwV 1 hts gX7_rate_X7_rateOfFont rfl rfl rfl (by decide +kernel) ⟨Nat.le_of_ble_eq_true rfl, Nat.le_of_ble_eq_true rfl⟩
theorem cw_X7_rate_X7_rateOfPhial_246 {s : State} {args : Array Value} (hts : ∀ x ∈ wsX7_rate, x.before args s = true) : CallW rmX7_rate s args RX7 RX7 246 yX7_rateOfPhial cX7_rateOfPhial 2 (some .int) wsX7_rateOfPhial rmX7_rateOfPhial 0 0 1 := cwV 1 hts gX7_rate_X7_rateOfPhial rfl rfl rfl (by decide +kernel) ⟨Nat.le_of_ble_eq_true rfl, Nat.le_of_ble_eq_true rfl⟩
theorem cw_X7_rate_X7_rateOfUrn_249 {s : State} {args : Array Value} (hts : ∀ x ∈ wsX7_rate, x.before args s = true) : CallW rmX7_rate s args RX7 RX7 249 yX7_rateOfUrn cX7_rateOfUrn 2 (some .int) wsX7_rateOfUrn rmX7_rateOfUrn 0 0 1 := cwV 1 hts gX7_rate_X7_rateOfUrn rfl rfl rfl (by decide +kernel) ⟨Nat.le_of_ble_eq_true rfl, Nat.le_of_ble_eq_true rfl⟩
set_option maxRecDepth 100000 in
set_option maxHeartbeats 4000000 in
theorem c_X7_rate (l : Launch) (D : va_G) (cI cZ cR : ClassId) (a_x : Nat) (a_house : Nat) (a_rain : Nat) (a_rain_spoons : Nat) (a_house_years : Nat) (a_house_shrinks : Nat) (a_text : Nat) (a_hist : Nat) (a_img_arr : Nat) (a_kept : Nat) (a_told : Nat) (a_sets : Nat) (a_frost : Nat) (a_house_spoons : Nat) (a_house_sorts : Nat) (a_house_byAge : Nat) (x_traced : Int64) (house_pans : Int32) (house_least : Int32) (house_shelf : Int32) (rain_springs : Int32) (rain_lost : Int32) (rain_spoons : Nat → Int32) (house_years : Nat → Int32) (house_shrinks : Nat → Int32) (v1 : Int32) (v2 : Int32) (out : Int32 × Int64) (hf : f_X7_rate x_traced house_pans rain_springs rain_spoons house_years house_shrinks v1 v2 = some out) : Ci l yX7_rate wsX7_rate rmX7_rate D cI cZ cR [.ref a_x, .int v1, .int v2] [(a_x, .inr (7, [.ref a_house, .ref a_text, .ref a_rain, .ref a_hist, .ref a_img_arr, .ref a_kept, .ref a_told, .ref a_sets, .ref a_frost, .long x_traced])), (a_house, .inr (2, [.int house_pans, .int house_least, .int house_shelf, .ref a_house_years, .ref a_house_spoons, .ref a_house_shrinks, .ref a_house_sorts, .ref a_house_byAge])), (a_rain, .inr (4, [.ref a_house, .ref a_rain_spoons, .int rain_springs, .int rain_lost])), (a_rain_spoons, .inl (cI, 49, .inl rain_spoons)), (a_house_years, .inl (cI, 7, .inl house_years)), (a_house_shrinks, .inl (cI, 7, .inl house_shrinks))] out.1 [(a_x, .inr (7, [.ref a_house, .ref a_text, .ref a_rain, .ref a_hist, .ref a_img_arr, .ref a_kept, .ref a_told, .ref a_sets, .ref a_frost, .long out.2])), (a_house, .inr (2, [.int house_pans, .int house_least, .int house_shelf, .ref a_house_years, .ref a_house_spoons, .ref a_house_shrinks, .ref a_house_sorts, .ref a_house_byAge])), (a_rain, .inr (4, [.ref a_house, .ref a_rain_spoons, .int rain_springs, .int rain_lost])), (a_rain_spoons, .inl (cI, 49, .inl rain_spoons)), (a_house_years, .inl (cI, 7, .inl house_years)), (a_house_shrinks, .inl (cI, 7, .inl house_shrinks))] := by
  refine ent_i (cc := cX7_rate) (maxL := 3) .int (by decide) rfl (Nat.le_of_ble_eq_true rfl) ?_
  intro p e s m below meth c A Q hx hb hml hown hts hE hA hP hD hS hret ls hl
  have hown : s.vm.findClass RX7 = some m.cls := hown
  have hl : lv_has ls 3 [(0, .ref a_x), (1, .int v1), (2, .int v2)] := hl
  have fL10 := hts (.fieldLink RX7 10 "RainShelves" "house" "LRainShelves$House;") (List.mem_of_getElem? (i := 1) rfl)
  have cL233 := hts (.constant RX7 233 (-1000000)) (List.mem_of_getElem? (i := 2) rfl)
  unfold f_X7_rate at hf
  refine lv_aload_n hx hb dX7_rate_0 rfl (lv_at hl 0 rfl) ?_
  refine va_get (D := D) (ci := 7) (v := .ref a_house) (C := RX7) (T := TX7) (N := 10) hx hb hts hiX7_rate_7 hown hE.1 hP 0 rfl rfl 0 (by decide) fL10 (fun _ h9 => h9) rfl dX7_rate_1 ?_
  refine lv_iload_n hx hb dX7_rate_4 rfl (lv_at hl 2 rfl) ?_
  obtain ⟨u1, hu1, hf⟩ := bd_some hf
  refine cl_iN (As := [.int v2]) (rest := []) ⟨hx, hb, hml, hown, hts⟩ (c_X2_has l D cI cZ cR a_house a_house_years a_house_spoons a_house_shrinks a_house_sorts a_house_byAge house_pans house_least house_shelf v2 u1 hu1) (cw_X7_rate_X2_has_103 hE hts) hE hP hD hS hA [1] rfl rfl [a_house] rfl rfl 1 2 rfl rfl rfl hl.1 rfl (Nat.le_of_ble_eq_true rfl) dX7_rate_5 ⟨Nat.zero_le _, Nat.zero_le _⟩ (fun H locs hP hD hS => ?_)
  have hPD : PD D A [(a_x, .inr (7, [.ref a_house, .ref a_text, .ref a_rain, .ref a_hist, .ref a_img_arr, .ref a_kept, .ref a_told, .ref a_sets, .ref a_frost, .long x_traced])), (a_house, .inr (2, [.int house_pans, .int house_least, .int house_shelf, .ref a_house_years, .ref a_house_spoons, .ref a_house_shrinks, .ref a_house_sorts, .ref a_house_byAge])), (a_rain, .inr (4, [.ref a_house, .ref a_rain_spoons, .int rain_springs, .int rain_lost])), (a_rain_spoons, .inl (cI, 49, .inl rain_spoons)), (a_house_years, .inl (cI, 7, .inl house_years)), (a_house_shrinks, .inl (cI, 7, .inl house_shrinks))] H := ⟨hP, hD⟩
  obtain ⟨hP, hD⟩ := hPD
  refine lv_if_ne (tgt := 14) hx hb dX7_rate_8 (by decide) (fun hc1 => ?_) (fun hc1 => ?_)
  · have hf := if_f hf hc1
    refine lv_iload_n hx hb dX7_rate_14 rfl (lv_at hl 1 rfl) ?_
    by_cases hc2 : v1 = 0
    · have hf := if_t hf hc2
      refine lv_tableIn (off := 37) (tgt := 52) hx hb dX7_rate_15 (by rw [hc2]; decide) (by rw [hc2]; decide) (by rw [hc2]; rfl) (by decide) ?_
      refine lv_aload_n hx hb dX7_rate_52 rfl (lv_at hl 0 rfl) ?_
      refine lv_iload_n hx hb dX7_rate_53 rfl (lv_at hl 2 rfl) ?_
      obtain ⟨u2, hu2, hf⟩ := bd_some hf
      refine cl_iV (As := [.int v2]) (rest := []) ⟨hx, hb, hml, hown, hts⟩ (c_X7_rateOfPan l D cI cZ cR a_x a_rain a_house a_rain_spoons a_text a_hist a_img_arr a_kept a_told a_sets a_frost a_house_years a_house_spoons a_house_shrinks a_house_sorts a_house_byAge x_traced rain_springs rain_lost house_pans house_least house_shelf rain_spoons v2 u2 hu2) (cw_X7_rate_X7_rateOfPan_234 hts) hE hP hD hS hA [0, 2, 1, 3] rfl rfl [a_x, a_rain, a_house, a_rain_spoons] rfl rfl 0 7 rfl rfl rfl hl.1 rfl (Nat.le_of_ble_eq_true rfl) dX7_rate_54 ⟨Nat.zero_le _, Nat.zero_le _⟩ (fun H locs hP hD hS => ?_)
      have hPD : PD D A [(a_x, .inr (7, [.ref a_house, .ref a_text, .ref a_rain, .ref a_hist, .ref a_img_arr, .ref a_kept, .ref a_told, .ref a_sets, .ref a_frost, .long u2.2])), (a_house, .inr (2, [.int house_pans, .int house_least, .int house_shelf, .ref a_house_years, .ref a_house_spoons, .ref a_house_shrinks, .ref a_house_sorts, .ref a_house_byAge])), (a_rain, .inr (4, [.ref a_house, .ref a_rain_spoons, .int rain_springs, .int rain_lost])), (a_rain_spoons, .inl (cI, 49, .inl rain_spoons)), (a_house_years, .inl (cI, 7, .inl house_years)), (a_house_shrinks, .inl (cI, 7, .inl house_shrinks))] H := ⟨hP, hD⟩
      obtain ⟨hP, hD⟩ := hPD
      have he := Option.some.inj hf
      subst he
      exact hret _ _ _ _ dX7_rate_57 rfl hP hD hS
    have hf := if_f hf hc2
    by_cases hc3 : v1 = 1
    · have hf := if_t hf hc3
      refine lv_tableIn (off := 43) (tgt := 58) hx hb dX7_rate_15 (by rw [hc3]; decide) (by rw [hc3]; decide) (by rw [hc3]; rfl) (by decide) ?_
      refine lv_aload_n hx hb dX7_rate_58 rfl (lv_at hl 0 rfl) ?_
      refine lv_iload_n hx hb dX7_rate_59 rfl (lv_at hl 2 rfl) ?_
      obtain ⟨u3, hu3, hf⟩ := bd_some hf
      refine cl_iV (As := [.int v2]) (rest := []) ⟨hx, hb, hml, hown, hts⟩ (c_X7_rateOfSaucer l D cI cZ cR a_x a_rain a_house a_rain_spoons a_house_shrinks a_text a_hist a_img_arr a_kept a_told a_sets a_frost a_house_years a_house_spoons a_house_sorts a_house_byAge x_traced rain_springs rain_lost house_pans house_least house_shelf rain_spoons house_shrinks v2 u3 hu3) (cw_X7_rate_X7_rateOfSaucer_237 hts) hE hP hD hS hA [0, 2, 1, 3, 5] rfl rfl [a_x, a_rain, a_house, a_rain_spoons, a_house_shrinks] rfl rfl 0 7 rfl rfl rfl hl.1 rfl (Nat.le_of_ble_eq_true rfl) dX7_rate_60 ⟨Nat.zero_le _, Nat.zero_le _⟩ (fun H locs hP hD hS => ?_)
      have hPD : PD D A [(a_x, .inr (7, [.ref a_house, .ref a_text, .ref a_rain, .ref a_hist, .ref a_img_arr, .ref a_kept, .ref a_told, .ref a_sets, .ref a_frost, .long u3.2])), (a_house, .inr (2, [.int house_pans, .int house_least, .int house_shelf, .ref a_house_years, .ref a_house_spoons, .ref a_house_shrinks, .ref a_house_sorts, .ref a_house_byAge])), (a_rain, .inr (4, [.ref a_house, .ref a_rain_spoons, .int rain_springs, .int rain_lost])), (a_rain_spoons, .inl (cI, 49, .inl rain_spoons)), (a_house_years, .inl (cI, 7, .inl house_years)), (a_house_shrinks, .inl (cI, 7, .inl house_shrinks))] H := ⟨hP, hD⟩
      obtain ⟨hP, hD⟩ := hPD
      have he := Option.some.inj hf
      subst he
      exact hret _ _ _ _ dX7_rate_63 rfl hP hD hS
    have hf := if_f hf hc3
    by_cases hc4 : v1 = 2
    · have hf := if_t hf hc4
      refine lv_tableIn (off := 49) (tgt := 64) hx hb dX7_rate_15 (by rw [hc4]; decide) (by rw [hc4]; decide) (by rw [hc4]; rfl) (by decide) ?_
      refine lv_aload_n hx hb dX7_rate_64 rfl (lv_at hl 0 rfl) ?_
      refine lv_iload_n hx hb dX7_rate_65 rfl (lv_at hl 2 rfl) ?_
      obtain ⟨u4, hu4, hf⟩ := bd_some hf
      refine cl_iV (As := [.int v2]) (rest := []) ⟨hx, hb, hml, hown, hts⟩ (c_X7_rateOfBottle l D cI cZ cR a_x a_rain a_house a_rain_spoons a_house_years a_text a_hist a_img_arr a_kept a_told a_sets a_frost a_house_spoons a_house_shrinks a_house_sorts a_house_byAge x_traced rain_springs rain_lost house_pans house_least house_shelf rain_spoons house_years v2 u4 hu4) (cw_X7_rate_X7_rateOfBottle_240 hts) hE hP hD hS hA [0, 2, 1, 3, 4] rfl rfl [a_x, a_rain, a_house, a_rain_spoons, a_house_years] rfl rfl 0 7 rfl rfl rfl hl.1 rfl (Nat.le_of_ble_eq_true rfl) dX7_rate_66 ⟨Nat.zero_le _, Nat.zero_le _⟩ (fun H locs hP hD hS => ?_)
      have hPD : PD D A [(a_x, .inr (7, [.ref a_house, .ref a_text, .ref a_rain, .ref a_hist, .ref a_img_arr, .ref a_kept, .ref a_told, .ref a_sets, .ref a_frost, .long u4.2])), (a_house, .inr (2, [.int house_pans, .int house_least, .int house_shelf, .ref a_house_years, .ref a_house_spoons, .ref a_house_shrinks, .ref a_house_sorts, .ref a_house_byAge])), (a_rain, .inr (4, [.ref a_house, .ref a_rain_spoons, .int rain_springs, .int rain_lost])), (a_rain_spoons, .inl (cI, 49, .inl rain_spoons)), (a_house_years, .inl (cI, 7, .inl house_years)), (a_house_shrinks, .inl (cI, 7, .inl house_shrinks))] H := ⟨hP, hD⟩
      obtain ⟨hP, hD⟩ := hPD
      have he := Option.some.inj hf
      subst he
      exact hret _ _ _ _ dX7_rate_69 rfl hP hD hS
    have hf := if_f hf hc4
    by_cases hc5 : v1 = 3
    · have hf := if_t hf hc5
      refine lv_tableIn (off := 55) (tgt := 70) hx hb dX7_rate_15 (by rw [hc5]; decide) (by rw [hc5]; decide) (by rw [hc5]; rfl) (by decide) ?_
      refine lv_aload_n hx hb dX7_rate_70 rfl (lv_at hl 0 rfl) ?_
      refine lv_iload_n hx hb dX7_rate_71 rfl (lv_at hl 2 rfl) ?_
      obtain ⟨u5, hu5, hf⟩ := bd_some hf
      refine cl_iV (As := [.int v2]) (rest := []) ⟨hx, hb, hml, hown, hts⟩ (c_X7_rateOfFont l D cI cZ cR a_x a_rain a_house a_rain_spoons a_house_shrinks a_text a_hist a_img_arr a_kept a_told a_sets a_frost a_house_years a_house_spoons a_house_sorts a_house_byAge x_traced rain_springs rain_lost house_pans house_least house_shelf rain_spoons house_shrinks v2 u5 hu5) (cw_X7_rate_X7_rateOfFont_243 hts) hE hP hD hS hA [0, 2, 1, 3, 5] rfl rfl [a_x, a_rain, a_house, a_rain_spoons, a_house_shrinks] rfl rfl 0 7 rfl rfl rfl hl.1 rfl (Nat.le_of_ble_eq_true rfl) dX7_rate_72 ⟨Nat.zero_le _, Nat.zero_le _⟩ (fun H locs hP hD hS => ?_)
      have hPD : PD D A [(a_x, .inr (7, [.ref a_house, .ref a_text, .ref a_rain, .ref a_hist, .ref a_img_arr, .ref a_kept, .ref a_told, .ref a_sets, .ref a_frost, .long u5.2])), (a_house, .inr (2, [.int house_pans, .int house_least, .int house_shelf, .ref a_house_years, .ref a_house_spoons, .ref a_house_shrinks, .ref a_house_sorts, .ref a_house_byAge])), (a_rain, .inr (4, [.ref a_house, .ref a_rain_spoons, .int rain_springs, .int rain_lost])), (a_rain_spoons, .inl (cI, 49, .inl rain_spoons)), (a_house_years, .inl (cI, 7, .inl house_years)), (a_house_shrinks, .inl (cI, 7, .inl house_shrinks))] H := ⟨hP, hD⟩
      obtain ⟨hP, hD⟩ := hPD
      have he := Option.some.inj hf
      subst he
      exact hret _ _ _ _ dX7_rate_75 rfl hP hD hS
    have hf := if_f hf hc5
    by_cases hc6 : v1 = 4
    · have hf := if_t hf hc6
      refine lv_tableIn (off := 61) (tgt := 76) hx hb dX7_rate_15 (by rw [hc6]; decide) (by rw [hc6]; decide) (by rw [hc6]; rfl) (by decide) ?_
      refine lv_aload_n hx hb dX7_rate_76 rfl (lv_at hl 0 rfl) ?_
      refine lv_iload_n hx hb dX7_rate_77 rfl (lv_at hl 2 rfl) ?_
      obtain ⟨u6, hu6, hf⟩ := bd_some hf
      refine cl_iV (As := [.int v2]) (rest := []) ⟨hx, hb, hml, hown, hts⟩ (c_X7_rateOfPhial l D cI cZ cR a_x a_rain a_house a_rain_spoons a_house_years a_text a_hist a_img_arr a_kept a_told a_sets a_frost a_house_spoons a_house_shrinks a_house_sorts a_house_byAge x_traced rain_springs rain_lost house_pans house_least house_shelf rain_spoons house_years v2 u6 hu6) (cw_X7_rate_X7_rateOfPhial_246 hts) hE hP hD hS hA [0, 2, 1, 3, 4] rfl rfl [a_x, a_rain, a_house, a_rain_spoons, a_house_years] rfl rfl 0 7 rfl rfl rfl hl.1 rfl (Nat.le_of_ble_eq_true rfl) dX7_rate_78 ⟨Nat.zero_le _, Nat.zero_le _⟩ (fun H locs hP hD hS => ?_)
      have hPD : PD D A [(a_x, .inr (7, [.ref a_house, .ref a_text, .ref a_rain, .ref a_hist, .ref a_img_arr, .ref a_kept, .ref a_told, .ref a_sets, .ref a_frost, .long u6.2])), (a_house, .inr (2, [.int house_pans, .int house_least, .int house_shelf, .ref a_house_years, .ref a_house_spoons, .ref a_house_shrinks, .ref a_house_sorts, .ref a_house_byAge])), (a_rain, .inr (4, [.ref a_house, .ref a_rain_spoons, .int rain_springs, .int rain_lost])), (a_rain_spoons, .inl (cI, 49, .inl rain_spoons)), (a_house_years, .inl (cI, 7, .inl house_years)), (a_house_shrinks, .inl (cI, 7, .inl house_shrinks))] H := ⟨hP, hD⟩
      obtain ⟨hP, hD⟩ := hPD
      have he := Option.some.inj hf
      subst he
      exact hret _ _ _ _ dX7_rate_81 rfl hP hD hS
    have hf := if_f hf hc6
    by_cases hc7 : v1 = 5
    · have hf := if_t hf hc7
      refine lv_tableIn (off := 67) (tgt := 82) hx hb dX7_rate_15 (by rw [hc7]; decide) (by rw [hc7]; decide) (by rw [hc7]; rfl) (by decide) ?_
      refine lv_aload_n hx hb dX7_rate_82 rfl (lv_at hl 0 rfl) ?_
      refine lv_iload_n hx hb dX7_rate_83 rfl (lv_at hl 2 rfl) ?_
      obtain ⟨u7, hu7, hf⟩ := bd_some hf
      refine cl_iV (As := [.int v2]) (rest := []) ⟨hx, hb, hml, hown, hts⟩ (c_X7_rateOfUrn l D cI cZ cR a_x a_rain a_house a_rain_spoons a_text a_hist a_img_arr a_kept a_told a_sets a_frost a_house_years a_house_spoons a_house_shrinks a_house_sorts a_house_byAge x_traced rain_springs rain_lost house_pans house_least house_shelf rain_spoons v2 u7 hu7) (cw_X7_rate_X7_rateOfUrn_249 hts) hE hP hD hS hA [0, 2, 1, 3] rfl rfl [a_x, a_rain, a_house, a_rain_spoons] rfl rfl 0 7 rfl rfl rfl hl.1 rfl (Nat.le_of_ble_eq_true rfl) dX7_rate_84 ⟨Nat.zero_le _, Nat.zero_le _⟩ (fun H locs hP hD hS => ?_)
      have hPD : PD D A [(a_x, .inr (7, [.ref a_house, .ref a_text, .ref a_rain, .ref a_hist, .ref a_img_arr, .ref a_kept, .ref a_told, .ref a_sets, .ref a_frost, .long u7.2])), (a_house, .inr (2, [.int house_pans, .int house_least, .int house_shelf, .ref a_house_years, .ref a_house_spoons, .ref a_house_shrinks, .ref a_house_sorts, .ref a_house_byAge])), (a_rain, .inr (4, [.ref a_house, .ref a_rain_spoons, .int rain_springs, .int rain_lost])), (a_rain_spoons, .inl (cI, 49, .inl rain_spoons)), (a_house_years, .inl (cI, 7, .inl house_years)), (a_house_shrinks, .inl (cI, 7, .inl house_shrinks))] H := ⟨hP, hD⟩
      obtain ⟨hP, hD⟩ := hPD
      have he := Option.some.inj hf
      subst he
      exact hret _ _ _ _ dX7_rate_87 rfl hP hD hS
    have hf := if_f hf hc7
    refine lv_tableOut (tgt := 88) hx hb dX7_rate_15 (by have q0 : ¬ (v1).toInt = 0 := fun e => hc2 (Int32.toInt_inj.mp (e.trans (by decide))); have q1 : ¬ (v1).toInt = 1 := fun e => hc3 (Int32.toInt_inj.mp (e.trans (by decide))); have q2 : ¬ (v1).toInt = 2 := fun e => hc4 (Int32.toInt_inj.mp (e.trans (by decide))); have q3 : ¬ (v1).toInt = 3 := fun e => hc5 (Int32.toInt_inj.mp (e.trans (by decide))); have q4 : ¬ (v1).toInt = 4 := fun e => hc6 (Int32.toInt_inj.mp (e.trans (by decide))); have q5 : ¬ (v1).toInt = 5 := fun e => hc7 (Int32.toInt_inj.mp (e.trans (by decide))); omega) (by decide) ?_
    refine lv_ldc (v := (-1000000)) hx hb hown cL233 dX7_rate_88 ?_
    have he := Option.some.inj hf
    subst he
    exact hret _ _ _ _ dX7_rate_90 rfl hP hD hS
  · have hf := if_t hf hc1
    refine lv_ldc (v := (-1000000)) hx hb hown cL233 dX7_rate_11 ?_
    have he := Option.some.inj hf
    subst he
    exact hret _ _ _ _ dX7_rate_13 rfl hP hD hS
abbrev rmX7_count : Room := { frames := 0, cells := 0, slots := 0, locals := 0 }
theorem hiX7_count_2 : ∀ w ∈ wsX20, w ∈ wsX7_count := fun w h => (goodIn_r (big := wsX7_count) wsX20 [14, 15, 16, 17, 18, 19, 20, 21] rfl (by decide +kernel) w h).1
theorem hiX7_count_3 : ∀ w ∈ wsX30, w ∈ wsX7_count := fun w h => (goodIn_r (big := wsX7_count) wsX30 [22, 23, 24, 25] rfl (by decide +kernel) w h).1
theorem hiX7_count_6 : ∀ w ∈ wsX60, w ∈ wsX7_count := fun w h => (goodIn_r (big := wsX7_count) wsX60 [26, 27, 28, 29, 30, 31, 32, 33, 34] rfl (by decide +kernel) w h).1
theorem hiX7_count_7 : ∀ w ∈ wsX70, w ∈ wsX7_count := fun w h => (goodIn_r (big := wsX7_count) wsX70 [4, 5, 6, 7, 8, 9, 10, 11, 12, 13] rfl (by decide +kernel) w h).1
set_option maxRecDepth 100000 in
set_option maxHeartbeats 4000000 in
theorem c_X7_count (l : Launch) (D : va_G) (cI cZ cR : ClassId) (a_x : Nat) (a_text : Nat) (a_told : Nat) (a_house : Nat) (a_rain : Nat) (a_hist : Nat) (a_img_arr : Nat) (a_kept : Nat) (a_sets : Nat) (a_frost : Nat) (a_text_letters : Nat) (a_draft : Nat) (a_told_springs : Nat) (a_told_pans : Nat) (a_told_spoons : Nat) (a_house_years : Nat) (a_house_spoons : Nat) (a_house_shrinks : Nat) (a_house_sorts : Nat) (a_house_byAge : Nat) (x_traced : Int64) (text_length : Int32) (text_leastTold : Int32) (text_shelfTold : Int32) (text_place : Int32) (text_token : Int32) (text_start : Int32) (text_number : Int32) (told_size : Int32) (house_pans : Int32) (house_least : Int32) (house_shelf : Int32) (v1 : Int32) (out : Int32) (hf : f_X7_count text_length told_size house_pans house_least house_shelf v1 = some out) : Ci l yX7_count wsX7_count rmX7_count D cI cZ cR [.ref a_x, .int v1] [(a_x, .inr (7, [.ref a_house, .ref a_text, .ref a_rain, .ref a_hist, .ref a_img_arr, .ref a_kept, .ref a_told, .ref a_sets, .ref a_frost, .long x_traced])), (a_text, .inr (6, [.ref a_text_letters, .int text_length, .ref a_draft, .int text_leastTold, .int text_shelfTold, .int text_place, .int text_token, .int text_start, .int text_number])), (a_told, .inr (3, [.ref a_told_springs, .ref a_told_pans, .ref a_told_spoons, .int told_size])), (a_house, .inr (2, [.int house_pans, .int house_least, .int house_shelf, .ref a_house_years, .ref a_house_spoons, .ref a_house_shrinks, .ref a_house_sorts, .ref a_house_byAge]))] out [(a_x, .inr (7, [.ref a_house, .ref a_text, .ref a_rain, .ref a_hist, .ref a_img_arr, .ref a_kept, .ref a_told, .ref a_sets, .ref a_frost, .long x_traced])), (a_text, .inr (6, [.ref a_text_letters, .int text_length, .ref a_draft, .int text_leastTold, .int text_shelfTold, .int text_place, .int text_token, .int text_start, .int text_number])), (a_told, .inr (3, [.ref a_told_springs, .ref a_told_pans, .ref a_told_spoons, .int told_size])), (a_house, .inr (2, [.int house_pans, .int house_least, .int house_shelf, .ref a_house_years, .ref a_house_spoons, .ref a_house_shrinks, .ref a_house_sorts, .ref a_house_byAge]))] := by
  refine ent_i (cc := cX7_count) (maxL := 2) .int (by decide) rfl (Nat.le_of_ble_eq_true rfl) ?_
  intro p e s m below meth c A Q hx hb hml hown hts hE hA hP hD hS hret ls hl
  have hown : s.vm.findClass RX7 = some m.cls := hown
  have hl : lv_has ls 2 [(0, .ref a_x), (1, .int v1)] := hl
  have fL10 := hts (.fieldLink RX7 10 "RainShelves" "house" "LRainShelves$House;") (List.mem_of_getElem? (i := 1) rfl)
  have fL19 := hts (.fieldLink RX7 19 "RainShelves" "text" "LRainShelves$Text;") (List.mem_of_getElem? (i := 3) rfl)
  have fL50 := hts (.fieldLink RX7 50 "RainShelves" "told" "LRainShelves$Levels;") (List.mem_of_getElem? (i := 2) rfl)
  have fL80 : (Cond.fieldLinkNest RX7 80 "RainShelves$Text" "length" "I" "RainShelves").before ([.ref a_x, .int v1] : List Value).toArray s = true := hE.nf 17 rfl
  have fL100 : (Cond.fieldLinkNest RX7 100 "RainShelves$Levels" "size" "I" "RainShelves").before ([.ref a_x, .int v1] : List Value).toArray s = true := hE.nf 25 rfl
  have fL172 : (Cond.fieldLinkNest RX7 172 "RainShelves$House" "pans" "I" "RainShelves").before ([.ref a_x, .int v1] : List Value).toArray s = true := hE.nf 3 rfl
  have fL190 : (Cond.fieldLinkNest RX7 190 "RainShelves$House" "least" "I" "RainShelves").before ([.ref a_x, .int v1] : List Value).toArray s = true := hE.nf 6 rfl
  have fL264 : (Cond.fieldLinkNest RX7 264 "RainShelves$House" "shelf" "I" "RainShelves").before ([.ref a_x, .int v1] : List Value).toArray s = true := hE.nf 9 rfl
  unfold f_X7_count at hf
  refine lv_iload_n hx hb dX7_count_0 rfl (lv_at hl 1 rfl) ?_
  by_cases hc1 : v1 = 0
  · have hf := if_t hf hc1
    refine lv_tableIn (off := 35) (tgt := 36) hx hb dX7_count_1 (by rw [hc1]; decide) (by rw [hc1]; decide) (by rw [hc1]; rfl) (by decide) ?_
    refine lv_aload_n hx hb dX7_count_36 rfl (lv_at hl 0 rfl) ?_
    refine va_get (D := D) (ci := 7) (v := .ref a_house) (C := RX7) (T := TX7) (N := 10) hx hb hts hiX7_count_7 hown hE.1 hP 0 rfl rfl 0 (by decide) fL10 (fun _ h9 => h9) rfl dX7_count_37 ?_
    refine va_getN (D := D) (ci := 2) (v := .int house_pans) (C := RX2) (T := TX2) (N := 8) hx hb hts hiX7_count_2 hown hE.1 hP 3 rfl rfl 0 (by decide) fL172 (fun _ h9 => h9) rfl dX7_count_40 ?_
    have he := Option.some.inj hf
    subst he
    exact hret _ _ _ _ dX7_count_43 rfl hP hD hS
  have hf := if_f hf hc1
  by_cases hc2 : v1 = 1
  · have hf := if_t hf hc2
    refine lv_tableIn (off := 43) (tgt := 44) hx hb dX7_count_1 (by rw [hc2]; decide) (by rw [hc2]; decide) (by rw [hc2]; rfl) (by decide) ?_
    refine lv_aload_n hx hb dX7_count_44 rfl (lv_at hl 0 rfl) ?_
    refine va_get (D := D) (ci := 7) (v := .ref a_house) (C := RX7) (T := TX7) (N := 10) hx hb hts hiX7_count_7 hown hE.1 hP 0 rfl rfl 0 (by decide) fL10 (fun _ h9 => h9) rfl dX7_count_45 ?_
    refine va_getN (D := D) (ci := 2) (v := .int house_least) (C := RX2) (T := TX2) (N := 8) hx hb hts hiX7_count_2 hown hE.1 hP 3 rfl rfl 1 (by decide) fL190 (fun _ h9 => h9) rfl dX7_count_48 ?_
    have he := Option.some.inj hf
    subst he
    exact hret _ _ _ _ dX7_count_51 rfl hP hD hS
  have hf := if_f hf hc2
  by_cases hc3 : v1 = 2
  · have hf := if_t hf hc3
    refine lv_tableIn (off := 51) (tgt := 52) hx hb dX7_count_1 (by rw [hc3]; decide) (by rw [hc3]; decide) (by rw [hc3]; rfl) (by decide) ?_
    refine lv_aload_n hx hb dX7_count_52 rfl (lv_at hl 0 rfl) ?_
    refine va_get (D := D) (ci := 7) (v := .ref a_house) (C := RX7) (T := TX7) (N := 10) hx hb hts hiX7_count_7 hown hE.1 hP 0 rfl rfl 0 (by decide) fL10 (fun _ h9 => h9) rfl dX7_count_53 ?_
    refine va_getN (D := D) (ci := 2) (v := .int house_shelf) (C := RX2) (T := TX2) (N := 8) hx hb hts hiX7_count_2 hown hE.1 hP 3 rfl rfl 2 (by decide) fL264 (fun _ h9 => h9) rfl dX7_count_56 ?_
    have he := Option.some.inj hf
    subst he
    exact hret _ _ _ _ dX7_count_59 rfl hP hD hS
  have hf := if_f hf hc3
  by_cases hc4 : v1 = 3
  · have hf := if_t hf hc4
    refine lv_tableIn (off := 59) (tgt := 60) hx hb dX7_count_1 (by rw [hc4]; decide) (by rw [hc4]; decide) (by rw [hc4]; rfl) (by decide) ?_
    refine lv_aload_n hx hb dX7_count_60 rfl (lv_at hl 0 rfl) ?_
    refine va_get (D := D) (ci := 7) (v := .ref a_told) (C := RX7) (T := TX7) (N := 10) hx hb hts hiX7_count_7 hown hE.1 hP 0 rfl rfl 6 (by decide) fL50 (fun _ h9 => h9) rfl dX7_count_61 ?_
    refine va_getN (D := D) (ci := 3) (v := .int told_size) (C := RX3) (T := TX3) (N := 4) hx hb hts hiX7_count_3 hown hE.1 hP 2 rfl rfl 3 (by decide) fL100 (fun _ h9 => h9) rfl dX7_count_64 ?_
    have he := Option.some.inj hf
    subst he
    exact hret _ _ _ _ dX7_count_67 rfl hP hD hS
  have hf := if_f hf hc4
  by_cases hc5 : v1 = 4
  · have hf := if_t hf hc5
    refine lv_tableIn (off := 67) (tgt := 68) hx hb dX7_count_1 (by rw [hc5]; decide) (by rw [hc5]; decide) (by rw [hc5]; rfl) (by decide) ?_
    refine lv_aload_n hx hb dX7_count_68 rfl (lv_at hl 0 rfl) ?_
    refine va_get (D := D) (ci := 7) (v := .ref a_text) (C := RX7) (T := TX7) (N := 10) hx hb hts hiX7_count_7 hown hE.1 hP 0 rfl rfl 1 (by decide) fL19 (fun _ h9 => h9) rfl dX7_count_69 ?_
    refine va_getN (D := D) (ci := 6) (v := .int text_length) (C := RX6) (T := TX6) (N := 9) hx hb hts hiX7_count_6 hown hE.1 hP 1 rfl rfl 1 (by decide) fL80 (fun _ h9 => h9) rfl dX7_count_72 ?_
    have he := Option.some.inj hf
    subst he
    exact hret _ _ _ _ dX7_count_75 rfl hP hD hS
  have hf := if_f hf hc5
  refine lv_tableOut (tgt := 76) hx hb dX7_count_1 (by have q0 : ¬ (v1).toInt = 0 := fun e => hc1 (Int32.toInt_inj.mp (e.trans (by decide))); have q1 : ¬ (v1).toInt = 1 := fun e => hc2 (Int32.toInt_inj.mp (e.trans (by decide))); have q2 : ¬ (v1).toInt = 2 := fun e => hc3 (Int32.toInt_inj.mp (e.trans (by decide))); have q3 : ¬ (v1).toInt = 3 := fun e => hc4 (Int32.toInt_inj.mp (e.trans (by decide))); have q4 : ¬ (v1).toInt = 4 := fun e => hc5 (Int32.toInt_inj.mp (e.trans (by decide))); omega) (by decide) ?_
  refine lv_iconst (v := (-1)) hx hb dX7_count_76 (by decide) ?_
  have he := Option.some.inj hf
  subst he
  exact hret _ _ _ _ dX7_count_77 rfl hP hD hS
abbrev rmX7_trace : Room := { frames := 0, cells := 0, slots := 0, locals := 0 }
theorem hiX7_trace_7 : ∀ w ∈ wsX70, w ∈ wsX7_trace := fun w h => (goodIn_r (big := wsX7_trace) wsX70 [2, 3, 4, 5, 6, 7, 8, 9, 10, 11] rfl (by decide +kernel) w h).1
set_option maxRecDepth 100000 in
set_option maxHeartbeats 4000000 in
theorem c_X7_trace (l : Launch) (D : va_G) (cI cZ cR : ClassId) (a_x : Nat) (a_house : Nat) (a_text : Nat) (a_rain : Nat) (a_hist : Nat) (a_img_arr : Nat) (a_kept : Nat) (a_told : Nat) (a_sets : Nat) (a_frost : Nat) (x_traced : Int64) (out : Int64) (hf : f_X7_trace x_traced = some out) : Cl l yX7_trace wsX7_trace rmX7_trace D cI cZ cR [.ref a_x] [(a_x, .inr (7, [.ref a_house, .ref a_text, .ref a_rain, .ref a_hist, .ref a_img_arr, .ref a_kept, .ref a_told, .ref a_sets, .ref a_frost, .long x_traced]))] out [(a_x, .inr (7, [.ref a_house, .ref a_text, .ref a_rain, .ref a_hist, .ref a_img_arr, .ref a_kept, .ref a_told, .ref a_sets, .ref a_frost, .long x_traced]))] := by
  refine ent_l (cc := cX7_trace) (maxL := 1) (by decide) rfl (Nat.le_of_ble_eq_true rfl) ?_
  intro p e s m below meth c A Q hx hb hml hown hts hE hA hP hD hS hret ls hl
  have hown : s.vm.findClass RX7 = some m.cls := hown
  have hl : lv_has ls 1 [(0, .ref a_x)] := hl
  have fL68 := hts (.fieldLink RX7 68 "RainShelves" "traced" "J") (List.mem_of_getElem? (i := 1) rfl)
  unfold f_X7_trace at hf
  refine lv_aload_n hx hb dX7_trace_0 rfl (lv_at hl 0 rfl) ?_
  refine va_get (D := D) (ci := 7) (v := .long x_traced) (C := RX7) (T := TX7) (N := 10) hx hb hts hiX7_trace_7 hown hE.1 hP 0 rfl rfl 9 (by decide) fL68 (fun _ h9 => h9) rfl dX7_trace_1 ?_
  have he := Option.some.inj hf
  subst he
  exact hret _ _ _ _ dX7_trace_4 hP hD hS
