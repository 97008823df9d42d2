/-! rooms, and what a call asks: by program -/
abbrev wX_init : List Cond := Cond.code yX_init cX_init 1 none :: zw0
abbrev rX_init : Room := { frames := 1, cells := 5, slots := 1080, locals := 20 }
abbrev wX_dimension : List Cond := Cond.code yX_dimension cX_dimension 3 (some .int) :: zw0
abbrev rX_dimension : Room := { frames := 6, cells := 1, slots := 6, locals := 83 }
abbrev wX_values : List Cond := Cond.code yX_values cX_values 6 (some .int) :: zw0
abbrev rX_values : Room := { frames := 7, cells := 1, slots := 6, locals := 104 }
abbrev wX_facts : List Cond := Cond.code yX_facts cX_facts 3 (some .int) :: zw0
abbrev rX_facts : Room := { frames := 6, cells := 1, slots := 6, locals := 83 }
abbrev wX_views : List Cond := Cond.code yX_views cX_views 1 (some .int) :: zw0
abbrev rX_views : Room := { frames := 0, cells := 0, slots := 0, locals := 0 }
abbrev wX_digit : List Cond := Cond.code yX_digit cX_digit 3 (some .int) :: zw0
abbrev rX_digit : Room := { frames := 7, cells := 1, slots := 6, locals := 104 }
abbrev wX_isAbove : List Cond := Cond.code yX_isAbove cX_isAbove 3 (some .boolean) :: zw0
abbrev rX_isAbove : Room := { frames := 7, cells := 1, slots := 6, locals := 104 }
abbrev wX_told : List Cond := Cond.code yX_told cX_told 3 (some .long) :: zw0
abbrev rX_told : Room := { frames := 7, cells := 1, slots := 6, locals := 104 }
abbrev wX_take : List Cond := Cond.code yX_take cX_take 2 (some .int) :: zw0
abbrev rX_take : Room := { frames := 7, cells := 1, slots := 6, locals := 104 }
abbrev wX_step : List Cond := Cond.code yX_step cX_step 2 (some .int) :: zw0
abbrev rX_step : Room := { frames := 7, cells := 1, slots := 6, locals := 103 }
abbrev wX_choose : List Cond := Cond.code yX_choose cX_choose 4 (some .int) :: zw0
abbrev rX_choose : Room := { frames := 6, cells := 1, slots := 6, locals := 102 }
abbrev wX_chosen : List Cond := Cond.code yX_chosen cX_chosen 2 (some .int) :: zw0
abbrev rX_chosen : Room := { frames := 6, cells := 1, slots := 6, locals := 83 }
abbrev wX_drop : List Cond := Cond.code yX_drop cX_drop 2 (some .int) :: zw0
abbrev rX_drop : Room := { frames := 2, cells := 0, slots := 0, locals := 44 }
abbrev wX_total : List Cond := Cond.code yX_total cX_total 4 (some .long) :: zw0
abbrev rX_total : Room := { frames := 0, cells := 0, slots := 0, locals := 0 }
abbrev wX_checkView : List Cond := Cond.code yX_checkView cX_checkView 2 none :: zw0
abbrev rX_checkView : Room := { frames := 6, cells := 1, slots := 6, locals := 83 }
abbrev wX_checkDimension : List Cond := Cond.code yX_checkDimension cX_checkDimension 2 none :: zw0
abbrev rX_checkDimension : Room := { frames := 6, cells := 1, slots := 6, locals := 83 }
abbrev wX_checkRoomForChosen : List Cond := Cond.code yX_checkRoomForChosen cX_checkRoomForChosen 1 none :: zw0
abbrev rX_checkRoomForChosen : Room := { frames := 6, cells := 1, slots := 6, locals := 83 }
abbrev wX_splitViews : List Cond := Cond.code yX_splitViews cX_splitViews 6 none :: zw0
abbrev rX_splitViews : Room := { frames := 0, cells := 0, slots := 0, locals := 0 }
abbrev wX_forgetChosen : List Cond := Cond.code yX_forgetChosen cX_forgetChosen 1 none :: zw0
abbrev rX_forgetChosen : Room := { frames := 1, cells := 0, slots := 0, locals := 24 }
abbrev wX_addChosen : List Cond := Cond.code yX_addChosen cX_addChosen 6 none :: zw0
abbrev rX_addChosen : Room := { frames := 2, cells := 0, slots := 0, locals := 49 }
abbrev wX_mostBeneficial : List Cond := Cond.code yX_mostBeneficial cX_mostBeneficial 7 (some .int) :: zw0
abbrev rX_mostBeneficial : Room := { frames := 3, cells := 0, slots := 0, locals := 76 }
abbrev wX_benefitOf : List Cond := Cond.code yX_benefitOf cX_benefitOf 8 (some .long) :: zw0
abbrev rX_benefitOf : Room := { frames := 2, cells := 0, slots := 0, locals := 49 }
abbrev wX_estimateOf : List Cond := Cond.code yX_estimateOf cX_estimateOf 7 (some .long) :: zw0
abbrev rX_estimateOf : Room := { frames := 1, cells := 0, slots := 0, locals := 23 }
abbrev wX_unpackDigit : List Cond := Cond.code yX_unpackDigit cX_unpackDigit 2 (some .int) :: zw0
abbrev rX_unpackDigit : Room := { frames := 0, cells := 0, slots := 0, locals := 0 }
abbrev wX_isAbovePacked : List Cond := Cond.code yX_isAbovePacked cX_isAbovePacked 2 (some .boolean) :: zw0
abbrev rX_isAbovePacked : Room := { frames := 0, cells := 0, slots := 0, locals := 0 }
abbrev wM_init : List Cond := Cond.code yM_init cM_init 1 none :: zw0
abbrev rM_init : Room := { frames := 1, cells := 6, slots := 5176, locals := 20 }
abbrev wM_thrown : List Cond := Cond.code yM_thrown cM_thrown 1 (some .int) :: zw0
abbrev rM_thrown : Room := { frames := 0, cells := 0, slots := 0, locals := 0 }
abbrev wM_dimension : List Cond := Cond.code yM_dimension cM_dimension 3 (some .int) :: zw0
abbrev rM_dimension : Room := { frames := 2, cells := 0, slots := 0, locals := 46 }
abbrev wM_isDimension : List Cond := Cond.code yM_isDimension cM_isDimension 2 (some .boolean) :: zw0
abbrev rM_isDimension : Room := { frames := 0, cells := 0, slots := 0, locals := 0 }
abbrev wM_isView : List Cond := Cond.code yM_isView cM_isView 2 (some .boolean) :: zw0
abbrev rM_isView : Room := { frames := 0, cells := 0, slots := 0, locals := 0 }
abbrev wM_values : List Cond := Cond.code yM_values cM_values 5 (some .int) :: zw0
abbrev rM_values : Room := { frames := 1, cells := 0, slots := 0, locals := 21 }
abbrev wM_facts : List Cond := Cond.code yM_facts cM_facts 3 (some .int) :: zw0
abbrev rM_facts : Room := { frames := 0, cells := 0, slots := 0, locals := 0 }
abbrev wM_views : List Cond := Cond.code yM_views cM_views 1 (some .int) :: zw0
abbrev rM_views : Room := { frames := 0, cells := 0, slots := 0, locals := 0 }
abbrev wM_spread : List Cond := Cond.code yM_spread cM_spread 3 none :: zw0
abbrev rM_spread : Room := { frames := 1, cells := 0, slots := 0, locals := 24 }
abbrev wM_digitOf : List Cond := Cond.code yM_digitOf cM_digitOf 3 (some .int) :: zw0
abbrev rM_digitOf : Room := { frames := 0, cells := 0, slots := 0, locals := 0 }
abbrev wM_divided : List Cond := Cond.code yM_divided cM_divided 5 (some .int) :: zw0
abbrev rM_divided : Room := { frames := 0, cells := 0, slots := 0, locals := 0 }
abbrev wM_above : List Cond := Cond.code yM_above cM_above 5 (some .boolean) :: zw0
abbrev rM_above : Room := { frames := 1, cells := 0, slots := 0, locals := 22 }
abbrev wM_estimateOf : List Cond := Cond.code yM_estimateOf cM_estimateOf 6 (some .long) :: zw0
abbrev rM_estimateOf : Room := { frames := 1, cells := 0, slots := 0, locals := 22 }
abbrev wM_reckon : List Cond := Cond.code yM_reckon cM_reckon 4 none :: zw0
abbrev rM_reckon : Room := { frames := 2, cells := 0, slots := 0, locals := 47 }
abbrev wM_benefitOf : List Cond := Cond.code yM_benefitOf cM_benefitOf 5 (some .long) :: zw0
abbrev rM_benefitOf : Room := { frames := 2, cells := 0, slots := 0, locals := 46 }
abbrev wM_digit : List Cond := Cond.code yM_digit cM_digit 3 (some .int) :: zw0
abbrev rM_digit : Room := { frames := 1, cells := 0, slots := 0, locals := 22 }
abbrev wM_isAbove : List Cond := Cond.code yM_isAbove cM_isAbove 3 (some .boolean) :: zw0
abbrev rM_isAbove : Room := { frames := 2, cells := 0, slots := 0, locals := 46 }
abbrev wM_told : List Cond := Cond.code yM_told cM_told 3 (some .long) :: zw0
abbrev rM_told : Room := { frames := 3, cells := 0, slots := 0, locals := 70 }
abbrev wM_take : List Cond := Cond.code yM_take cM_take 2 (some .int) :: zw0
abbrev rM_take : Room := { frames := 1, cells := 0, slots := 0, locals := 21 }
abbrev wM_choosesOne : List Cond := Cond.code yM_choosesOne cM_choosesOne 7 (some .int) :: zw0
abbrev rM_choosesOne : Room := { frames := 3, cells := 0, slots := 0, locals := 70 }
abbrev wM_step : List Cond := Cond.code yM_step cM_step 1 (some .int) :: zw0
abbrev rM_step : Room := { frames := 4, cells := 0, slots := 0, locals := 96 }
abbrev wM_choose : List Cond := Cond.code yM_choose cM_choose 3 (some .int) :: zw0
abbrev rM_choose : Room := { frames := 4, cells := 0, slots := 0, locals := 96 }
abbrev wM_chosen : List Cond := Cond.code yM_chosen cM_chosen 2 (some .int) :: zw0
abbrev rM_chosen : Room := { frames := 0, cells := 0, slots := 0, locals := 0 }
abbrev wM_drop : List Cond := Cond.code yM_drop cM_drop 2 (some .int) :: zw0
abbrev rM_drop : Room := { frames := 0, cells := 0, slots := 0, locals := 0 }
abbrev wM_total : List Cond := Cond.code yM_total cM_total 4 (some .long) :: zw0
abbrev rM_total : Room := { frames := 3, cells := 0, slots := 0, locals := 70 }
abbrev wL_dimension : List Cond := Cond.codeWith yL_dimension cL_dimension 4 (some .int) [(0, 9, 12, 13), (0, 9, 15, 15)] :: zw0
abbrev rL_dimension : Room := { frames := 7, cells := 1, slots := 6, locals := 105 }
abbrev wL_values : List Cond := Cond.codeWith yL_values cL_values 6 (some .int) [(0, 12, 15, 13)] :: zw0
abbrev rL_values : Room := { frames := 8, cells := 1, slots := 6, locals := 129 }
abbrev wL_facts : List Cond := Cond.codeWith yL_facts cL_facts 4 (some .int) [(0, 9, 12, 13)] :: zw0
abbrev rL_facts : Room := { frames := 7, cells := 1, slots := 6, locals := 105 }
abbrev wL_digit : List Cond := Cond.codeWith yL_digit cL_digit 5 (some .int) [(0, 10, 13, 13)] :: zw0
abbrev rL_digit : Room := { frames := 8, cells := 1, slots := 6, locals := 126 }
abbrev wL_isAbove : List Cond := Cond.codeWith yL_isAbove cL_isAbove 5 (some .int) [(0, 17, 20, 13)] :: zw0
abbrev rL_isAbove : Room := { frames := 8, cells := 1, slots := 6, locals := 126 }
abbrev wL_told : List Cond := Cond.codeWith yL_told cL_told 5 (some .int) [(0, 9, 12, 13)] :: zw0
abbrev rL_told : Room := { frames := 8, cells := 1, slots := 6, locals := 126 }
abbrev wL_take : List Cond := Cond.codeWith yL_take cL_take 4 (some .int) [(0, 9, 12, 13), (0, 9, 15, 15)] :: zw0
abbrev rL_take : Room := { frames := 8, cells := 1, slots := 6, locals := 125 }
abbrev wL_step : List Cond := Cond.codeWith yL_step cL_step 3 (some .int) [(0, 8, 11, 15)] :: zw0
abbrev rL_step : Room := { frames := 8, cells := 1, slots := 6, locals := 124 }
abbrev wL_choose : List Cond := Cond.codeWith yL_choose cL_choose 4 (some .int) [(0, 9, 12, 13)] :: zw0
abbrev rL_choose : Room := { frames := 7, cells := 1, slots := 6, locals := 125 }
abbrev wL_chosen : List Cond := Cond.codeWith yL_chosen cL_chosen 4 (some .int) [(0, 9, 12, 13)] :: zw0
abbrev rL_chosen : Room := { frames := 7, cells := 1, slots := 6, locals := 104 }
abbrev wA_fill : List Cond := Cond.code yA_fill cA_fill 5 none :: zw0
abbrev rA_fill : Room := { frames := 0, cells := 0, slots := 0, locals := 0 }
theorem wcL_7 {R : Room} {args : Array Value} {s : State} (hz : ∀ w ∈ zw0, w.before args s = true) (hf : rX_dimension.frames + 1 ≤ R.frames) (hl : 8 + (3 + 11) + rX_dimension.locals ≤ R.locals) : zt_Cw R s args RL 7 yX_dimension 3 wX_dimension rX_dimension 1 := ⟨hf, hl, zc_ws hz kC_X_dimension, hz _ kin_ViewChooser, hz _ kl_L_7, ⟨by decide +kernel, by decide +kernel⟩, by decide +kernel⟩
theorem wcL_17 {R : Room} {args : Array Value} {s : State} (hz : ∀ w ∈ zw0, w.before args s = true) (hf : rX_values.frames + 1 ≤ R.frames) (hl : 8 + (6 + 11) + rX_values.locals ≤ R.locals) : zt_Cw R s args RL 17 yX_values 6 wX_values rX_values 3 := ⟨hf, hl, zc_ws hz kC_X_values, hz _ kin_ViewChooser, hz _ kl_L_17, ⟨by decide +kernel, by decide +kernel⟩, by decide +kernel⟩
theorem wcL_21 {R : Room} {args : Array Value} {s : State} (hz : ∀ w ∈ zw0, w.before args s = true) (hf : rX_facts.frames + 1 ≤ R.frames) (hl : 8 + (3 + 11) + rX_facts.locals ≤ R.locals) : zt_Cw R s args RL 21 yX_facts 3 wX_facts rX_facts 1 := ⟨hf, hl, zc_ws hz kC_X_facts, hz _ kin_ViewChooser, hz _ kl_L_21, ⟨by decide +kernel, by decide +kernel⟩, by decide +kernel⟩
theorem wcL_24 {R : Room} {args : Array Value} {s : State} (hz : ∀ w ∈ zw0, w.before args s = true) (hf : rX_digit.frames + 1 ≤ R.frames) (hl : 8 + (3 + 11) + rX_digit.locals ≤ R.locals) : zt_Cw R s args RL 24 yX_digit 3 wX_digit rX_digit 2 := ⟨hf, hl, zc_ws hz kC_X_digit, hz _ kin_ViewChooser, hz _ kl_L_24, ⟨by decide +kernel, by decide +kernel⟩, by decide +kernel⟩
theorem wcL_28 {R : Room} {args : Array Value} {s : State} (hz : ∀ w ∈ zw0, w.before args s = true) (hf : rX_isAbove.frames + 1 ≤ R.frames) (hl : 8 + (3 + 11) + rX_isAbove.locals ≤ R.locals) : zt_Cw R s args RL 28 yX_isAbove 3 wX_isAbove rX_isAbove 2 := ⟨hf, hl, zc_ws hz kC_X_isAbove, hz _ kin_ViewChooser, hz _ kl_L_28, ⟨by decide +kernel, by decide +kernel⟩, by decide +kernel⟩
theorem wcL_32 {R : Room} {args : Array Value} {s : State} (hz : ∀ w ∈ zw0, w.before args s = true) (hf : rX_told.frames + 1 ≤ R.frames) (hl : 8 + (3 + 11) + rX_told.locals ≤ R.locals) : zt_Cw R s args RL 32 yX_told 3 wX_told rX_told 2 := ⟨hf, hl, zc_ws hz kC_X_told, hz _ kin_ViewChooser, hz _ kl_L_32, ⟨by decide +kernel, by decide +kernel⟩, by decide +kernel⟩
theorem wcL_36 {R : Room} {args : Array Value} {s : State} (hz : ∀ w ∈ zw0, w.before args s = true) (hf : rX_take.frames + 1 ≤ R.frames) (hl : 8 + (2 + 11) + rX_take.locals ≤ R.locals) : zt_Cw R s args RL 36 yX_take 2 wX_take rX_take 1 := ⟨hf, hl, zc_ws hz kC_X_take, hz _ kin_ViewChooser, hz _ kl_L_36, ⟨by decide +kernel, by decide +kernel⟩, by decide +kernel⟩
theorem wcL_39 {R : Room} {args : Array Value} {s : State} (hz : ∀ w ∈ zw0, w.before args s = true) (hf : rX_step.frames + 1 ≤ R.frames) (hl : 8 + (2 + 11) + rX_step.locals ≤ R.locals) : zt_Cw R s args RL 39 yX_step 2 wX_step rX_step 0 := ⟨hf, hl, zc_ws hz kC_X_step, hz _ kin_ViewChooser, hz _ kl_L_39, ⟨by decide +kernel, by decide +kernel⟩, by decide +kernel⟩
theorem wcL_43 {R : Room} {args : Array Value} {s : State} (hz : ∀ w ∈ zw0, w.before args s = true) (hf : rX_choose.frames + 1 ≤ R.frames) (hl : 8 + (4 + 11) + rX_choose.locals ≤ R.locals) : zt_Cw R s args RL 43 yX_choose 4 wX_choose rX_choose 1 := ⟨hf, hl, zc_ws hz kC_X_choose, hz _ kin_ViewChooser, hz _ kl_L_43, ⟨by decide +kernel, by decide +kernel⟩, by decide +kernel⟩
theorem wcL_46 {R : Room} {args : Array Value} {s : State} (hz : ∀ w ∈ zw0, w.before args s = true) (hf : rX_chosen.frames + 1 ≤ R.frames) (hl : 8 + (2 + 11) + rX_chosen.locals ≤ R.locals) : zt_Cw R s args RL 46 yX_chosen 2 wX_chosen rX_chosen 1 := ⟨hf, hl, zc_ws hz kC_X_chosen, hz _ kin_ViewChooser, hz _ kl_L_46, ⟨by decide +kernel, by decide +kernel⟩, by decide +kernel⟩
theorem wcL_53 {R : Room} {args : Array Value} {s : State} (hz : ∀ w ∈ zw0, w.before args s = true) (hf : rL_dimension.frames + 1 ≤ R.frames) (hl : 8 + (4 + 11) + rL_dimension.locals ≤ R.locals) : zt_Cw R s args RL 53 yL_dimension 4 wL_dimension rL_dimension 3 := ⟨hf, hl, zc_ws hz kC_L_dimension, hz _ kin_ViewChooserLaw, hz _ kl_L_53, ⟨by decide +kernel, by decide +kernel⟩, by decide +kernel⟩
theorem wcL_58 {R : Room} {args : Array Value} {s : State} (hz : ∀ w ∈ zw0, w.before args s = true) (hf : rM_dimension.frames + 1 ≤ R.frames) (hl : 8 + (3 + 11) + rM_dimension.locals ≤ R.locals) : zt_Cw R s args RL 58 yM_dimension 3 wM_dimension rM_dimension 1 := ⟨hf, hl, zc_ws hz kC_M_dimension, hz _ kin_ViewChooserModel, hz _ kl_L_58, ⟨by decide +kernel, by decide +kernel⟩, by decide +kernel⟩
theorem wcL_59 {R : Room} {args : Array Value} {s : State} (hz : ∀ w ∈ zw0, w.before args s = true) (hf : rM_thrown.frames + 1 ≤ R.frames) (hl : 8 + (1 + 11) + rM_thrown.locals ≤ R.locals) : zt_Cw R s args RL 59 yM_thrown 1 wM_thrown rM_thrown 0 := ⟨hf, hl, zc_ws hz kC_M_thrown, hz _ kin_ViewChooserModel, hz _ kl_L_59, ⟨by decide +kernel, by decide +kernel⟩, by decide +kernel⟩
theorem wcL_62 {R : Room} {args : Array Value} {s : State} (hz : ∀ w ∈ zw0, w.before args s = true) (hf : rL_values.frames + 1 ≤ R.frames) (hl : 8 + (6 + 11) + rL_values.locals ≤ R.locals) : zt_Cw R s args RL 62 yL_values 6 wL_values rL_values 5 := ⟨hf, hl, zc_ws hz kC_L_values, hz _ kin_ViewChooserLaw, hz _ kl_L_62, ⟨by decide +kernel, by decide +kernel⟩, by decide +kernel⟩
theorem wcL_65 {R : Room} {args : Array Value} {s : State} (hz : ∀ w ∈ zw0, w.before args s = true) (hf : rM_values.frames + 1 ≤ R.frames) (hl : 8 + (5 + 11) + rM_values.locals ≤ R.locals) : zt_Cw R s args RL 65 yM_values 5 wM_values rM_values 3 := ⟨hf, hl, zc_ws hz kC_M_values, hz _ kin_ViewChooserModel, hz _ kl_L_65, ⟨by decide +kernel, by decide +kernel⟩, by decide +kernel⟩
theorem wcL_66 {R : Room} {args : Array Value} {s : State} (hz : ∀ w ∈ zw0, w.before args s = true) (hf : rL_facts.frames + 1 ≤ R.frames) (hl : 8 + (4 + 11) + rL_facts.locals ≤ R.locals) : zt_Cw R s args RL 66 yL_facts 4 wL_facts rL_facts 3 := ⟨hf, hl, zc_ws hz kC_L_facts, hz _ kin_ViewChooserLaw, hz _ kl_L_66, ⟨by decide +kernel, by decide +kernel⟩, by decide +kernel⟩
theorem wcL_68 {R : Room} {args : Array Value} {s : State} (hz : ∀ w ∈ zw0, w.before args s = true) (hf : rM_facts.frames + 1 ≤ R.frames) (hl : 8 + (3 + 11) + rM_facts.locals ≤ R.locals) : zt_Cw R s args RL 68 yM_facts 3 wM_facts rM_facts 1 := ⟨hf, hl, zc_ws hz kC_M_facts, hz _ kin_ViewChooserModel, hz _ kl_L_68, ⟨by decide +kernel, by decide +kernel⟩, by decide +kernel⟩
theorem wcL_69 {R : Room} {args : Array Value} {s : State} (hz : ∀ w ∈ zw0, w.before args s = true) (hf : rX_views.frames + 1 ≤ R.frames) (hl : 8 + (1 + 11) + rX_views.locals ≤ R.locals) : zt_Cw R s args RL 69 yX_views 1 wX_views rX_views 0 := ⟨hf, hl, zc_ws hz kC_X_views, hz _ kin_ViewChooser, hz _ kl_L_69, ⟨by decide +kernel, by decide +kernel⟩, by decide +kernel⟩
theorem wcL_72 {R : Room} {args : Array Value} {s : State} (hz : ∀ w ∈ zw0, w.before args s = true) (hf : rM_views.frames + 1 ≤ R.frames) (hl : 8 + (1 + 11) + rM_views.locals ≤ R.locals) : zt_Cw R s args RL 72 yM_views 1 wM_views rM_views 0 := ⟨hf, hl, zc_ws hz kC_M_views, hz _ kin_ViewChooserModel, hz _ kl_L_72, ⟨by decide +kernel, by decide +kernel⟩, by decide +kernel⟩
theorem wcL_73 {R : Room} {args : Array Value} {s : State} (hz : ∀ w ∈ zw0, w.before args s = true) (hf : rL_digit.frames + 1 ≤ R.frames) (hl : 8 + (5 + 11) + rL_digit.locals ≤ R.locals) : zt_Cw R s args RL 73 yL_digit 5 wL_digit rL_digit 4 := ⟨hf, hl, zc_ws hz kC_L_digit, hz _ kin_ViewChooserLaw, hz _ kl_L_73, ⟨by decide +kernel, by decide +kernel⟩, by decide +kernel⟩
theorem wcL_76 {R : Room} {args : Array Value} {s : State} (hz : ∀ w ∈ zw0, w.before args s = true) (hf : rM_digit.frames + 1 ≤ R.frames) (hl : 8 + (3 + 11) + rM_digit.locals ≤ R.locals) : zt_Cw R s args RL 76 yM_digit 3 wM_digit rM_digit 2 := ⟨hf, hl, zc_ws hz kC_M_digit, hz _ kin_ViewChooserModel, hz _ kl_L_76, ⟨by decide +kernel, by decide +kernel⟩, by decide +kernel⟩
theorem wcL_77 {R : Room} {args : Array Value} {s : State} (hz : ∀ w ∈ zw0, w.before args s = true) (hf : rL_isAbove.frames + 1 ≤ R.frames) (hl : 8 + (5 + 11) + rL_isAbove.locals ≤ R.locals) : zt_Cw R s args RL 77 yL_isAbove 5 wL_isAbove rL_isAbove 4 := ⟨hf, hl, zc_ws hz kC_L_isAbove, hz _ kin_ViewChooserLaw, hz _ kl_L_77, ⟨by decide +kernel, by decide +kernel⟩, by decide +kernel⟩
theorem wcL_79 {R : Room} {args : Array Value} {s : State} (hz : ∀ w ∈ zw0, w.before args s = true) (hf : rM_isAbove.frames + 1 ≤ R.frames) (hl : 8 + (3 + 11) + rM_isAbove.locals ≤ R.locals) : zt_Cw R s args RL 79 yM_isAbove 3 wM_isAbove rM_isAbove 2 := ⟨hf, hl, zc_ws hz kC_M_isAbove, hz _ kin_ViewChooserModel, hz _ kl_L_79, ⟨by decide +kernel, by decide +kernel⟩, by decide +kernel⟩
theorem wcL_80 {R : Room} {args : Array Value} {s : State} (hz : ∀ w ∈ zw0, w.before args s = true) (hf : rL_told.frames + 1 ≤ R.frames) (hl : 8 + (5 + 11) + rL_told.locals ≤ R.locals) : zt_Cw R s args RL 80 yL_told 5 wL_told rL_told 4 := ⟨hf, hl, zc_ws hz kC_L_told, hz _ kin_ViewChooserLaw, hz _ kl_L_80, ⟨by decide +kernel, by decide +kernel⟩, by decide +kernel⟩
theorem wcL_82 {R : Room} {args : Array Value} {s : State} (hz : ∀ w ∈ zw0, w.before args s = true) (hf : rM_told.frames + 1 ≤ R.frames) (hl : 8 + (3 + 11) + rM_told.locals ≤ R.locals) : zt_Cw R s args RL 82 yM_told 3 wM_told rM_told 2 := ⟨hf, hl, zc_ws hz kC_M_told, hz _ kin_ViewChooserModel, hz _ kl_L_82, ⟨by decide +kernel, by decide +kernel⟩, by decide +kernel⟩
theorem wcL_83 {R : Room} {args : Array Value} {s : State} (hz : ∀ w ∈ zw0, w.before args s = true) (hf : rL_take.frames + 1 ≤ R.frames) (hl : 8 + (4 + 11) + rL_take.locals ≤ R.locals) : zt_Cw R s args RL 83 yL_take 4 wL_take rL_take 3 := ⟨hf, hl, zc_ws hz kC_L_take, hz _ kin_ViewChooserLaw, hz _ kl_L_83, ⟨by decide +kernel, by decide +kernel⟩, by decide +kernel⟩
theorem wcL_85 {R : Room} {args : Array Value} {s : State} (hz : ∀ w ∈ zw0, w.before args s = true) (hf : rM_take.frames + 1 ≤ R.frames) (hl : 8 + (2 + 11) + rM_take.locals ≤ R.locals) : zt_Cw R s args RL 85 yM_take 2 wM_take rM_take 1 := ⟨hf, hl, zc_ws hz kC_M_take, hz _ kin_ViewChooserModel, hz _ kl_L_85, ⟨by decide +kernel, by decide +kernel⟩, by decide +kernel⟩
theorem wcL_86 {R : Room} {args : Array Value} {s : State} (hz : ∀ w ∈ zw0, w.before args s = true) (hf : rL_step.frames + 1 ≤ R.frames) (hl : 8 + (3 + 11) + rL_step.locals ≤ R.locals) : zt_Cw R s args RL 86 yL_step 3 wL_step rL_step 2 := ⟨hf, hl, zc_ws hz kC_L_step, hz _ kin_ViewChooserLaw, hz _ kl_L_86, ⟨by decide +kernel, by decide +kernel⟩, by decide +kernel⟩
theorem wcL_89 {R : Room} {args : Array Value} {s : State} (hz : ∀ w ∈ zw0, w.before args s = true) (hf : rM_step.frames + 1 ≤ R.frames) (hl : 8 + (1 + 11) + rM_step.locals ≤ R.locals) : zt_Cw R s args RL 89 yM_step 1 wM_step rM_step 0 := ⟨hf, hl, zc_ws hz kC_M_step, hz _ kin_ViewChooserModel, hz _ kl_L_89, ⟨by decide +kernel, by decide +kernel⟩, by decide +kernel⟩
theorem wcL_90 {R : Room} {args : Array Value} {s : State} (hz : ∀ w ∈ zw0, w.before args s = true) (hf : rL_choose.frames + 1 ≤ R.frames) (hl : 8 + (4 + 11) + rL_choose.locals ≤ R.locals) : zt_Cw R s args RL 90 yL_choose 4 wL_choose rL_choose 3 := ⟨hf, hl, zc_ws hz kC_L_choose, hz _ kin_ViewChooserLaw, hz _ kl_L_90, ⟨by decide +kernel, by decide +kernel⟩, by decide +kernel⟩
theorem wcL_92 {R : Room} {args : Array Value} {s : State} (hz : ∀ w ∈ zw0, w.before args s = true) (hf : rM_choose.frames + 1 ≤ R.frames) (hl : 8 + (3 + 11) + rM_choose.locals ≤ R.locals) : zt_Cw R s args RL 92 yM_choose 3 wM_choose rM_choose 1 := ⟨hf, hl, zc_ws hz kC_M_choose, hz _ kin_ViewChooserModel, hz _ kl_L_92, ⟨by decide +kernel, by decide +kernel⟩, by decide +kernel⟩
theorem wcL_93 {R : Room} {args : Array Value} {s : State} (hz : ∀ w ∈ zw0, w.before args s = true) (hf : rL_chosen.frames + 1 ≤ R.frames) (hl : 8 + (4 + 11) + rL_chosen.locals ≤ R.locals) : zt_Cw R s args RL 93 yL_chosen 4 wL_chosen rL_chosen 3 := ⟨hf, hl, zc_ws hz kC_L_chosen, hz _ kin_ViewChooserLaw, hz _ kl_L_93, ⟨by decide +kernel, by decide +kernel⟩, by decide +kernel⟩
theorem wcL_95 {R : Room} {args : Array Value} {s : State} (hz : ∀ w ∈ zw0, w.before args s = true) (hf : rM_chosen.frames + 1 ≤ R.frames) (hl : 8 + (2 + 11) + rM_chosen.locals ≤ R.locals) : zt_Cw R s args RL 95 yM_chosen 2 wM_chosen rM_chosen 1 := ⟨hf, hl, zc_ws hz kC_M_chosen, hz _ kin_ViewChooserModel, hz _ kl_L_95, ⟨by decide +kernel, by decide +kernel⟩, by decide +kernel⟩
theorem wcL_96 {R : Room} {args : Array Value} {s : State} (hz : ∀ w ∈ zw0, w.before args s = true) (hf : rX_drop.frames + 1 ≤ R.frames) (hl : 8 + (2 + 11) + rX_drop.locals ≤ R.locals) : zt_Cw R s args RL 96 yX_drop 2 wX_drop rX_drop 0 := ⟨hf, hl, zc_ws hz kC_X_drop, hz _ kin_ViewChooser, hz _ kl_L_96, ⟨by decide +kernel, by decide +kernel⟩, by decide +kernel⟩
theorem wcL_99 {R : Room} {args : Array Value} {s : State} (hz : ∀ w ∈ zw0, w.before args s = true) (hf : rM_drop.frames + 1 ≤ R.frames) (hl : 8 + (2 + 11) + rM_drop.locals ≤ R.locals) : zt_Cw R s args RL 99 yM_drop 2 wM_drop rM_drop 0 := ⟨hf, hl, zc_ws hz kC_M_drop, hz _ kin_ViewChooserModel, hz _ kl_L_99, ⟨by decide +kernel, by decide +kernel⟩, by decide +kernel⟩
theorem wcL_100 {R : Room} {args : Array Value} {s : State} (hz : ∀ w ∈ zw0, w.before args s = true) (hf : rX_total.frames + 1 ≤ R.frames) (hl : 8 + (4 + 11) + rX_total.locals ≤ R.locals) : zt_Cw R s args RL 100 yX_total 4 wX_total rX_total 0 := ⟨hf, hl, zc_ws hz kC_X_total, hz _ kin_ViewChooser, hz _ kl_L_100, ⟨by decide +kernel, by decide +kernel⟩, by decide +kernel⟩
theorem wcL_104 {R : Room} {args : Array Value} {s : State} (hz : ∀ w ∈ zw0, w.before args s = true) (hf : rM_total.frames + 1 ≤ R.frames) (hl : 8 + (4 + 11) + rM_total.locals ≤ R.locals) : zt_Cw R s args RL 104 yM_total 4 wM_total rM_total 0 := ⟨hf, hl, zc_ws hz kC_M_total, hz _ kin_ViewChooserModel, hz _ kl_L_104, ⟨by decide +kernel, by decide +kernel⟩, by decide +kernel⟩
theorem wcM_43 {R : Room} {args : Array Value} {s : State} (hz : ∀ w ∈ zw0, w.before args s = true) (hf : rM_spread.frames + 1 ≤ R.frames) (hl : 8 + (3 + 11) + rM_spread.locals ≤ R.locals) : zt_Cw R s args RM 43 yM_spread 3 wM_spread rM_spread 0 := ⟨hf, hl, zc_ws hz kC_M_spread, hz _ kin_ViewChooserModel, hz _ kl_M_43, ⟨by decide +kernel, by decide +kernel⟩, by decide +kernel⟩
theorem wcM_46 {R : Room} {args : Array Value} {s : State} (hz : ∀ w ∈ zw0, w.before args s = true) (hf : rM_isDimension.frames + 1 ≤ R.frames) (hl : 8 + (2 + 11) + rM_isDimension.locals ≤ R.locals) : zt_Cw R s args RM 46 yM_isDimension 2 wM_isDimension rM_isDimension 1 := ⟨hf, hl, zc_ws hz kC_M_isDimension, hz _ kin_ViewChooserModel, hz _ kl_M_46, ⟨by decide +kernel, by decide +kernel⟩, by decide +kernel⟩
theorem wcM_54 {R : Room} {args : Array Value} {s : State} (hz : ∀ w ∈ zw0, w.before args s = true) (hf : rM_divided.frames + 1 ≤ R.frames) (hl : 8 + (5 + 11) + rM_divided.locals ≤ R.locals) : zt_Cw R s args RM 54 yM_divided 5 wM_divided rM_divided 2 := ⟨hf, hl, zc_ws hz kC_M_divided, hz _ kin_ViewChooserModel, hz _ kl_M_54, ⟨by decide +kernel, by decide +kernel⟩, by decide +kernel⟩
theorem wcM_58 {R : Room} {args : Array Value} {s : State} (hz : ∀ w ∈ zw0, w.before args s = true) (hf : rM_digitOf.frames + 1 ≤ R.frames) (hl : 8 + (3 + 11) + rM_digitOf.locals ≤ R.locals) : zt_Cw R s args RM 58 yM_digitOf 3 wM_digitOf rM_digitOf 2 := ⟨hf, hl, zc_ws hz kC_M_digitOf, hz _ kin_ViewChooserModel, hz _ kl_M_58, ⟨by decide +kernel, by decide +kernel⟩, by decide +kernel⟩
theorem wcM_63 {R : Room} {args : Array Value} {s : State} (hz : ∀ w ∈ zw0, w.before args s = true) (hf : rM_estimateOf.frames + 1 ≤ R.frames) (hl : 8 + (6 + 11) + rM_estimateOf.locals ≤ R.locals) : zt_Cw R s args RM 63 yM_estimateOf 6 wM_estimateOf rM_estimateOf 1 := ⟨hf, hl, zc_ws hz kC_M_estimateOf, hz _ kin_ViewChooserModel, hz _ kl_M_63, ⟨by decide +kernel, by decide +kernel⟩, by decide +kernel⟩
theorem wcM_67 {R : Room} {args : Array Value} {s : State} (hz : ∀ w ∈ zw0, w.before args s = true) (hf : rM_above.frames + 1 ≤ R.frames) (hl : 8 + (5 + 11) + rM_above.locals ≤ R.locals) : zt_Cw R s args RM 67 yM_above 5 wM_above rM_above 2 := ⟨hf, hl, zc_ws hz kC_M_above, hz _ kin_ViewChooserModel, hz _ kl_M_67, ⟨by decide +kernel, by decide +kernel⟩, by decide +kernel⟩
theorem wcM_71 {R : Room} {args : Array Value} {s : State} (hz : ∀ w ∈ zw0, w.before args s = true) (hf : rM_isView.frames + 1 ≤ R.frames) (hl : 8 + (2 + 11) + rM_isView.locals ≤ R.locals) : zt_Cw R s args RM 71 yM_isView 2 wM_isView rM_isView 1 := ⟨hf, hl, zc_ws hz kC_M_isView, hz _ kin_ViewChooserModel, hz _ kl_M_71, ⟨by decide +kernel, by decide +kernel⟩, by decide +kernel⟩
theorem wcM_74 {R : Room} {args : Array Value} {s : State} (hz : ∀ w ∈ zw0, w.before args s = true) (hf : rM_reckon.frames + 1 ≤ R.frames) (hl : 8 + (4 + 11) + rM_reckon.locals ≤ R.locals) : zt_Cw R s args RM 74 yM_reckon 4 wM_reckon rM_reckon 0 := ⟨hf, hl, zc_ws hz kC_M_reckon, hz _ kin_ViewChooserModel, hz _ kl_M_74, ⟨by decide +kernel, by decide +kernel⟩, by decide +kernel⟩
theorem wcM_77 {R : Room} {args : Array Value} {s : State} (hz : ∀ w ∈ zw0, w.before args s = true) (hf : rM_benefitOf.frames + 1 ≤ R.frames) (hl : 8 + (5 + 11) + rM_benefitOf.locals ≤ R.locals) : zt_Cw R s args RM 77 yM_benefitOf 5 wM_benefitOf rM_benefitOf 1 := ⟨hf, hl, zc_ws hz kC_M_benefitOf, hz _ kin_ViewChooserModel, hz _ kl_M_77, ⟨by decide +kernel, by decide +kernel⟩, by decide +kernel⟩
theorem wcM_80 {R : Room} {args : Array Value} {s : State} (hz : ∀ w ∈ zw0, w.before args s = true) (hf : rM_choosesOne.frames + 1 ≤ R.frames) (hl : 8 + (7 + 11) + rM_choosesOne.locals ≤ R.locals) : zt_Cw R s args RM 80 yM_choosesOne 7 wM_choosesOne rM_choosesOne 0 := ⟨hf, hl, zc_ws hz kC_M_choosesOne, hz _ kin_ViewChooserModel, hz _ kl_M_80, ⟨by decide +kernel, by decide +kernel⟩, by decide +kernel⟩
theorem wcX_53 {R : Room} {args : Array Value} {s : State} (hz : ∀ w ∈ zw0, w.before args s = true) (hf : rX_splitViews.frames + 1 ≤ R.frames) (hl : 8 + (6 + 11) + rX_splitViews.locals ≤ R.locals) : zt_Cw R s args RX 53 yX_splitViews 6 wX_splitViews rX_splitViews 2 := ⟨hf, hl, zc_ws hz kC_X_splitViews, hz _ kin_ViewChooser, hz _ kl_X_53, ⟨by decide +kernel, by decide +kernel⟩, by decide +kernel⟩
theorem wcX_57 {R : Room} {args : Array Value} {s : State} (hz : ∀ w ∈ zw0, w.before args s = true) (hf : rX_forgetChosen.frames + 1 ≤ R.frames) (hl : 8 + (1 + 11) + rX_forgetChosen.locals ≤ R.locals) : zt_Cw R s args RX 57 yX_forgetChosen 1 wX_forgetChosen rX_forgetChosen 0 := ⟨hf, hl, zc_ws hz kC_X_forgetChosen, hz _ kin_ViewChooser, hz _ kl_X_57, ⟨by decide +kernel, by decide +kernel⟩, by decide +kernel⟩
theorem wcX_60 {R : Room} {args : Array Value} {s : State} (hz : ∀ w ∈ zw0, w.before args s = true) (hf : rX_checkDimension.frames + 1 ≤ R.frames) (hl : 8 + (2 + 11) + rX_checkDimension.locals ≤ R.locals) : zt_Cw R s args RX 60 yX_checkDimension 2 wX_checkDimension rX_checkDimension 1 := ⟨hf, hl, zc_ws hz kC_X_checkDimension, hz _ kin_ViewChooser, hz _ kl_X_60, ⟨by decide +kernel, by decide +kernel⟩, by decide +kernel⟩
theorem wcX_71 {R : Room} {args : Array Value} {s : State} (hz : ∀ w ∈ zw0, w.before args s = true) (hf : rX_checkView.frames + 1 ≤ R.frames) (hl : 8 + (2 + 11) + rX_checkView.locals ≤ R.locals) : zt_Cw R s args RX 71 yX_checkView 2 wX_checkView rX_checkView 1 := ⟨hf, hl, zc_ws hz kC_X_checkView, hz _ kin_ViewChooser, hz _ kl_X_71, ⟨by decide +kernel, by decide +kernel⟩, by decide +kernel⟩
theorem wcX_74 {R : Room} {args : Array Value} {s : State} (hz : ∀ w ∈ zw0, w.before args s = true) (hf : rX_unpackDigit.frames + 1 ≤ R.frames) (hl : 8 + (2 + 11) + rX_unpackDigit.locals ≤ R.locals) : zt_Cw R s args RX 74 yX_unpackDigit 2 wX_unpackDigit rX_unpackDigit 2 := ⟨hf, hl, zc_ws hz kC_X_unpackDigit, hz _ kin_ViewChooser, hz _ kl_X_74, ⟨by decide +kernel, by decide +kernel⟩, by decide +kernel⟩
theorem wcX_78 {R : Room} {args : Array Value} {s : State} (hz : ∀ w ∈ zw0, w.before args s = true) (hf : rX_isAbovePacked.frames + 1 ≤ R.frames) (hl : 8 + (2 + 11) + rX_isAbovePacked.locals ≤ R.locals) : zt_Cw R s args RX 78 yX_isAbovePacked 2 wX_isAbovePacked rX_isAbovePacked 2 := ⟨hf, hl, zc_ws hz kC_X_isAbovePacked, hz _ kin_ViewChooser, hz _ kl_X_78, ⟨by decide +kernel, by decide +kernel⟩, by decide +kernel⟩
theorem wcX_82 {R : Room} {args : Array Value} {s : State} (hz : ∀ w ∈ zw0, w.before args s = true) (hf : rX_estimateOf.frames + 1 ≤ R.frames) (hl : 8 + (7 + 11) + rX_estimateOf.locals ≤ R.locals) : zt_Cw R s args RX 82 yX_estimateOf 7 wX_estimateOf rX_estimateOf 1 := ⟨hf, hl, zc_ws hz kC_X_estimateOf, hz _ kin_ViewChooser, hz _ kl_X_82, ⟨by decide +kernel, by decide +kernel⟩, by decide +kernel⟩
theorem wcX_86 {R : Room} {args : Array Value} {s : State} (hz : ∀ w ∈ zw0, w.before args s = true) (hf : rX_benefitOf.frames + 1 ≤ R.frames) (hl : 8 + (8 + 11) + rX_benefitOf.locals ≤ R.locals) : zt_Cw R s args RX 86 yX_benefitOf 8 wX_benefitOf rX_benefitOf 1 := ⟨hf, hl, zc_ws hz kC_X_benefitOf, hz _ kin_ViewChooser, hz _ kl_X_86, ⟨by decide +kernel, by decide +kernel⟩, by decide +kernel⟩
theorem wcX_91 {R : Room} {args : Array Value} {s : State} (hz : ∀ w ∈ zw0, w.before args s = true) (hf : rX_checkRoomForChosen.frames + 1 ≤ R.frames) (hl : 8 + (1 + 11) + rX_checkRoomForChosen.locals ≤ R.locals) : zt_Cw R s args RX 91 yX_checkRoomForChosen 1 wX_checkRoomForChosen rX_checkRoomForChosen 0 := ⟨hf, hl, zc_ws hz kC_X_checkRoomForChosen, hz _ kin_ViewChooser, hz _ kl_X_91, ⟨by decide +kernel, by decide +kernel⟩, by decide +kernel⟩
theorem wcX_94 {R : Room} {args : Array Value} {s : State} (hz : ∀ w ∈ zw0, w.before args s = true) (hf : rX_addChosen.frames + 1 ≤ R.frames) (hl : 8 + (6 + 11) + rX_addChosen.locals ≤ R.locals) : zt_Cw R s args RX 94 yX_addChosen 6 wX_addChosen rX_addChosen 1 := ⟨hf, hl, zc_ws hz kC_X_addChosen, hz _ kin_ViewChooser, hz _ kl_X_94, ⟨by decide +kernel, by decide +kernel⟩, by decide +kernel⟩
theorem wcX_97 {R : Room} {args : Array Value} {s : State} (hz : ∀ w ∈ zw0, w.before args s = true) (hf : rX_mostBeneficial.frames + 1 ≤ R.frames) (hl : 8 + (7 + 11) + rX_mostBeneficial.locals ≤ R.locals) : zt_Cw R s args RX 97 yX_mostBeneficial 7 wX_mostBeneficial rX_mostBeneficial 0 := ⟨hf, hl, zc_ws hz kC_X_mostBeneficial, hz _ kin_ViewChooser, hz _ kl_X_97, ⟨by decide +kernel, by decide +kernel⟩, by decide +kernel⟩
theorem wcX_111 {R : Room} {args : Array Value} {s : State} (hz : ∀ w ∈ zw0, w.before args s = true) (hf : rA_fill.frames + 1 ≤ R.frames) (hl : 8 + (5 + 11) + rA_fill.locals ≤ R.locals) : zt_Cw R s args RX 111 yA_fill 5 wA_fill rA_fill 2 := ⟨hf, hl, zc_ws hz kC_A_fill, hz _ kin_Arrays, hz _ kl_X_111, ⟨by decide +kernel, by decide +kernel⟩, by decide +kernel⟩
