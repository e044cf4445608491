theorem wk_o : Cond.code ⟨"java/lang/Object", "<init>", "()V"⟩ ⟨#[0xb1]⟩ 1 none ∈ GW := GW_t1 38 rfl rfl
theorem hk_at {x : Ctx} {k0 l0 a b K M : Nat} (h : xk x = k0 ∧ xl x = l0) (h1 : k0 + a ≤ K) (h2 : l0 + b ≤ M) : xk x + a ≤ K ∧ xl x + b ≤ M := by rw [h.1, h.2]; exact ⟨h1, h2⟩
theorem h0_at {x : Ctx} {k0 l0 a b : Nat} (h : xk x = k0 ∧ xl x = l0) : xk (bump x a b) = k0 + a ∧ xl (bump x a b) = l0 + b := ⟨congrArg (· + a) h.1, congrArg (· + b) h.2⟩
theorem fr_X10_9_9 : FR RX10 9 9 0 := ⟨_, _, _, tyX10, (.array .byte), cl_X10, by decide, rfl, ⟨"DryDock$Tape", wk_45, Or.inl rfl⟩, tyX10_ok, nmX10, rfl, rfl, by decide +kernel, fun _ => ⟨rfl, rfl⟩⟩
theorem fr_X4_11_4 : FR RX4 11 4 2 := ⟨_, _, _, tyX4, (.array .int), cl_X4, by decide, rfl, ⟨"DryDock$Log", wk_73, Or.inl rfl⟩, tyX4_ok, nmX4, rfl, rfl, by decide +kernel, fun _ => ⟨rfl, rfl⟩⟩
theorem fpc_X9_9_8 : FP RX9 9 8 0 .int := ⟨_, _, _, tyX9, cl_X9, by decide, rfl, ⟨"DryDock$State", wk_82, Or.inl rfl⟩, tyX9_ok, nmX9, rfl, by decide +kernel⟩
theorem fpc_X9_15_8 : FP RX9 15 8 2 .int := ⟨_, _, _, tyX9, cl_X9, by decide, rfl, ⟨"DryDock$State", wk_91, Or.inl rfl⟩, tyX9_ok, nmX9, rfl, by decide +kernel⟩
theorem fpc_X9_18_8 : FP RX9 18 8 3 .int := ⟨_, _, _, tyX9, cl_X9, by decide, rfl, ⟨"DryDock$State", wk_94, Or.inl rfl⟩, tyX9_ok, nmX9, rfl, by decide +kernel⟩
theorem fpc_X9_21_8 : FP RX9 21 8 6 .int := ⟨_, _, _, tyX9, cl_X9, by decide, rfl, ⟨"DryDock$State", wk_103, Or.inl rfl⟩, tyX9_ok, nmX9, rfl, by decide +kernel⟩
theorem fpc_X9_24_8 : FP RX9 24 8 11 .boolean := ⟨_, _, _, tyX9, cl_X9, by decide, rfl, ⟨"DryDock$State", wk_117, Or.inl rfl⟩, tyX9_ok, nmX9, rfl, by decide +kernel⟩
theorem fr_X9_28_8 : FR RX9 28 8 12 := ⟨_, _, _, tyX9, (.array .int), cl_X9, by decide, rfl, ⟨"DryDock$State", wk_121, Or.inl rfl⟩, tyX9_ok, nmX9, rfl, rfl, by decide +kernel, fun _ => ⟨rfl, rfl⟩⟩
theorem fr_X9_32_8 : FR RX9 32 8 13 := ⟨_, _, _, tyX9, (.array .int), cl_X9, by decide, rfl, ⟨"DryDock$State", wk_125, Or.inl rfl⟩, tyX9_ok, nmX9, rfl, rfl, by decide +kernel, fun _ => ⟨rfl, rfl⟩⟩
theorem fr_X9_35_8 : FR RX9 35 8 14 := ⟨_, _, _, tyX9, (.array .int), cl_X9, by decide, rfl, ⟨"DryDock$State", wk_129, Or.inl rfl⟩, tyX9_ok, nmX9, rfl, rfl, by decide +kernel, fun _ => ⟨rfl, rfl⟩⟩
theorem fr_X9_38_8 : FR RX9 38 8 15 := ⟨_, _, _, tyX9, (.array .int), cl_X9, by decide, rfl, ⟨"DryDock$State", wk_133, Or.inl rfl⟩, tyX9_ok, nmX9, rfl, rfl, by decide +kernel, fun _ => ⟨rfl, rfl⟩⟩
theorem fr_X9_41_8 : FR RX9 41 8 16 := ⟨_, _, _, tyX9, (.array .int), cl_X9, by decide, rfl, ⟨"DryDock$State", wk_137, Or.inl rfl⟩, tyX9_ok, nmX9, rfl, rfl, by decide +kernel, fun _ => ⟨rfl, rfl⟩⟩
theorem fr_X9_44_8 : FR RX9 44 8 17 := ⟨_, _, _, tyX9, (.array .int), cl_X9, by decide, rfl, ⟨"DryDock$State", wk_140, Or.inl rfl⟩, tyX9_ok, nmX9, rfl, rfl, by decide +kernel, fun _ => ⟨rfl, rfl⟩⟩
theorem df_X4 : ∀ j, j < 3 → defaultValue (tyX4 j) = vp_V (dfl (fty 4)) j := fun j hj => match j, hj with
  | 0, _ => rfl
  | 1, _ => rfl
  | 2, _ => rfl
  | k + 3, hk => absurd hk (by omega)
theorem cn_X9_47 : CN RX9 47 4 3 := ⟨_, _, tyX4, cl_X4, tyX4_ok, df_X4, wk_64, wk_65, wk_4⟩
theorem lin_X9_49 : LIN RX9 49 "DryDock" yX4_init cX4_init 1 0 := ⟨⟨List.mem_of_getElem? (i := 2) rfl, wk_67, wk_4, wk_68⟩, rfl, ⟨by decide, by decide, by decide +kernel⟩⟩
theorem fr_X9_50_8 : FR RX9 50 8 18 := ⟨_, _, _, tyX9, (.object "DryDock$Log"), cl_X9, by decide, rfl, ⟨"DryDock$State", wk_142, Or.inl rfl⟩, tyX9_ok, nmX9, rfl, rfl, by decide +kernel, fun _ => ⟨rfl, rfl⟩⟩
theorem fpc_X2_9_2 : FP RX2 9 2 0 .int := ⟨_, _, _, tyX2, cl_X2, by decide, rfl, ⟨"DryDock$Law", wk_189, Or.inl rfl⟩, tyX2_ok, nmX2, rfl, by decide +kernel⟩
theorem fr_X2_15_2 : FR RX2 15 2 2 := ⟨_, _, _, tyX2, (.array .int), cl_X2, by decide, rfl, ⟨"DryDock$Law", wk_192, Or.inl rfl⟩, tyX2_ok, nmX2, rfl, rfl, by decide +kernel, fun _ => ⟨rfl, rfl⟩⟩
theorem fr_X2_19_2 : FR RX2 19 2 3 := ⟨_, _, _, tyX2, (.array .int), cl_X2, by decide, rfl, ⟨"DryDock$Law", wk_193, Or.inl rfl⟩, tyX2_ok, nmX2, rfl, rfl, by decide +kernel, fun _ => ⟨rfl, rfl⟩⟩
theorem fr_X2_22_2 : FR RX2 22 2 4 := ⟨_, _, _, tyX2, (.array .int), cl_X2, by decide, rfl, ⟨"DryDock$Law", wk_194, Or.inl rfl⟩, tyX2_ok, nmX2, rfl, rfl, by decide +kernel, fun _ => ⟨rfl, rfl⟩⟩
theorem fr_X2_25_2 : FR RX2 25 2 5 := ⟨_, _, _, tyX2, (.array .int), cl_X2, by decide, rfl, ⟨"DryDock$Law", wk_195, Or.inl rfl⟩, tyX2_ok, nmX2, rfl, rfl, by decide +kernel, fun _ => ⟨rfl, rfl⟩⟩
theorem fr_X2_28_2 : FR RX2 28 2 6 := ⟨_, _, _, tyX2, (.array .int), cl_X2, by decide, rfl, ⟨"DryDock$Law", wk_196, Or.inl rfl⟩, tyX2_ok, nmX2, rfl, rfl, by decide +kernel, fun _ => ⟨rfl, rfl⟩⟩
theorem fr_X7_9_1 : FR RX7 9 1 4 := ⟨_, _, _, tyX1, (.array .int), cl_X1, by decide, rfl, ⟨"DryDock$Reader", wk_234, Or.inl rfl⟩, tyX1_ok, nmX1, rfl, rfl, by decide +kernel, fun _ => ⟨rfl, rfl⟩⟩
theorem fr_X7_15_1 : FR RX7 15 1 5 := ⟨_, _, _, tyX1, (.array .int), cl_X1, by decide, rfl, ⟨"DryDock$Reader", wk_235, Or.inl rfl⟩, tyX1_ok, nmX1, rfl, rfl, by decide +kernel, fun _ => ⟨rfl, rfl⟩⟩
theorem fr_X7_18_1 : FR RX7 18 1 6 := ⟨_, _, _, tyX1, (.array .int), cl_X1, by decide, rfl, ⟨"DryDock$Reader", wk_236, Or.inl rfl⟩, tyX1_ok, nmX1, rfl, rfl, by decide +kernel, fun _ => ⟨rfl, rfl⟩⟩
theorem fr_X7_21_1 : FR RX7 21 1 0 := ⟨_, _, _, tyX1, (.object "DryDock$Tape"), cl_X1, by decide, rfl, ⟨"DryDock$Reader", wk_222, Or.inl rfl⟩, tyX1_ok, nmX1, rfl, rfl, by decide +kernel, fun _ => ⟨rfl, rfl⟩⟩
theorem fr_X7_9_3 : FR RX7 9 3 4 := ⟨_, _, _, tyX3, (.array .int), cl_X3, by decide, rfl, ⟨"DryDock$Reader", wk_234, Or.inl rfl⟩, tyX3_ok, nmX3, rfl, rfl, by decide +kernel, fun _ => ⟨rfl, rfl⟩⟩
theorem fr_X7_15_3 : FR RX7 15 3 5 := ⟨_, _, _, tyX3, (.array .int), cl_X3, by decide, rfl, ⟨"DryDock$Reader", wk_235, Or.inl rfl⟩, tyX3_ok, nmX3, rfl, rfl, by decide +kernel, fun _ => ⟨rfl, rfl⟩⟩
theorem fr_X7_18_3 : FR RX7 18 3 6 := ⟨_, _, _, tyX3, (.array .int), cl_X3, by decide, rfl, ⟨"DryDock$Reader", wk_236, Or.inl rfl⟩, tyX3_ok, nmX3, rfl, rfl, by decide +kernel, fun _ => ⟨rfl, rfl⟩⟩
theorem fr_X7_21_3 : FR RX7 21 3 0 := ⟨_, _, _, tyX3, (.object "DryDock$Tape"), cl_X3, by decide, rfl, ⟨"DryDock$Reader", wk_222, Or.inl rfl⟩, tyX3_ok, nmX3, rfl, rfl, by decide +kernel, fun _ => ⟨rfl, rfl⟩⟩
theorem li_X1_3 : LI RX1 3 yX7_init cX7_init 2 1 := ⟨⟨wk_217, wk_218, wk_6, wk_219⟩, rfl, ⟨by decide, by decide, by decide +kernel⟩⟩
theorem fr_X1_9_1 : FR RX1 9 1 7 := ⟨_, _, _, tyX1, (.object "DryDock$State"), cl_X1, by decide, rfl, ⟨"DryDock$DockReader", wk_221, Or.inl rfl⟩, tyX1_ok, nmX1, rfl, rfl, by decide +kernel, fun _ => ⟨rfl, rfl⟩⟩
theorem li_X3_3 : LI RX3 3 yX7_init cX7_init 2 1 := ⟨⟨wk_259, wk_218, wk_6, wk_219⟩, rfl, ⟨by decide, by decide, by decide +kernel⟩⟩
theorem fr_X3_9_3 : FR RX3 9 3 7 := ⟨_, _, _, tyX3, (.object "DryDock$Law"), cl_X3, by decide, rfl, ⟨"DryDock$LawReader", wk_260, Or.inl rfl⟩, tyX3_ok, nmX3, rfl, rfl, by decide +kernel, fun _ => ⟨rfl, rfl⟩⟩
theorem fr_X5_11_5 : FR RX5 11 5 2 := ⟨_, _, _, tyX5, (.array (.object "DryDock$State")), cl_X5, by decide, rfl, ⟨"DryDock$Past", wk_283, Or.inl rfl⟩, tyX5_ok, nmX5, rfl, rfl, by decide +kernel, fun _ => ⟨rfl, rfl⟩⟩
theorem df_X9 : ∀ j, j < 19 → defaultValue (tyX9 j) = vp_V (dfl (fty 8)) j := fun j hj => match j, hj with
  | 0, _ => rfl
  | 1, _ => rfl
  | 2, _ => rfl
  | 3, _ => rfl
  | 4, _ => rfl
  | 5, _ => rfl
  | 6, _ => rfl
  | 7, _ => rfl
  | 8, _ => rfl
  | 9, _ => rfl
  | 10, _ => rfl
  | 11, _ => rfl
  | 12, _ => rfl
  | 13, _ => rfl
  | 14, _ => rfl
  | 15, _ => rfl
  | 16, _ => rfl
  | 17, _ => rfl
  | 18, _ => rfl
  | k + 19, hk => absurd hk (by omega)
theorem cn_X5_9 : CN RX5 9 8 19 := ⟨_, _, tyX9, cl_X9, tyX9_ok, df_X9, wk_277, wk_59, wk_3⟩
theorem lin_X5_17 : LIN RX5 17 "DryDock" yX9_init cX9_init 1 0 := ⟨⟨List.mem_of_getElem? (i := 4) rfl, wk_61, wk_3, wk_62⟩, rfl, ⟨by decide, by decide, by decide +kernel⟩⟩
theorem fr_X0_9_0 : FR RX0 9 0 3 := ⟨_, _, _, tyX0, (.array .int), cl_X0, by decide, rfl, ⟨"DryDock$Curves", wk_302, Or.inl rfl⟩, tyX0_ok, nmX0, rfl, rfl, by decide +kernel, fun _ => ⟨rfl, rfl⟩⟩
theorem fr_X0_15_0 : FR RX0 15 0 4 := ⟨_, _, _, tyX0, (.array .int), cl_X0, by decide, rfl, ⟨"DryDock$Curves", wk_303, Or.inl rfl⟩, tyX0_ok, nmX0, rfl, rfl, by decide +kernel, fun _ => ⟨rfl, rfl⟩⟩
theorem fr_X0_18_0 : FR RX0 18 0 5 := ⟨_, _, _, tyX0, (.array .int), cl_X0, by decide, rfl, ⟨"DryDock$Curves", wk_304, Or.inl rfl⟩, tyX0_ok, nmX0, rfl, rfl, by decide +kernel, fun _ => ⟨rfl, rfl⟩⟩
theorem fr_X0_21_0 : FR RX0 21 0 6 := ⟨_, _, _, tyX0, (.array .int), cl_X0, by decide, rfl, ⟨"DryDock$Curves", wk_305, Or.inl rfl⟩, tyX0_ok, nmX0, rfl, rfl, by decide +kernel, fun _ => ⟨rfl, rfl⟩⟩
theorem fr_X8_9_7 : FR RX8 9 7 4 := ⟨_, _, _, tyX8, (.array .int), cl_X8, by decide, rfl, ⟨"DryDock$Soundings", wk_333, Or.inl rfl⟩, tyX8_ok, nmX8, rfl, rfl, by decide +kernel, fun _ => ⟨rfl, rfl⟩⟩
theorem fr_X8_15_7 : FR RX8 15 7 5 := ⟨_, _, _, tyX8, (.array .boolean), cl_X8, by decide, rfl, ⟨"DryDock$Soundings", wk_334, Or.inl rfl⟩, tyX8_ok, nmX8, rfl, rfl, by decide +kernel, fun _ => ⟨rfl, rfl⟩⟩
theorem fr_X8_19_7 : FR RX8 19 7 6 := ⟨_, _, _, tyX8, (.array .int), cl_X8, by decide, rfl, ⟨"DryDock$Soundings", wk_335, Or.inl rfl⟩, tyX8_ok, nmX8, rfl, rfl, by decide +kernel, fun _ => ⟨rfl, rfl⟩⟩
theorem fr_X6_9_6 : FR RX6 9 6 2 := ⟨_, _, _, tyX6, (.array .int), cl_X6, by decide, rfl, ⟨"DryDock$Plans", wk_362, Or.inl rfl⟩, tyX6_ok, nmX6, rfl, rfl, by decide +kernel, fun _ => ⟨rfl, rfl⟩⟩
theorem fr_X6_15_6 : FR RX6 15 6 4 := ⟨_, _, _, tyX6, (.array .int), cl_X6, by decide, rfl, ⟨"DryDock$Plans", wk_365, Or.inl rfl⟩, tyX6_ok, nmX6, rfl, rfl, by decide +kernel, fun _ => ⟨rfl, rfl⟩⟩
theorem fr_X6_18_6 : FR RX6 18 6 5 := ⟨_, _, _, tyX6, (.array .int), cl_X6, by decide, rfl, ⟨"DryDock$Plans", wk_366, Or.inl rfl⟩, tyX6_ok, nmX6, rfl, rfl, by decide +kernel, fun _ => ⟨rfl, rfl⟩⟩
theorem fr_X6_21_6 : FR RX6 21 6 6 := ⟨_, _, _, tyX6, (.array .int), cl_X6, by decide, rfl, ⟨"DryDock$Plans", wk_367, Or.inl rfl⟩, tyX6_ok, nmX6, rfl, rfl, by decide +kernel, fun _ => ⟨rfl, rfl⟩⟩
theorem fr_X6_24_6 : FR RX6 24 6 7 := ⟨_, _, _, tyX6, (.array .int), cl_X6, by decide, rfl, ⟨"DryDock$Plans", wk_368, Or.inl rfl⟩, tyX6_ok, nmX6, rfl, rfl, by decide +kernel, fun _ => ⟨rfl, rfl⟩⟩
theorem df_X10 : ∀ j, j < 2 → defaultValue (tyX10 j) = vp_V (dfl (fty 9)) j := fun j hj => match j, hj with
  | 0, _ => rfl
  | 1, _ => rfl
  | k + 2, hk => absurd hk (by omega)
theorem cn_X11_7 : CN RX11 7 9 2 := ⟨_, _, tyX10, cl_X10, tyX10_ok, df_X10, wk_39, wk_40, wk_2⟩
theorem lin_X11_9 : LIN RX11 9 "DryDock" yX10_init cX10_init 1 0 := ⟨⟨List.mem_of_getElem? (i := 0) rfl, wk_42, wk_2, wk_43⟩, rfl, ⟨by decide, by decide, by decide +kernel⟩⟩
theorem fr_X11_10_10 : FR RX11 10 10 0 := ⟨_, _, _, tyX11, (.object "DryDock$Tape"), cl_X11, by decide, rfl, ⟨"DryDock", wk_386, Or.inl rfl⟩, tyX11_ok, nmX11, rfl, rfl, by decide +kernel, fun _ => ⟨rfl, rfl⟩⟩
theorem cn_X11_16 : CN RX11 16 8 19 := ⟨_, _, tyX9, cl_X9, tyX9_ok, df_X9, wk_58, wk_59, wk_3⟩
theorem lin_X11_18 : LIN RX11 18 "DryDock" yX9_init cX9_init 1 0 := ⟨⟨List.mem_of_getElem? (i := 1) rfl, wk_61, wk_3, wk_62⟩, rfl, ⟨by decide, by decide, by decide +kernel⟩⟩
theorem fr_X11_19_10 : FR RX11 19 10 1 := ⟨_, _, _, tyX11, (.object "DryDock$State"), cl_X11, by decide, rfl, ⟨"DryDock", wk_387, Or.inl rfl⟩, tyX11_ok, nmX11, rfl, rfl, by decide +kernel, fun _ => ⟨rfl, rfl⟩⟩
theorem fr_X11_23_10 : FR RX11 23 10 2 := ⟨_, _, _, tyX11, (.object "DryDock$State"), cl_X11, by decide, rfl, ⟨"DryDock", wk_388, Or.inl rfl⟩, tyX11_ok, nmX11, rfl, rfl, by decide +kernel, fun _ => ⟨rfl, rfl⟩⟩
theorem fr_X11_26_10 : FR RX11 26 10 3 := ⟨_, _, _, tyX11, (.object "DryDock$State"), cl_X11, by decide, rfl, ⟨"DryDock", wk_389, Or.inl rfl⟩, tyX11_ok, nmX11, rfl, rfl, by decide +kernel, fun _ => ⟨rfl, rfl⟩⟩
theorem df_X2 : ∀ j, j < 7 → defaultValue (tyX2 j) = vp_V (dfl (fty 2)) j := fun j hj => match j, hj with
  | 0, _ => rfl
  | 1, _ => rfl
  | 2, _ => rfl
  | 3, _ => rfl
  | 4, _ => rfl
  | 5, _ => rfl
  | 6, _ => rfl
  | k + 7, hk => absurd hk (by omega)
theorem cn_X11_29 : CN RX11 29 2 7 := ⟨_, _, tyX2, cl_X2, tyX2_ok, df_X2, wk_183, wk_184, wk_5⟩
theorem lin_X11_31 : LIN RX11 31 "DryDock" yX2_init cX2_init 1 0 := ⟨⟨List.mem_of_getElem? (i := 3) rfl, wk_186, wk_5, wk_187⟩, rfl, ⟨by decide, by decide, by decide +kernel⟩⟩
theorem fr_X11_32_10 : FR RX11 32 10 4 := ⟨_, _, _, tyX11, (.object "DryDock$Law"), cl_X11, by decide, rfl, ⟨"DryDock", wk_390, Or.inl rfl⟩, tyX11_ok, nmX11, rfl, rfl, by decide +kernel, fun _ => ⟨rfl, rfl⟩⟩
theorem fr_X11_36_10 : FR RX11 36 10 5 := ⟨_, _, _, tyX11, (.object "DryDock$Law"), cl_X11, by decide, rfl, ⟨"DryDock", wk_391, Or.inl rfl⟩, tyX11_ok, nmX11, rfl, rfl, by decide +kernel, fun _ => ⟨rfl, rfl⟩⟩
theorem fr_X11_39_10 : FR RX11 39 10 6 := ⟨_, _, _, tyX11, (.object "DryDock$Law"), cl_X11, by decide, rfl, ⟨"DryDock", wk_392, Or.inl rfl⟩, tyX11_ok, nmX11, rfl, rfl, by decide +kernel, fun _ => ⟨rfl, rfl⟩⟩
theorem df_X1 : ∀ j, j < 8 → defaultValue (tyX1 j) = vp_V (dfl (fty 1)) j := fun j hj => match j, hj with
  | 0, _ => rfl
  | 1, _ => rfl
  | 2, _ => rfl
  | 3, _ => rfl
  | 4, _ => rfl
  | 5, _ => rfl
  | 6, _ => rfl
  | 7, _ => rfl
  | k + 8, hk => absurd hk (by omega)
theorem cn_X11_42 : CN RX11 42 1 8 := ⟨_, _, tyX1, cl_X1, tyX1_ok, df_X1, wk_212, wk_213, wk_7⟩
theorem li_X11_44 : LI RX11 44 yX1_init cX1_init 3 2 := ⟨⟨wk_214, wk_215, wk_7, wk_216⟩, rfl, ⟨by decide, by decide, by decide +kernel⟩⟩
theorem fr_X11_47_10 : FR RX11 47 10 7 := ⟨_, _, _, tyX11, (.object "DryDock$DockReader"), cl_X11, by decide, rfl, ⟨"DryDock", wk_393, Or.inl rfl⟩, tyX11_ok, nmX11, rfl, rfl, by decide +kernel, fun _ => ⟨rfl, rfl⟩⟩
theorem df_X3 : ∀ j, j < 8 → defaultValue (tyX3 j) = vp_V (dfl (fty 3)) j := fun j hj => match j, hj with
  | 0, _ => rfl
  | 1, _ => rfl
  | 2, _ => rfl
  | 3, _ => rfl
  | 4, _ => rfl
  | 5, _ => rfl
  | 6, _ => rfl
  | 7, _ => rfl
  | k + 8, hk => absurd hk (by omega)
theorem cn_X11_51 : CN RX11 51 3 8 := ⟨_, _, tyX3, cl_X3, tyX3_ok, df_X3, wk_254, wk_255, wk_8⟩
theorem li_X11_53 : LI RX11 53 yX3_init cX3_init 3 2 := ⟨⟨wk_256, wk_257, wk_8, wk_258⟩, rfl, ⟨by decide, by decide, by decide +kernel⟩⟩
theorem fr_X11_56_10 : FR RX11 56 10 8 := ⟨_, _, _, tyX11, (.object "DryDock$LawReader"), cl_X11, by decide, rfl, ⟨"DryDock", wk_394, Or.inl rfl⟩, tyX11_ok, nmX11, rfl, rfl, by decide +kernel, fun _ => ⟨rfl, rfl⟩⟩
theorem df_X5 : ∀ j, j < 3 → defaultValue (tyX5 j) = vp_V (dfl (fty 5)) j := fun j hj => match j, hj with
  | 0, _ => rfl
  | 1, _ => rfl
  | 2, _ => rfl
  | k + 3, hk => absurd hk (by omega)
theorem cn_X11_60 : CN RX11 60 5 3 := ⟨_, _, tyX5, cl_X5, tyX5_ok, df_X5, wk_271, wk_272, wk_9⟩
theorem li_X11_62 : LI RX11 62 yX5_init cX5_init 2 0 := ⟨⟨wk_273, wk_274, wk_9, wk_275⟩, rfl, ⟨by decide, by decide, by decide +kernel⟩⟩
theorem fr_X11_63_10 : FR RX11 63 10 9 := ⟨_, _, _, tyX11, (.object "DryDock$Past"), cl_X11, by decide, rfl, ⟨"DryDock", wk_395, Or.inl rfl⟩, tyX11_ok, nmX11, rfl, rfl, by decide +kernel, fun _ => ⟨rfl, rfl⟩⟩
theorem df_X0 : ∀ j, j < 7 → defaultValue (tyX0 j) = vp_V (dfl (fty 0)) j := fun j hj => match j, hj with
  | 0, _ => rfl
  | 1, _ => rfl
  | 2, _ => rfl
  | 3, _ => rfl
  | 4, _ => rfl
  | 5, _ => rfl
  | 6, _ => rfl
  | k + 7, hk => absurd hk (by omega)
theorem cn_X11_67 : CN RX11 67 0 7 := ⟨_, _, tyX0, cl_X0, tyX0_ok, df_X0, wk_291, wk_292, wk_10⟩
theorem lin_X11_69 : LIN RX11 69 "DryDock" yX0_init cX0_init 1 0 := ⟨⟨List.mem_of_getElem? (i := 5) rfl, wk_294, wk_10, wk_295⟩, rfl, ⟨by decide, by decide, by decide +kernel⟩⟩
theorem fr_X11_70_10 : FR RX11 70 10 10 := ⟨_, _, _, tyX11, (.object "DryDock$Curves"), cl_X11, by decide, rfl, ⟨"DryDock", wk_396, Or.inl rfl⟩, tyX11_ok, nmX11, rfl, rfl, by decide +kernel, fun _ => ⟨rfl, rfl⟩⟩
theorem df_X8 : ∀ j, j < 7 → defaultValue (tyX8 j) = vp_V (dfl (fty 7)) j := fun j hj => match j, hj with
  | 0, _ => rfl
  | 1, _ => rfl
  | 2, _ => rfl
  | 3, _ => rfl
  | 4, _ => rfl
  | 5, _ => rfl
  | 6, _ => rfl
  | k + 7, hk => absurd hk (by omega)
theorem cn_X11_74 : CN RX11 74 7 7 := ⟨_, _, tyX8, cl_X8, tyX8_ok, df_X8, wk_321, wk_322, wk_11⟩
theorem lin_X11_76 : LIN RX11 76 "DryDock" yX8_init cX8_init 1 0 := ⟨⟨List.mem_of_getElem? (i := 6) rfl, wk_324, wk_11, wk_325⟩, rfl, ⟨by decide, by decide, by decide +kernel⟩⟩
theorem fr_X11_77_10 : FR RX11 77 10 11 := ⟨_, _, _, tyX11, (.object "DryDock$Soundings"), cl_X11, by decide, rfl, ⟨"DryDock", wk_397, Or.inl rfl⟩, tyX11_ok, nmX11, rfl, rfl, by decide +kernel, fun _ => ⟨rfl, rfl⟩⟩
theorem df_X6 : ∀ j, j < 8 → defaultValue (tyX6 j) = vp_V (dfl (fty 6)) j := fun j hj => match j, hj with
  | 0, _ => rfl
  | 1, _ => rfl
  | 2, _ => rfl
  | 3, _ => rfl
  | 4, _ => rfl
  | 5, _ => rfl
  | 6, _ => rfl
  | 7, _ => rfl
  | k + 8, hk => absurd hk (by omega)
theorem cn_X11_81 : CN RX11 81 6 8 := ⟨_, _, tyX6, cl_X6, tyX6_ok, df_X6, wk_352, wk_353, wk_12⟩
theorem lin_X11_83 : LIN RX11 83 "DryDock" yX6_init cX6_init 1 0 := ⟨⟨List.mem_of_getElem? (i := 7) rfl, wk_355, wk_12, wk_356⟩, rfl, ⟨by decide, by decide, by decide +kernel⟩⟩
theorem fr_X11_84_10 : FR RX11 84 10 12 := ⟨_, _, _, tyX11, (.object "DryDock$Plans"), cl_X11, by decide, rfl, ⟨"DryDock", wk_398, Or.inl rfl⟩, tyX11_ok, nmX11, rfl, rfl, by decide +kernel, fun _ => ⟨rfl, rfl⟩⟩
theorem fpc_X11_88_10 : FP RX11 88 10 14 .int := ⟨_, _, _, tyX11, cl_X11, by decide, rfl, ⟨"DryDock", wk_400, Or.inl rfl⟩, tyX11_ok, nmX11, rfl, by decide +kernel⟩
theorem fr_X12_13_11 : FR RX12 13 11 1 := ⟨_, _, _, tyX12, (.array .int), cl_X12, by decide, rfl, ⟨"DryDockModel", wk_1547, Or.inl rfl⟩, tyX12_ok, nmX12, rfl, rfl, by decide +kernel, fun _ => ⟨rfl, rfl⟩⟩
theorem fr_X12_17_11 : FR RX12 17 11 2 := ⟨_, _, _, tyX12, (.array .int), cl_X12, by decide, rfl, ⟨"DryDockModel", wk_1548, Or.inl rfl⟩, tyX12_ok, nmX12, rfl, rfl, by decide +kernel, fun _ => ⟨rfl, rfl⟩⟩
theorem fr_X12_20_11 : FR RX12 20 11 3 := ⟨_, _, _, tyX12, (.array .int), cl_X12, by decide, rfl, ⟨"DryDockModel", wk_1549, Or.inl rfl⟩, tyX12_ok, nmX12, rfl, rfl, by decide +kernel, fun _ => ⟨rfl, rfl⟩⟩
theorem fr_X12_23_11 : FR RX12 23 11 4 := ⟨_, _, _, tyX12, (.array .int), cl_X12, by decide, rfl, ⟨"DryDockModel", wk_1550, Or.inl rfl⟩, tyX12_ok, nmX12, rfl, rfl, by decide +kernel, fun _ => ⟨rfl, rfl⟩⟩
theorem fr_X12_26_11 : FR RX12 26 11 5 := ⟨_, _, _, tyX12, (.array .int), cl_X12, by decide, rfl, ⟨"DryDockModel", wk_1551, Or.inl rfl⟩, tyX12_ok, nmX12, rfl, rfl, by decide +kernel, fun _ => ⟨rfl, rfl⟩⟩
theorem fr_X12_29_11 : FR RX12 29 11 8 := ⟨_, _, _, tyX12, (.array .byte), cl_X12, by decide, rfl, ⟨"DryDockModel", wk_1554, Or.inl rfl⟩, tyX12_ok, nmX12, rfl, rfl, by decide +kernel, fun _ => ⟨rfl, rfl⟩⟩
theorem fpc_X12_33_11 : FP RX12 33 11 14 .int := ⟨_, _, _, tyX12, cl_X12, by decide, rfl, ⟨"DryDockModel", wk_1560, Or.inl rfl⟩, tyX12_ok, nmX12, rfl, by decide +kernel⟩
theorem fr_X12_36_11 : FR RX12 36 11 15 := ⟨_, _, _, tyX12, (.array .int), cl_X12, by decide, rfl, ⟨"DryDockModel", wk_1561, Or.inl rfl⟩, tyX12_ok, nmX12, rfl, rfl, by decide +kernel, fun _ => ⟨rfl, rfl⟩⟩
theorem fr_X12_39_11 : FR RX12 39 11 17 := ⟨_, _, _, tyX12, (.array .int), cl_X12, by decide, rfl, ⟨"DryDockModel", wk_1563, Or.inl rfl⟩, tyX12_ok, nmX12, rfl, rfl, by decide +kernel, fun _ => ⟨rfl, rfl⟩⟩
theorem fr_X12_42_11 : FR RX12 42 11 18 := ⟨_, _, _, tyX12, (.array .int), cl_X12, by decide, rfl, ⟨"DryDockModel", wk_1564, Or.inl rfl⟩, tyX12_ok, nmX12, rfl, rfl, by decide +kernel, fun _ => ⟨rfl, rfl⟩⟩
theorem fr_X12_45_11 : FR RX12 45 11 19 := ⟨_, _, _, tyX12, (.array .int), cl_X12, by decide, rfl, ⟨"DryDockModel", wk_1565, Or.inl rfl⟩, tyX12_ok, nmX12, rfl, rfl, by decide +kernel, fun _ => ⟨rfl, rfl⟩⟩
theorem fr_X12_48_11 : FR RX12 48 11 20 := ⟨_, _, _, tyX12, (.array .int), cl_X12, by decide, rfl, ⟨"DryDockModel", wk_1566, Or.inl rfl⟩, tyX12_ok, nmX12, rfl, rfl, by decide +kernel, fun _ => ⟨rfl, rfl⟩⟩
theorem fr_X12_51_11 : FR RX12 51 11 21 := ⟨_, _, _, tyX12, (.array .int), cl_X12, by decide, rfl, ⟨"DryDockModel", wk_1567, Or.inl rfl⟩, tyX12_ok, nmX12, rfl, rfl, by decide +kernel, fun _ => ⟨rfl, rfl⟩⟩
theorem fr_X12_54_11 : FR RX12 54 11 22 := ⟨_, _, _, tyX12, (.array .boolean), cl_X12, by decide, rfl, ⟨"DryDockModel", wk_1568, Or.inl rfl⟩, tyX12_ok, nmX12, rfl, rfl, by decide +kernel, fun _ => ⟨rfl, rfl⟩⟩
theorem fr_X12_58_11 : FR RX12 58 11 23 := ⟨_, _, _, tyX12, (.array .int), cl_X12, by decide, rfl, ⟨"DryDockModel", wk_1569, Or.inl rfl⟩, tyX12_ok, nmX12, rfl, rfl, by decide +kernel, fun _ => ⟨rfl, rfl⟩⟩
theorem fr_X12_61_11 : FR RX12 61 11 24 := ⟨_, _, _, tyX12, (.array .int), cl_X12, by decide, rfl, ⟨"DryDockModel", wk_1570, Or.inl rfl⟩, tyX12_ok, nmX12, rfl, rfl, by decide +kernel, fun _ => ⟨rfl, rfl⟩⟩
theorem fr_X12_64_11 : FR RX12 64 11 25 := ⟨_, _, _, tyX12, (.array .int), cl_X12, by decide, rfl, ⟨"DryDockModel", wk_1571, Or.inl rfl⟩, tyX12_ok, nmX12, rfl, rfl, by decide +kernel, fun _ => ⟨rfl, rfl⟩⟩
theorem fr_X12_67_11 : FR RX12 67 11 26 := ⟨_, _, _, tyX12, (.array .int), cl_X12, by decide, rfl, ⟨"DryDockModel", wk_1572, Or.inl rfl⟩, tyX12_ok, nmX12, rfl, rfl, by decide +kernel, fun _ => ⟨rfl, rfl⟩⟩
theorem fr_X12_70_11 : FR RX12 70 11 27 := ⟨_, _, _, tyX12, (.array .long), cl_X12, by decide, rfl, ⟨"DryDockModel", wk_1573, Or.inl rfl⟩, tyX12_ok, nmX12, rfl, rfl, by decide +kernel, fun _ => ⟨rfl, rfl⟩⟩
abbrev rmc_X10_init : Room := { frames := 1, cells := 1, slots := 400, locals := 20 }
def o_X10_init (a : Nat) (q : Nat) : List En := [(a, 9, 0, rfE [(0, q)], inE [], z64), (q, 12, 400, rfE [], inE [], z64)]
set_option maxRecDepth 20000 in
set_option maxHeartbeats 8000000 in
theorem cc_X10_init (l : Launch) (c : Lay) (E0 : List En) (a : Nat) (hn : (adr (E0 ++ [nw a 9 0])).Nodup) : MCE l yX10_init cX10_init 1 rmc_X10_init c E0 a 9 [] (o_X10_init a) := by
  refine mce_of hn rfl rfl (Nat.le_of_ble_eq_true rfl) (fun x C hlx hin h0 Q hQ => ?_)
  refine j_aload_n C.1 0 dX10_init_0 rfl ?_
  refine jc_obj C.1 wk_44 wk_37 wk_o ⟨Nat.le_of_ble_eq_true rfl, Nat.le_of_ble_eq_true rfl⟩ (Nat.le_of_ble_eq_true rfl) dX10_init_1 ?_
  refine j_aload_n C.1 0 dX10_init_4 rfl ?_
  refine j_sipush C.1 dX10_init_5 (v := 400) rfl ?_
  refine je_newB (n := 400) C ⟨by decide, rfl, Nat.le_of_ble_eq_true rfl⟩ (hk_at h0 (a := 1) (b := 400) (Nat.le_of_ble_eq_true rfl) (Nat.le_of_ble_eq_true rfl)) wk_57 dX10_init_8 (fun q1 _ C => ?_)
  replace h0 := h0_at h0 (a := 1) (b := 400)
  replace hQ := hQ.trans (QC_bump (a := 1) (b := 400)).symm
  refine je_putR C hin fr_X10_9_9 (j := 0) (L' := [(a, 9, 0, rfE [(0, q1)], inE [], z64), (q1, 12, 400, rfE [], inE [], z64)]) rfl rfl dX10_init_10 (fun C => ?_)
  exact je_ret C hQ (q1) rfl dX10_init_13
abbrev rmc_X4_init : Room := { frames := 1, cells := 1, slots := 300, locals := 20 }
def o_X4_init (a : Nat) (q : Nat) : List En := [(a, 4, 0, rfE [(2, q)], inE [], z64), (q, 13, 300, rfE [], inE [], z64)]
set_option maxRecDepth 20000 in
set_option maxHeartbeats 8000000 in
theorem cc_X4_init (l : Launch) (c : Lay) (E0 : List En) (a : Nat) (hn : (adr (E0 ++ [nw a 4 0])).Nodup) : MCE l yX4_init cX4_init 1 rmc_X4_init c E0 a 4 [] (o_X4_init a) := by
  refine mce_of hn rfl rfl (Nat.le_of_ble_eq_true rfl) (fun x C hlx hin h0 Q hQ => ?_)
  refine j_aload_n C.1 0 dX4_init_0 rfl ?_
  refine jc_obj C.1 wk_69 wk_37 wk_o ⟨Nat.le_of_ble_eq_true rfl, Nat.le_of_ble_eq_true rfl⟩ (Nat.le_of_ble_eq_true rfl) dX4_init_1 ?_
  refine j_aload_n C.1 0 dX4_init_4 rfl ?_
  refine j_sipush C.1 dX4_init_5 (v := 300) rfl ?_
  refine je_newI (n := 300) C ⟨by decide, rfl, Nat.le_of_ble_eq_true rfl⟩ (hk_at h0 (a := 1) (b := 300) (Nat.le_of_ble_eq_true rfl) (Nat.le_of_ble_eq_true rfl)) wk_81 dX4_init_8 (fun q1 _ C => ?_)
  replace h0 := h0_at h0 (a := 1) (b := 300)
  replace hQ := hQ.trans (QC_bump (a := 1) (b := 300)).symm
  refine je_putR C hin fr_X4_11_4 (j := 0) (L' := [(a, 4, 0, rfE [(2, q1)], inE [], z64), (q1, 13, 300, rfE [], inE [], z64)]) rfl rfl dX4_init_10 (fun C => ?_)
  exact je_ret C hQ (q1) rfl dX4_init_13
abbrev rmc_X9_init : Room := { frames := 2, cells := 8, slots := 355, locals := 40 }
def o_X9_init (a : Nat) (q : Nat → Nat) : List En := [(a, 8, 0, rfE [(18, (q 6)), (17, (q 5)), (16, (q 4)), (15, (q 3)), (14, (q 2)), (13, (q 1)), (12, (q 0))], inE [(11, 1), (6, 1), (3, 3), (2, 2), (0, 10)], z64), ((q 0), 13, 12, rfE [], inE [(11, 10), (10, 10), (9, 10), (8, 10), (7, 10), (6, 10), (5, 10), (4, 10), (3, 10), (2, 10), (1, 10), (0, 10)], z64), ((q 1), 13, 8, rfE [], inE [], z64), ((q 2), 13, 8, rfE [], inE [], z64), ((q 3), 13, 8, rfE [], inE [], z64), ((q 4), 13, 8, rfE [], inE [], z64), ((q 5), 13, 8, rfE [], inE [], z64)] ++ o_X4_init (q 6) (q 7)
set_option maxRecDepth 20000 in
set_option maxHeartbeats 8000000 in
theorem cc_X9_init (l : Launch) (c : Lay) (E0 : List En) (a : Nat) (hn : (adr (E0 ++ [nw a 8 0])).Nodup) : MCE l yX9_init cX9_init 1 rmc_X9_init c E0 a 8 [] (o_X9_init a) := by
  refine mce_of hn rfl rfl (Nat.le_of_ble_eq_true rfl) (fun x C hlx hin h0 Q hQ => ?_)
  refine j_aload_n C.1 0 dX9_init_0 rfl ?_
  refine jc_obj C.1 wk_63 wk_37 wk_o ⟨Nat.le_of_ble_eq_true rfl, Nat.le_of_ble_eq_true rfl⟩ (Nat.le_of_ble_eq_true rfl) dX9_init_1 ?_
  refine j_aload_n C.1 0 dX9_init_4 rfl ?_
  refine j_bipush C.1 dX9_init_5 (v := 10) rfl ?_
  refine je_putI C fpc_X9_9_8 (j := 0) (L' := [(a, 8, 0, rfE [], inE [(0, 10)], z64)]) rfl rfl dX9_init_7 (fun C => ?_)
  refine j_aload_n C.1 0 dX9_init_10 rfl ?_
  refine j_iconst C.1 dX9_init_11 (v := 2) rfl ?_
  refine je_putI C fpc_X9_15_8 (j := 0) (L' := [(a, 8, 0, rfE [], inE [(2, 2), (0, 10)], z64)]) rfl rfl dX9_init_12 (fun C => ?_)
  refine j_aload_n C.1 0 dX9_init_15 rfl ?_
  refine j_iconst C.1 dX9_init_16 (v := 3) rfl ?_
  refine je_putI C fpc_X9_18_8 (j := 0) (L' := [(a, 8, 0, rfE [], inE [(3, 3), (2, 2), (0, 10)], z64)]) rfl rfl dX9_init_17 (fun C => ?_)
  refine j_aload_n C.1 0 dX9_init_20 rfl ?_
  refine j_iconst C.1 dX9_init_21 (v := 1) rfl ?_
  refine je_putI C fpc_X9_21_8 (j := 0) (L' := [(a, 8, 0, rfE [], inE [(6, 1), (3, 3), (2, 2), (0, 10)], z64)]) rfl rfl dX9_init_22 (fun C => ?_)
  refine j_aload_n C.1 0 dX9_init_25 rfl ?_
  refine j_iconst C.1 dX9_init_26 (v := 1) rfl ?_
  refine je_putZ C fpc_X9_24_8 rfl (j := 0) (L' := [(a, 8, 0, rfE [], inE [(11, 1), (6, 1), (3, 3), (2, 2), (0, 10)], z64)]) rfl rfl dX9_init_27 (fun C => ?_)
  refine j_aload_n C.1 0 dX9_init_30 rfl ?_
  refine j_bipush C.1 dX9_init_31 (v := 12) rfl ?_
  refine je_newI (n := 12) C ⟨by decide, rfl, Nat.le_of_ble_eq_true rfl⟩ (hk_at h0 (a := 1) (b := 12) (Nat.le_of_ble_eq_true rfl) (Nat.le_of_ble_eq_true rfl)) wk_81 dX9_init_33 (fun q1 _ C => ?_)
  replace h0 := h0_at h0 (a := 1) (b := 12)
  replace hQ := hQ.trans (QC_bump (a := 1) (b := 12)).symm
  refine j_dup C.1 dX9_init_35 rfl ?_
  refine j_iconst C.1 dX9_init_36 (v := 0) rfl ?_
  refine j_bipush C.1 dX9_init_37 (v := 10) rfl ?_
  refine je_iast C (j := 1) (i' := 0) (L' := [(a, 8, 0, rfE [], inE [(11, 1), (6, 1), (3, 3), (2, 2), (0, 10)], z64), (q1, 13, 12, rfE [], inE [(0, 10)], z64)]) rfl (by decide) rfl rfl dX9_init_39 (fun C => ?_)
  refine j_dup C.1 dX9_init_40 rfl ?_
  refine j_iconst C.1 dX9_init_41 (v := 1) rfl ?_
  refine j_bipush C.1 dX9_init_42 (v := 10) rfl ?_
  refine je_iast C (j := 1) (i' := 1) (L' := [(a, 8, 0, rfE [], inE [(11, 1), (6, 1), (3, 3), (2, 2), (0, 10)], z64), (q1, 13, 12, rfE [], inE [(1, 10), (0, 10)], z64)]) rfl (by decide) rfl rfl dX9_init_44 (fun C => ?_)
  refine j_dup C.1 dX9_init_45 rfl ?_
  refine j_iconst C.1 dX9_init_46 (v := 2) rfl ?_
  refine j_bipush C.1 dX9_init_47 (v := 10) rfl ?_
  refine je_iast C (j := 1) (i' := 2) (L' := [(a, 8, 0, rfE [], inE [(11, 1), (6, 1), (3, 3), (2, 2), (0, 10)], z64), (q1, 13, 12, rfE [], inE [(2, 10), (1, 10), (0, 10)], z64)]) rfl (by decide) rfl rfl dX9_init_49 (fun C => ?_)
  refine j_dup C.1 dX9_init_50 rfl ?_
  refine j_iconst C.1 dX9_init_51 (v := 3) rfl ?_
  refine j_bipush C.1 dX9_init_52 (v := 10) rfl ?_
  refine je_iast C (j := 1) (i' := 3) (L' := [(a, 8, 0, rfE [], inE [(11, 1), (6, 1), (3, 3), (2, 2), (0, 10)], z64), (q1, 13, 12, rfE [], inE [(3, 10), (2, 10), (1, 10), (0, 10)], z64)]) rfl (by decide) rfl rfl dX9_init_54 (fun C => ?_)
  refine j_dup C.1 dX9_init_55 rfl ?_
  refine j_iconst C.1 dX9_init_56 (v := 4) rfl ?_
  refine j_bipush C.1 dX9_init_57 (v := 10) rfl ?_
  refine je_iast C (j := 1) (i' := 4) (L' := [(a, 8, 0, rfE [], inE [(11, 1), (6, 1), (3, 3), (2, 2), (0, 10)], z64), (q1, 13, 12, rfE [], inE [(4, 10), (3, 10), (2, 10), (1, 10), (0, 10)], z64)]) rfl (by decide) rfl rfl dX9_init_59 (fun C => ?_)
  refine j_dup C.1 dX9_init_60 rfl ?_
  refine j_iconst C.1 dX9_init_61 (v := 5) rfl ?_
  refine j_bipush C.1 dX9_init_62 (v := 10) rfl ?_
  refine je_iast C (j := 1) (i' := 5) (L' := [(a, 8, 0, rfE [], inE [(11, 1), (6, 1), (3, 3), (2, 2), (0, 10)], z64), (q1, 13, 12, rfE [], inE [(5, 10), (4, 10), (3, 10), (2, 10), (1, 10), (0, 10)], z64)]) rfl (by decide) rfl rfl dX9_init_64 (fun C => ?_)
  refine j_dup C.1 dX9_init_65 rfl ?_
  refine j_bipush C.1 dX9_init_66 (v := 6) rfl ?_
  refine j_bipush C.1 dX9_init_68 (v := 10) rfl ?_
  refine je_iast C (j := 1) (i' := 6) (L' := [(a, 8, 0, rfE [], inE [(11, 1), (6, 1), (3, 3), (2, 2), (0, 10)], z64), (q1, 13, 12, rfE [], inE [(6, 10), (5, 10), (4, 10), (3, 10), (2, 10), (1, 10), (0, 10)], z64)]) rfl (by decide) rfl rfl dX9_init_70 (fun C => ?_)
  refine j_dup C.1 dX9_init_71 rfl ?_
  refine j_bipush C.1 dX9_init_72 (v := 7) rfl ?_
  refine j_bipush C.1 dX9_init_74 (v := 10) rfl ?_
  refine je_iast C (j := 1) (i' := 7) (L' := [(a, 8, 0, rfE [], inE [(11, 1), (6, 1), (3, 3), (2, 2), (0, 10)], z64), (q1, 13, 12, rfE [], inE [(7, 10), (6, 10), (5, 10), (4, 10), (3, 10), (2, 10), (1, 10), (0, 10)], z64)]) rfl (by decide) rfl rfl dX9_init_76 (fun C => ?_)
  refine j_dup C.1 dX9_init_77 rfl ?_
  refine j_bipush C.1 dX9_init_78 (v := 8) rfl ?_
  refine j_bipush C.1 dX9_init_80 (v := 10) rfl ?_
  refine je_iast C (j := 1) (i' := 8) (L' := [(a, 8, 0, rfE [], inE [(11, 1), (6, 1), (3, 3), (2, 2), (0, 10)], z64), (q1, 13, 12, rfE [], inE [(8, 10), (7, 10), (6, 10), (5, 10), (4, 10), (3, 10), (2, 10), (1, 10), (0, 10)], z64)]) rfl (by decide) rfl rfl dX9_init_82 (fun C => ?_)
  refine j_dup C.1 dX9_init_83 rfl ?_
  refine j_bipush C.1 dX9_init_84 (v := 9) rfl ?_
  refine j_bipush C.1 dX9_init_86 (v := 10) rfl ?_
  refine je_iast C (j := 1) (i' := 9) (L' := [(a, 8, 0, rfE [], inE [(11, 1), (6, 1), (3, 3), (2, 2), (0, 10)], z64), (q1, 13, 12, rfE [], inE [(9, 10), (8, 10), (7, 10), (6, 10), (5, 10), (4, 10), (3, 10), (2, 10), (1, 10), (0, 10)], z64)]) rfl (by decide) rfl rfl dX9_init_88 (fun C => ?_)
  refine j_dup C.1 dX9_init_89 rfl ?_
  refine j_bipush C.1 dX9_init_90 (v := 10) rfl ?_
  refine j_bipush C.1 dX9_init_92 (v := 10) rfl ?_
  refine je_iast C (j := 1) (i' := 10) (L' := [(a, 8, 0, rfE [], inE [(11, 1), (6, 1), (3, 3), (2, 2), (0, 10)], z64), (q1, 13, 12, rfE [], inE [(10, 10), (9, 10), (8, 10), (7, 10), (6, 10), (5, 10), (4, 10), (3, 10), (2, 10), (1, 10), (0, 10)], z64)]) rfl (by decide) rfl rfl dX9_init_94 (fun C => ?_)
  refine j_dup C.1 dX9_init_95 rfl ?_
  refine j_bipush C.1 dX9_init_96 (v := 11) rfl ?_
  refine j_bipush C.1 dX9_init_98 (v := 10) rfl ?_
  refine je_iast C (j := 1) (i' := 11) (L' := [(a, 8, 0, rfE [], inE [(11, 1), (6, 1), (3, 3), (2, 2), (0, 10)], z64), (q1, 13, 12, rfE [], inE [(11, 10), (10, 10), (9, 10), (8, 10), (7, 10), (6, 10), (5, 10), (4, 10), (3, 10), (2, 10), (1, 10), (0, 10)], z64)]) rfl (by decide) rfl rfl dX9_init_100 (fun C => ?_)
  refine je_putR C hin fr_X9_28_8 (j := 0) (L' := [(a, 8, 0, rfE [(12, q1)], inE [(11, 1), (6, 1), (3, 3), (2, 2), (0, 10)], z64), (q1, 13, 12, rfE [], inE [(11, 10), (10, 10), (9, 10), (8, 10), (7, 10), (6, 10), (5, 10), (4, 10), (3, 10), (2, 10), (1, 10), (0, 10)], z64)]) rfl rfl dX9_init_101 (fun C => ?_)
  refine j_aload_n C.1 0 dX9_init_104 rfl ?_
  refine j_bipush C.1 dX9_init_105 (v := 8) rfl ?_
  refine je_newI (n := 8) C ⟨by decide, rfl, Nat.le_of_ble_eq_true rfl⟩ (hk_at h0 (a := 1) (b := 8) (Nat.le_of_ble_eq_true rfl) (Nat.le_of_ble_eq_true rfl)) wk_81 dX9_init_107 (fun q2 _ C => ?_)
  replace h0 := h0_at h0 (a := 1) (b := 8)
  replace hQ := hQ.trans (QC_bump (a := 1) (b := 8)).symm
  refine je_putR C hin fr_X9_32_8 (j := 0) (L' := [(a, 8, 0, rfE [(13, q2), (12, q1)], inE [(11, 1), (6, 1), (3, 3), (2, 2), (0, 10)], z64), (q1, 13, 12, rfE [], inE [(11, 10), (10, 10), (9, 10), (8, 10), (7, 10), (6, 10), (5, 10), (4, 10), (3, 10), (2, 10), (1, 10), (0, 10)], z64), (q2, 13, 8, rfE [], inE [], z64)]) rfl rfl dX9_init_109 (fun C => ?_)
  refine j_aload_n C.1 0 dX9_init_112 rfl ?_
  refine j_bipush C.1 dX9_init_113 (v := 8) rfl ?_
  refine je_newI (n := 8) C ⟨by decide, rfl, Nat.le_of_ble_eq_true rfl⟩ (hk_at h0 (a := 1) (b := 8) (Nat.le_of_ble_eq_true rfl) (Nat.le_of_ble_eq_true rfl)) wk_81 dX9_init_115 (fun q3 _ C => ?_)
  replace h0 := h0_at h0 (a := 1) (b := 8)
  replace hQ := hQ.trans (QC_bump (a := 1) (b := 8)).symm
  refine je_putR C hin fr_X9_35_8 (j := 0) (L' := [(a, 8, 0, rfE [(14, q3), (13, q2), (12, q1)], inE [(11, 1), (6, 1), (3, 3), (2, 2), (0, 10)], z64), (q1, 13, 12, rfE [], inE [(11, 10), (10, 10), (9, 10), (8, 10), (7, 10), (6, 10), (5, 10), (4, 10), (3, 10), (2, 10), (1, 10), (0, 10)], z64), (q2, 13, 8, rfE [], inE [], z64), (q3, 13, 8, rfE [], inE [], z64)]) rfl rfl dX9_init_117 (fun C => ?_)
  refine j_aload_n C.1 0 dX9_init_120 rfl ?_
  refine j_bipush C.1 dX9_init_121 (v := 8) rfl ?_
  refine je_newI (n := 8) C ⟨by decide, rfl, Nat.le_of_ble_eq_true rfl⟩ (hk_at h0 (a := 1) (b := 8) (Nat.le_of_ble_eq_true rfl) (Nat.le_of_ble_eq_true rfl)) wk_81 dX9_init_123 (fun q4 _ C => ?_)
  replace h0 := h0_at h0 (a := 1) (b := 8)
  replace hQ := hQ.trans (QC_bump (a := 1) (b := 8)).symm
  refine je_putR C hin fr_X9_38_8 (j := 0) (L' := [(a, 8, 0, rfE [(15, q4), (14, q3), (13, q2), (12, q1)], inE [(11, 1), (6, 1), (3, 3), (2, 2), (0, 10)], z64), (q1, 13, 12, rfE [], inE [(11, 10), (10, 10), (9, 10), (8, 10), (7, 10), (6, 10), (5, 10), (4, 10), (3, 10), (2, 10), (1, 10), (0, 10)], z64), (q2, 13, 8, rfE [], inE [], z64), (q3, 13, 8, rfE [], inE [], z64), (q4, 13, 8, rfE [], inE [], z64)]) rfl rfl dX9_init_125 (fun C => ?_)
  refine j_aload_n C.1 0 dX9_init_128 rfl ?_
  refine j_bipush C.1 dX9_init_129 (v := 8) rfl ?_
  refine je_newI (n := 8) C ⟨by decide, rfl, Nat.le_of_ble_eq_true rfl⟩ (hk_at h0 (a := 1) (b := 8) (Nat.le_of_ble_eq_true rfl) (Nat.le_of_ble_eq_true rfl)) wk_81 dX9_init_131 (fun q5 _ C => ?_)
  replace h0 := h0_at h0 (a := 1) (b := 8)
  replace hQ := hQ.trans (QC_bump (a := 1) (b := 8)).symm
  refine je_putR C hin fr_X9_41_8 (j := 0) (L' := [(a, 8, 0, rfE [(16, q5), (15, q4), (14, q3), (13, q2), (12, q1)], inE [(11, 1), (6, 1), (3, 3), (2, 2), (0, 10)], z64), (q1, 13, 12, rfE [], inE [(11, 10), (10, 10), (9, 10), (8, 10), (7, 10), (6, 10), (5, 10), (4, 10), (3, 10), (2, 10), (1, 10), (0, 10)], z64), (q2, 13, 8, rfE [], inE [], z64), (q3, 13, 8, rfE [], inE [], z64), (q4, 13, 8, rfE [], inE [], z64), (q5, 13, 8, rfE [], inE [], z64)]) rfl rfl dX9_init_133 (fun C => ?_)
  refine j_aload_n C.1 0 dX9_init_136 rfl ?_
  refine j_bipush C.1 dX9_init_137 (v := 8) rfl ?_
  refine je_newI (n := 8) C ⟨by decide, rfl, Nat.le_of_ble_eq_true rfl⟩ (hk_at h0 (a := 1) (b := 8) (Nat.le_of_ble_eq_true rfl) (Nat.le_of_ble_eq_true rfl)) wk_81 dX9_init_139 (fun q6 _ C => ?_)
  replace h0 := h0_at h0 (a := 1) (b := 8)
  replace hQ := hQ.trans (QC_bump (a := 1) (b := 8)).symm
  refine je_putR C hin fr_X9_44_8 (j := 0) (L' := [(a, 8, 0, rfE [(17, q6), (16, q5), (15, q4), (14, q3), (13, q2), (12, q1)], inE [(11, 1), (6, 1), (3, 3), (2, 2), (0, 10)], z64), (q1, 13, 12, rfE [], inE [(11, 10), (10, 10), (9, 10), (8, 10), (7, 10), (6, 10), (5, 10), (4, 10), (3, 10), (2, 10), (1, 10), (0, 10)], z64), (q2, 13, 8, rfE [], inE [], z64), (q3, 13, 8, rfE [], inE [], z64), (q4, 13, 8, rfE [], inE [], z64), (q5, 13, 8, rfE [], inE [], z64), (q6, 13, 8, rfE [], inE [], z64)]) rfl rfl dX9_init_141 (fun C => ?_)
  refine j_aload_n C.1 0 dX9_init_144 rfl ?_
  refine je_new C cn_X9_47 (hk_at h0 (a := 1) (b := 3) (Nat.le_of_ble_eq_true rfl) (Nat.le_of_ble_eq_true rfl)) dX9_init_145 (fun q7 _ C => ?_)
  replace h0 := h0_at h0 (a := 1) (b := 3)
  replace hQ := hQ.trans (QC_bump (a := 1) (b := 3)).symm
  refine j_dup C.1 dX9_init_148 rfl ?_
  refine je_callN (out := o_X4_init q7) (L := [(a, 8, 0, rfE [(17, q6), (16, q5), (15, q4), (14, q3), (13, q2), (12, q1)], inE [(11, 1), (6, 1), (3, 3), (2, 2), (0, 10)], z64), (q1, 13, 12, rfE [], inE [(11, 10), (10, 10), (9, 10), (8, 10), (7, 10), (6, 10), (5, 10), (4, 10), (3, 10), (2, 10), (1, 10), (0, 10)], z64), (q2, 13, 8, rfE [], inE [], z64), (q3, 13, 8, rfE [], inE [], z64), (q4, 13, 8, rfE [], inE [], z64), (q5, 13, 8, rfE [], inE [], z64), (q6, 13, 8, rfE [], inE [], z64)]) C rfl lin_X9_49 ⟨Nat.le_of_ble_eq_true rfl, Nat.le_of_ble_eq_true rfl⟩ (hk_at h0 (a := 1) (b := 300) (Nat.le_of_ble_eq_true rfl) (Nat.le_of_ble_eq_true rfl)) (As := []) rfl rfl (Nat.le_of_ble_eq_true rfl) dX9_init_149 (fun h => cc_X4_init _ c _ q7 h) (fun f8 C => ?_)
  replace h0 := h0_at h0 (a := 1) (b := 300)
  replace hQ := hQ.trans (QC_bump (a := 1) (b := 300)).symm
  refine je_putR C hin fr_X9_50_8 (j := 0) (L' := [(a, 8, 0, rfE [(18, q7), (17, q6), (16, q5), (15, q4), (14, q3), (13, q2), (12, q1)], inE [(11, 1), (6, 1), (3, 3), (2, 2), (0, 10)], z64), (q1, 13, 12, rfE [], inE [(11, 10), (10, 10), (9, 10), (8, 10), (7, 10), (6, 10), (5, 10), (4, 10), (3, 10), (2, 10), (1, 10), (0, 10)], z64), (q2, 13, 8, rfE [], inE [], z64), (q3, 13, 8, rfE [], inE [], z64), (q4, 13, 8, rfE [], inE [], z64), (q5, 13, 8, rfE [], inE [], z64), (q6, 13, 8, rfE [], inE [], z64)] ++ o_X4_init q7 f8) rfl rfl dX9_init_152 (fun C => ?_)
  exact je_ret C hQ (fun i => ([q1, q2, q3, q4, q5, q6, q7, f8] : List Nat).getD i 0) rfl dX9_init_155
abbrev rmc_X2_init : Room := { frames := 1, cells := 5, slots := 468, locals := 20 }
def o_X2_init (a : Nat) (q : Nat → Nat) : List En := [(a, 2, 0, rfE [(6, (q 4)), (5, (q 3)), (4, (q 2)), (3, (q 1)), (2, (q 0))], inE [(0, (-1))], z64), ((q 0), 13, 12, rfE [], inE [], z64), ((q 1), 13, 12, rfE [], inE [], z64), ((q 2), 13, 12, rfE [], inE [], z64), ((q 3), 13, 400, rfE [], inE [], z64), ((q 4), 13, 32, rfE [], inE [], z64)]
set_option maxRecDepth 20000 in
set_option maxHeartbeats 8000000 in
theorem cc_X2_init (l : Launch) (c : Lay) (E0 : List En) (a : Nat) (hn : (adr (E0 ++ [nw a 2 0])).Nodup) : MCE l yX2_init cX2_init 1 rmc_X2_init c E0 a 2 [] (o_X2_init a) := by
  refine mce_of hn rfl rfl (Nat.le_of_ble_eq_true rfl) (fun x C hlx hin h0 Q hQ => ?_)
  refine j_aload_n C.1 0 dX2_init_0 rfl ?_
  refine jc_obj C.1 wk_188 wk_37 wk_o ⟨Nat.le_of_ble_eq_true rfl, Nat.le_of_ble_eq_true rfl⟩ (Nat.le_of_ble_eq_true rfl) dX2_init_1 ?_
  refine j_aload_n C.1 0 dX2_init_4 rfl ?_
  refine j_iconst C.1 dX2_init_5 (v := (-1)) rfl ?_
  refine je_putI C fpc_X2_9_2 (j := 0) (L' := [(a, 2, 0, rfE [], inE [(0, (-1))], z64)]) rfl rfl dX2_init_6 (fun C => ?_)
  refine j_aload_n C.1 0 dX2_init_9 rfl ?_
  refine j_bipush C.1 dX2_init_10 (v := 12) rfl ?_
  refine je_newI (n := 12) C ⟨by decide, rfl, Nat.le_of_ble_eq_true rfl⟩ (hk_at h0 (a := 1) (b := 12) (Nat.le_of_ble_eq_true rfl) (Nat.le_of_ble_eq_true rfl)) wk_81 dX2_init_12 (fun q1 _ C => ?_)
  replace h0 := h0_at h0 (a := 1) (b := 12)
  replace hQ := hQ.trans (QC_bump (a := 1) (b := 12)).symm
  refine je_putR C hin fr_X2_15_2 (j := 0) (L' := [(a, 2, 0, rfE [(2, q1)], inE [(0, (-1))], z64), (q1, 13, 12, rfE [], inE [], z64)]) rfl rfl dX2_init_14 (fun C => ?_)
  refine j_aload_n C.1 0 dX2_init_17 rfl ?_
  refine j_bipush C.1 dX2_init_18 (v := 12) rfl ?_
  refine je_newI (n := 12) C ⟨by decide, rfl, Nat.le_of_ble_eq_true rfl⟩ (hk_at h0 (a := 1) (b := 12) (Nat.le_of_ble_eq_true rfl) (Nat.le_of_ble_eq_true rfl)) wk_81 dX2_init_20 (fun q2 _ C => ?_)
  replace h0 := h0_at h0 (a := 1) (b := 12)
  replace hQ := hQ.trans (QC_bump (a := 1) (b := 12)).symm
  refine je_putR C hin fr_X2_19_2 (j := 0) (L' := [(a, 2, 0, rfE [(3, q2), (2, q1)], inE [(0, (-1))], z64), (q1, 13, 12, rfE [], inE [], z64), (q2, 13, 12, rfE [], inE [], z64)]) rfl rfl dX2_init_22 (fun C => ?_)
  refine j_aload_n C.1 0 dX2_init_25 rfl ?_
  refine j_bipush C.1 dX2_init_26 (v := 12) rfl ?_
  refine je_newI (n := 12) C ⟨by decide, rfl, Nat.le_of_ble_eq_true rfl⟩ (hk_at h0 (a := 1) (b := 12) (Nat.le_of_ble_eq_true rfl) (Nat.le_of_ble_eq_true rfl)) wk_81 dX2_init_28 (fun q3 _ C => ?_)
  replace h0 := h0_at h0 (a := 1) (b := 12)
  replace hQ := hQ.trans (QC_bump (a := 1) (b := 12)).symm
  refine je_putR C hin fr_X2_22_2 (j := 0) (L' := [(a, 2, 0, rfE [(4, q3), (3, q2), (2, q1)], inE [(0, (-1))], z64), (q1, 13, 12, rfE [], inE [], z64), (q2, 13, 12, rfE [], inE [], z64), (q3, 13, 12, rfE [], inE [], z64)]) rfl rfl dX2_init_30 (fun C => ?_)
  refine j_aload_n C.1 0 dX2_init_33 rfl ?_
  refine j_sipush C.1 dX2_init_34 (v := 400) rfl ?_
  refine je_newI (n := 400) C ⟨by decide, rfl, Nat.le_of_ble_eq_true rfl⟩ (hk_at h0 (a := 1) (b := 400) (Nat.le_of_ble_eq_true rfl) (Nat.le_of_ble_eq_true rfl)) wk_81 dX2_init_37 (fun q4 _ C => ?_)
  replace h0 := h0_at h0 (a := 1) (b := 400)
  replace hQ := hQ.trans (QC_bump (a := 1) (b := 400)).symm
  refine je_putR C hin fr_X2_25_2 (j := 0) (L' := [(a, 2, 0, rfE [(5, q4), (4, q3), (3, q2), (2, q1)], inE [(0, (-1))], z64), (q1, 13, 12, rfE [], inE [], z64), (q2, 13, 12, rfE [], inE [], z64), (q3, 13, 12, rfE [], inE [], z64), (q4, 13, 400, rfE [], inE [], z64)]) rfl rfl dX2_init_39 (fun C => ?_)
  refine j_aload_n C.1 0 dX2_init_42 rfl ?_
  refine j_bipush C.1 dX2_init_43 (v := 32) rfl ?_
  refine je_newI (n := 32) C ⟨by decide, rfl, Nat.le_of_ble_eq_true rfl⟩ (hk_at h0 (a := 1) (b := 32) (Nat.le_of_ble_eq_true rfl) (Nat.le_of_ble_eq_true rfl)) wk_81 dX2_init_45 (fun q5 _ C => ?_)
  replace h0 := h0_at h0 (a := 1) (b := 32)
  replace hQ := hQ.trans (QC_bump (a := 1) (b := 32)).symm
  refine je_putR C hin fr_X2_28_2 (j := 0) (L' := [(a, 2, 0, rfE [(6, q5), (5, q4), (4, q3), (3, q2), (2, q1)], inE [(0, (-1))], z64), (q1, 13, 12, rfE [], inE [], z64), (q2, 13, 12, rfE [], inE [], z64), (q3, 13, 12, rfE [], inE [], z64), (q4, 13, 400, rfE [], inE [], z64), (q5, 13, 32, rfE [], inE [], z64)]) rfl rfl dX2_init_47 (fun C => ?_)
  exact je_ret C hQ (fun i => ([q1, q2, q3, q4, q5] : List Nat).getD i 0) rfl dX2_init_50
abbrev rmc_X7_init_1 : Room := { frames := 1, cells := 3, slots := 1203, locals := 20 }
def o_X7_init_1 (a : Nat) (b1 : Nat) (q : Nat → Nat) : List En := [(a, 1, 0, rfE [(0, b1), (6, (q 2)), (5, (q 1)), (4, (q 0))], inE [], z64), ((q 0), 13, 401, rfE [], inE [], z64), ((q 1), 13, 401, rfE [], inE [], z64), ((q 2), 13, 401, rfE [], inE [], z64)]
set_option maxRecDepth 20000 in
set_option maxHeartbeats 8000000 in
theorem cc_X7_init_1 (l : Launch) (c : Lay) (E0 : List En) (a : Nat) (b1 : Nat) (hn : (adr (E0 ++ [nw a 1 0])).Nodup) : MCE l yX7_init cX7_init 2 rmc_X7_init_1 c E0 a 1 [.ref b1] (o_X7_init_1 a b1) := by
  refine mce_of hn rfl rfl (Nat.le_of_ble_eq_true rfl) (fun x C hlx hin h0 Q hQ => ?_)
  refine j_aload_n C.1 0 dX7_init_0 rfl ?_
  refine jc_obj C.1 wk_220 wk_37 wk_o ⟨Nat.le_of_ble_eq_true rfl, Nat.le_of_ble_eq_true rfl⟩ (Nat.le_of_ble_eq_true rfl) dX7_init_1 ?_
  refine j_aload_n C.1 0 dX7_init_4 rfl ?_
  refine j_sipush C.1 dX7_init_5 (v := 401) rfl ?_
  refine je_newI (n := 401) C ⟨by decide, rfl, Nat.le_of_ble_eq_true rfl⟩ (hk_at h0 (a := 1) (b := 401) (Nat.le_of_ble_eq_true rfl) (Nat.le_of_ble_eq_true rfl)) wk_81 dX7_init_8 (fun q1 _ C => ?_)
  replace h0 := h0_at h0 (a := 1) (b := 401)
  replace hQ := hQ.trans (QC_bump (a := 1) (b := 401)).symm
  refine je_putR C hin fr_X7_9_1 (j := 0) (L' := [(a, 1, 0, rfE [(4, q1)], inE [], z64), (q1, 13, 401, rfE [], inE [], z64)]) rfl rfl dX7_init_10 (fun C => ?_)
  refine j_aload_n C.1 0 dX7_init_13 rfl ?_
  refine j_sipush C.1 dX7_init_14 (v := 401) rfl ?_
  refine je_newI (n := 401) C ⟨by decide, rfl, Nat.le_of_ble_eq_true rfl⟩ (hk_at h0 (a := 1) (b := 401) (Nat.le_of_ble_eq_true rfl) (Nat.le_of_ble_eq_true rfl)) wk_81 dX7_init_17 (fun q2 _ C => ?_)
  replace h0 := h0_at h0 (a := 1) (b := 401)
  replace hQ := hQ.trans (QC_bump (a := 1) (b := 401)).symm
  refine je_putR C hin fr_X7_15_1 (j := 0) (L' := [(a, 1, 0, rfE [(5, q2), (4, q1)], inE [], z64), (q1, 13, 401, rfE [], inE [], z64), (q2, 13, 401, rfE [], inE [], z64)]) rfl rfl dX7_init_19 (fun C => ?_)
  refine j_aload_n C.1 0 dX7_init_22 rfl ?_
  refine j_sipush C.1 dX7_init_23 (v := 401) rfl ?_
  refine je_newI (n := 401) C ⟨by decide, rfl, Nat.le_of_ble_eq_true rfl⟩ (hk_at h0 (a := 1) (b := 401) (Nat.le_of_ble_eq_true rfl) (Nat.le_of_ble_eq_true rfl)) wk_81 dX7_init_26 (fun q3 _ C => ?_)
  replace h0 := h0_at h0 (a := 1) (b := 401)
  replace hQ := hQ.trans (QC_bump (a := 1) (b := 401)).symm
  refine je_putR C hin fr_X7_18_1 (j := 0) (L' := [(a, 1, 0, rfE [(6, q3), (5, q2), (4, q1)], inE [], z64), (q1, 13, 401, rfE [], inE [], z64), (q2, 13, 401, rfE [], inE [], z64), (q3, 13, 401, rfE [], inE [], z64)]) rfl rfl dX7_init_28 (fun C => ?_)
  refine j_aload_n C.1 0 dX7_init_31 rfl ?_
  refine j_aload_n C.1 1 dX7_init_32 rfl ?_
  refine je_putR C hin fr_X7_21_1 (j := 0) (L' := [(a, 1, 0, rfE [(0, b1), (6, q3), (5, q2), (4, q1)], inE [], z64), (q1, 13, 401, rfE [], inE [], z64), (q2, 13, 401, rfE [], inE [], z64), (q3, 13, 401, rfE [], inE [], z64)]) rfl rfl dX7_init_33 (fun C => ?_)
  exact je_ret C hQ (fun i => ([q1, q2, q3] : List Nat).getD i 0) rfl dX7_init_36
abbrev rmc_X7_init_3 : Room := { frames := 1, cells := 3, slots := 1203, locals := 20 }
def o_X7_init_3 (a : Nat) (b1 : Nat) (q : Nat → Nat) : List En := [(a, 3, 0, rfE [(0, b1), (6, (q 2)), (5, (q 1)), (4, (q 0))], inE [], z64), ((q 0), 13, 401, rfE [], inE [], z64), ((q 1), 13, 401, rfE [], inE [], z64), ((q 2), 13, 401, rfE [], inE [], z64)]
set_option maxRecDepth 20000 in
set_option maxHeartbeats 8000000 in
theorem cc_X7_init_3 (l : Launch) (c : Lay) (E0 : List En) (a : Nat) (b1 : Nat) (hn : (adr (E0 ++ [nw a 3 0])).Nodup) : MCE l yX7_init cX7_init 2 rmc_X7_init_3 c E0 a 3 [.ref b1] (o_X7_init_3 a b1) := by
  refine mce_of hn rfl rfl (Nat.le_of_ble_eq_true rfl) (fun x C hlx hin h0 Q hQ => ?_)
  refine j_aload_n C.1 0 dX7_init_0 rfl ?_
  refine jc_obj C.1 wk_220 wk_37 wk_o ⟨Nat.le_of_ble_eq_true rfl, Nat.le_of_ble_eq_true rfl⟩ (Nat.le_of_ble_eq_true rfl) dX7_init_1 ?_
  refine j_aload_n C.1 0 dX7_init_4 rfl ?_
  refine j_sipush C.1 dX7_init_5 (v := 401) rfl ?_
  refine je_newI (n := 401) C ⟨by decide, rfl, Nat.le_of_ble_eq_true rfl⟩ (hk_at h0 (a := 1) (b := 401) (Nat.le_of_ble_eq_true rfl) (Nat.le_of_ble_eq_true rfl)) wk_81 dX7_init_8 (fun q1 _ C => ?_)
  replace h0 := h0_at h0 (a := 1) (b := 401)
  replace hQ := hQ.trans (QC_bump (a := 1) (b := 401)).symm
  refine je_putR C hin fr_X7_9_3 (j := 0) (L' := [(a, 3, 0, rfE [(4, q1)], inE [], z64), (q1, 13, 401, rfE [], inE [], z64)]) rfl rfl dX7_init_10 (fun C => ?_)
  refine j_aload_n C.1 0 dX7_init_13 rfl ?_
  refine j_sipush C.1 dX7_init_14 (v := 401) rfl ?_
  refine je_newI (n := 401) C ⟨by decide, rfl, Nat.le_of_ble_eq_true rfl⟩ (hk_at h0 (a := 1) (b := 401) (Nat.le_of_ble_eq_true rfl) (Nat.le_of_ble_eq_true rfl)) wk_81 dX7_init_17 (fun q2 _ C => ?_)
  replace h0 := h0_at h0 (a := 1) (b := 401)
  replace hQ := hQ.trans (QC_bump (a := 1) (b := 401)).symm
  refine je_putR C hin fr_X7_15_3 (j := 0) (L' := [(a, 3, 0, rfE [(5, q2), (4, q1)], inE [], z64), (q1, 13, 401, rfE [], inE [], z64), (q2, 13, 401, rfE [], inE [], z64)]) rfl rfl dX7_init_19 (fun C => ?_)
  refine j_aload_n C.1 0 dX7_init_22 rfl ?_
  refine j_sipush C.1 dX7_init_23 (v := 401) rfl ?_
  refine je_newI (n := 401) C ⟨by decide, rfl, Nat.le_of_ble_eq_true rfl⟩ (hk_at h0 (a := 1) (b := 401) (Nat.le_of_ble_eq_true rfl) (Nat.le_of_ble_eq_true rfl)) wk_81 dX7_init_26 (fun q3 _ C => ?_)
  replace h0 := h0_at h0 (a := 1) (b := 401)
  replace hQ := hQ.trans (QC_bump (a := 1) (b := 401)).symm
  refine je_putR C hin fr_X7_18_3 (j := 0) (L' := [(a, 3, 0, rfE [(6, q3), (5, q2), (4, q1)], inE [], z64), (q1, 13, 401, rfE [], inE [], z64), (q2, 13, 401, rfE [], inE [], z64), (q3, 13, 401, rfE [], inE [], z64)]) rfl rfl dX7_init_28 (fun C => ?_)
  refine j_aload_n C.1 0 dX7_init_31 rfl ?_
  refine j_aload_n C.1 1 dX7_init_32 rfl ?_
  refine je_putR C hin fr_X7_21_3 (j := 0) (L' := [(a, 3, 0, rfE [(0, b1), (6, q3), (5, q2), (4, q1)], inE [], z64), (q1, 13, 401, rfE [], inE [], z64), (q2, 13, 401, rfE [], inE [], z64), (q3, 13, 401, rfE [], inE [], z64)]) rfl rfl dX7_init_33 (fun C => ?_)
  exact je_ret C hQ (fun i => ([q1, q2, q3] : List Nat).getD i 0) rfl dX7_init_36
abbrev rmc_X1_init : Room := { frames := 2, cells := 3, slots := 1203, locals := 41 }
def o_X1_init (a : Nat) (b1 : Nat) (b2 : Nat) (q : Nat → Nat) : List En := [(a, 1, 0, rfE [(7, b2), (0, b1), (6, (q 2)), (5, (q 1)), (4, (q 0))], inE [], z64), ((q 0), 13, 401, rfE [], inE [], z64), ((q 1), 13, 401, rfE [], inE [], z64), ((q 2), 13, 401, rfE [], inE [], z64)]
set_option maxRecDepth 20000 in
set_option maxHeartbeats 8000000 in
theorem cc_X1_init (l : Launch) (c : Lay) (E0 : List En) (a : Nat) (b1 : Nat) (b2 : Nat) (hn : (adr (E0 ++ [nw a 1 0])).Nodup) : MCE l yX1_init cX1_init 3 rmc_X1_init c E0 a 1 [.ref b1, .ref b2] (o_X1_init a b1 b2) := by
  refine mce_of hn rfl rfl (Nat.le_of_ble_eq_true rfl) (fun x C hlx hin h0 Q hQ => ?_)
  refine j_aload_n C.1 0 dX1_init_0 rfl ?_
  refine j_aload_n C.1 1 dX1_init_1 rfl ?_
  refine je_callI (out := o_X7_init_1 a b1) (L := []) C rfl li_X1_3 ⟨Nat.le_of_ble_eq_true rfl, Nat.le_of_ble_eq_true rfl⟩ (hk_at h0 (a := 3) (b := 1203) (Nat.le_of_ble_eq_true rfl) (Nat.le_of_ble_eq_true rfl)) (As := [.ref b1]) rfl rfl (Nat.le_of_ble_eq_true rfl) dX1_init_2 (fun h => cc_X7_init_1 _ c _ a b1 h) (fun f1 C => ?_)
  replace h0 := h0_at h0 (a := 3) (b := 1203)
  replace hQ := hQ.trans (QC_bump (a := 3) (b := 1203)).symm
  refine j_aload_n C.1 0 dX1_init_5 rfl ?_
  refine j_aload_n C.1 2 dX1_init_6 rfl ?_
  refine je_putR C hin fr_X1_9_1 (j := 0) (L' := [(a, 1, 0, rfE [(7, b2), (0, b1), (6, (f1 2)), (5, (f1 1)), (4, (f1 0))], inE [], z64), ((f1 0), 13, 401, rfE [], inE [], z64), ((f1 1), 13, 401, rfE [], inE [], z64), ((f1 2), 13, 401, rfE [], inE [], z64)]) rfl rfl dX1_init_7 (fun C => ?_)
  exact je_ret C hQ (f1) rfl dX1_init_10
abbrev rmc_X3_init : Room := { frames := 2, cells := 3, slots := 1203, locals := 41 }
def o_X3_init (a : Nat) (b1 : Nat) (b2 : Nat) (q : Nat → Nat) : List En := [(a, 3, 0, rfE [(7, b2), (0, b1), (6, (q 2)), (5, (q 1)), (4, (q 0))], inE [], z64), ((q 0), 13, 401, rfE [], inE [], z64), ((q 1), 13, 401, rfE [], inE [], z64), ((q 2), 13, 401, rfE [], inE [], z64)]
set_option maxRecDepth 20000 in
set_option maxHeartbeats 8000000 in
theorem cc_X3_init (l : Launch) (c : Lay) (E0 : List En) (a : Nat) (b1 : Nat) (b2 : Nat) (hn : (adr (E0 ++ [nw a 3 0])).Nodup) : MCE l yX3_init cX3_init 3 rmc_X3_init c E0 a 3 [.ref b1, .ref b2] (o_X3_init a b1 b2) := by
  refine mce_of hn rfl rfl (Nat.le_of_ble_eq_true rfl) (fun x C hlx hin h0 Q hQ => ?_)
  refine j_aload_n C.1 0 dX3_init_0 rfl ?_
  refine j_aload_n C.1 1 dX3_init_1 rfl ?_
  refine je_callI (out := o_X7_init_3 a b1) (L := []) C rfl li_X3_3 ⟨Nat.le_of_ble_eq_true rfl, Nat.le_of_ble_eq_true rfl⟩ (hk_at h0 (a := 3) (b := 1203) (Nat.le_of_ble_eq_true rfl) (Nat.le_of_ble_eq_true rfl)) (As := [.ref b1]) rfl rfl (Nat.le_of_ble_eq_true rfl) dX3_init_2 (fun h => cc_X7_init_3 _ c _ a b1 h) (fun f1 C => ?_)
  replace h0 := h0_at h0 (a := 3) (b := 1203)
  replace hQ := hQ.trans (QC_bump (a := 3) (b := 1203)).symm
  refine j_aload_n C.1 0 dX3_init_5 rfl ?_
  refine j_aload_n C.1 2 dX3_init_6 rfl ?_
  refine je_putR C hin fr_X3_9_3 (j := 0) (L' := [(a, 3, 0, rfE [(7, b2), (0, b1), (6, (f1 2)), (5, (f1 1)), (4, (f1 0))], inE [], z64), ((f1 0), 13, 401, rfE [], inE [], z64), ((f1 1), 13, 401, rfE [], inE [], z64), ((f1 2), 13, 401, rfE [], inE [], z64)]) rfl rfl dX3_init_7 (fun C => ?_)
  exact je_ret C hQ (f1) rfl dX3_init_10
abbrev rmc_X0_init : Room := { frames := 1, cells := 4, slots := 419, locals := 20 }
def o_X0_init (a : Nat) (q : Nat → Nat) : List En := [(a, 0, 0, rfE [(6, (q 3)), (5, (q 2)), (4, (q 1)), (3, (q 0))], inE [], z64), ((q 0), 13, 20, rfE [], inE [], z64), ((q 1), 13, 20, rfE [], inE [], z64), ((q 2), 13, 7, rfE [], inE [], z64), ((q 3), 13, 372, rfE [], inE [], z64)]
set_option maxRecDepth 20000 in
set_option maxHeartbeats 8000000 in
theorem cc_X0_init (l : Launch) (c : Lay) (E0 : List En) (a : Nat) (hn : (adr (E0 ++ [nw a 0 0])).Nodup) : MCE l yX0_init cX0_init 1 rmc_X0_init c E0 a 0 [] (o_X0_init a) := by
  refine mce_of hn rfl rfl (Nat.le_of_ble_eq_true rfl) (fun x C hlx hin h0 Q hQ => ?_)
  refine j_aload_n C.1 0 dX0_init_0 rfl ?_
  refine jc_obj C.1 wk_296 wk_37 wk_o ⟨Nat.le_of_ble_eq_true rfl, Nat.le_of_ble_eq_true rfl⟩ (Nat.le_of_ble_eq_true rfl) dX0_init_1 ?_
  refine j_aload_n C.1 0 dX0_init_4 rfl ?_
  refine j_bipush C.1 dX0_init_5 (v := 20) rfl ?_
  refine je_newI (n := 20) C ⟨by decide, rfl, Nat.le_of_ble_eq_true rfl⟩ (hk_at h0 (a := 1) (b := 20) (Nat.le_of_ble_eq_true rfl) (Nat.le_of_ble_eq_true rfl)) wk_81 dX0_init_7 (fun q1 _ C => ?_)
  replace h0 := h0_at h0 (a := 1) (b := 20)
  replace hQ := hQ.trans (QC_bump (a := 1) (b := 20)).symm
  refine je_putR C hin fr_X0_9_0 (j := 0) (L' := [(a, 0, 0, rfE [(3, q1)], inE [], z64), (q1, 13, 20, rfE [], inE [], z64)]) rfl rfl dX0_init_9 (fun C => ?_)
  refine j_aload_n C.1 0 dX0_init_12 rfl ?_
  refine j_bipush C.1 dX0_init_13 (v := 20) rfl ?_
  refine je_newI (n := 20) C ⟨by decide, rfl, Nat.le_of_ble_eq_true rfl⟩ (hk_at h0 (a := 1) (b := 20) (Nat.le_of_ble_eq_true rfl) (Nat.le_of_ble_eq_true rfl)) wk_81 dX0_init_15 (fun q2 _ C => ?_)
  replace h0 := h0_at h0 (a := 1) (b := 20)
  replace hQ := hQ.trans (QC_bump (a := 1) (b := 20)).symm
  refine je_putR C hin fr_X0_15_0 (j := 0) (L' := [(a, 0, 0, rfE [(4, q2), (3, q1)], inE [], z64), (q1, 13, 20, rfE [], inE [], z64), (q2, 13, 20, rfE [], inE [], z64)]) rfl rfl dX0_init_17 (fun C => ?_)
  refine j_aload_n C.1 0 dX0_init_20 rfl ?_
  refine j_bipush C.1 dX0_init_21 (v := 7) rfl ?_
  refine je_newI (n := 7) C ⟨by decide, rfl, Nat.le_of_ble_eq_true rfl⟩ (hk_at h0 (a := 1) (b := 7) (Nat.le_of_ble_eq_true rfl) (Nat.le_of_ble_eq_true rfl)) wk_81 dX0_init_23 (fun q3 _ C => ?_)
  replace h0 := h0_at h0 (a := 1) (b := 7)
  replace hQ := hQ.trans (QC_bump (a := 1) (b := 7)).symm
  refine je_putR C hin fr_X0_18_0 (j := 0) (L' := [(a, 0, 0, rfE [(5, q3), (4, q2), (3, q1)], inE [], z64), (q1, 13, 20, rfE [], inE [], z64), (q2, 13, 20, rfE [], inE [], z64), (q3, 13, 7, rfE [], inE [], z64)]) rfl rfl dX0_init_25 (fun C => ?_)
  refine j_aload_n C.1 0 dX0_init_28 rfl ?_
  refine j_sipush C.1 dX0_init_29 (v := 372) rfl ?_
  refine je_newI (n := 372) C ⟨by decide, rfl, Nat.le_of_ble_eq_true rfl⟩ (hk_at h0 (a := 1) (b := 372) (Nat.le_of_ble_eq_true rfl) (Nat.le_of_ble_eq_true rfl)) wk_81 dX0_init_32 (fun q4 _ C => ?_)
  replace h0 := h0_at h0 (a := 1) (b := 372)
  replace hQ := hQ.trans (QC_bump (a := 1) (b := 372)).symm
  refine je_putR C hin fr_X0_21_0 (j := 0) (L' := [(a, 0, 0, rfE [(6, q4), (5, q3), (4, q2), (3, q1)], inE [], z64), (q1, 13, 20, rfE [], inE [], z64), (q2, 13, 20, rfE [], inE [], z64), (q3, 13, 7, rfE [], inE [], z64), (q4, 13, 372, rfE [], inE [], z64)]) rfl rfl dX0_init_34 (fun C => ?_)
  exact je_ret C hQ (fun i => ([q1, q2, q3, q4] : List Nat).getD i 0) rfl dX0_init_37
abbrev rmc_X8_init : Room := { frames := 1, cells := 3, slots := 64, locals := 20 }
def o_X8_init (a : Nat) (q : Nat → Nat) : List En := [(a, 7, 0, rfE [(6, (q 2)), (5, (q 1)), (4, (q 0))], inE [], z64), ((q 0), 13, 20, rfE [], inE [], z64), ((q 1), 15, 20, rfE [], inE [], z64), ((q 2), 13, 24, rfE [], inE [], z64)]
set_option maxRecDepth 20000 in
set_option maxHeartbeats 8000000 in
theorem cc_X8_init (l : Launch) (c : Lay) (E0 : List En) (a : Nat) (hn : (adr (E0 ++ [nw a 7 0])).Nodup) : MCE l yX8_init cX8_init 1 rmc_X8_init c E0 a 7 [] (o_X8_init a) := by
  refine mce_of hn rfl rfl (Nat.le_of_ble_eq_true rfl) (fun x C hlx hin h0 Q hQ => ?_)
  refine j_aload_n C.1 0 dX8_init_0 rfl ?_
  refine jc_obj C.1 wk_326 wk_37 wk_o ⟨Nat.le_of_ble_eq_true rfl, Nat.le_of_ble_eq_true rfl⟩ (Nat.le_of_ble_eq_true rfl) dX8_init_1 ?_
  refine j_aload_n C.1 0 dX8_init_4 rfl ?_
  refine j_bipush C.1 dX8_init_5 (v := 20) rfl ?_
  refine je_newI (n := 20) C ⟨by decide, rfl, Nat.le_of_ble_eq_true rfl⟩ (hk_at h0 (a := 1) (b := 20) (Nat.le_of_ble_eq_true rfl) (Nat.le_of_ble_eq_true rfl)) wk_81 dX8_init_7 (fun q1 _ C => ?_)
  replace h0 := h0_at h0 (a := 1) (b := 20)
  replace hQ := hQ.trans (QC_bump (a := 1) (b := 20)).symm
  refine je_putR C hin fr_X8_9_7 (j := 0) (L' := [(a, 7, 0, rfE [(4, q1)], inE [], z64), (q1, 13, 20, rfE [], inE [], z64)]) rfl rfl dX8_init_9 (fun C => ?_)
  refine j_aload_n C.1 0 dX8_init_12 rfl ?_
  refine j_bipush C.1 dX8_init_13 (v := 20) rfl ?_
  refine je_newZ (n := 20) C ⟨by decide, rfl, Nat.le_of_ble_eq_true rfl⟩ (hk_at h0 (a := 1) (b := 20) (Nat.le_of_ble_eq_true rfl) (Nat.le_of_ble_eq_true rfl)) wk_351 dX8_init_15 (fun q2 _ C => ?_)
  replace h0 := h0_at h0 (a := 1) (b := 20)
  replace hQ := hQ.trans (QC_bump (a := 1) (b := 20)).symm
  refine je_putR C hin fr_X8_15_7 (j := 0) (L' := [(a, 7, 0, rfE [(5, q2), (4, q1)], inE [], z64), (q1, 13, 20, rfE [], inE [], z64), (q2, 15, 20, rfE [], inE [], z64)]) rfl rfl dX8_init_17 (fun C => ?_)
  refine j_aload_n C.1 0 dX8_init_20 rfl ?_
  refine j_bipush C.1 dX8_init_21 (v := 24) rfl ?_
  refine je_newI (n := 24) C ⟨by decide, rfl, Nat.le_of_ble_eq_true rfl⟩ (hk_at h0 (a := 1) (b := 24) (Nat.le_of_ble_eq_true rfl) (Nat.le_of_ble_eq_true rfl)) wk_81 dX8_init_23 (fun q3 _ C => ?_)
  replace h0 := h0_at h0 (a := 1) (b := 24)
  replace hQ := hQ.trans (QC_bump (a := 1) (b := 24)).symm
  refine je_putR C hin fr_X8_19_7 (j := 0) (L' := [(a, 7, 0, rfE [(6, q3), (5, q2), (4, q1)], inE [], z64), (q1, 13, 20, rfE [], inE [], z64), (q2, 15, 20, rfE [], inE [], z64), (q3, 13, 24, rfE [], inE [], z64)]) rfl rfl dX8_init_25 (fun C => ?_)
  exact je_ret C hQ (fun i => ([q1, q2, q3] : List Nat).getD i 0) rfl dX8_init_28
abbrev rmc_X6_init : Room := { frames := 1, cells := 5, slots := 521, locals := 20 }
def o_X6_init (a : Nat) (q : Nat → Nat) : List En := [(a, 6, 0, rfE [(7, (q 4)), (6, (q 3)), (5, (q 2)), (4, (q 1)), (2, (q 0))], inE [], z64), ((q 0), 13, 8, rfE [], inE [], z64), ((q 1), 13, 24, rfE [], inE [], z64), ((q 2), 13, 8, rfE [], inE [], z64), ((q 3), 13, 256, rfE [], inE [], z64), ((q 4), 13, 225, rfE [], inE [], z64)]
set_option maxRecDepth 20000 in
set_option maxHeartbeats 8000000 in
theorem cc_X6_init (l : Launch) (c : Lay) (E0 : List En) (a : Nat) (hn : (adr (E0 ++ [nw a 6 0])).Nodup) : MCE l yX6_init cX6_init 1 rmc_X6_init c E0 a 6 [] (o_X6_init a) := by
  refine mce_of hn rfl rfl (Nat.le_of_ble_eq_true rfl) (fun x C hlx hin h0 Q hQ => ?_)
  refine j_aload_n C.1 0 dX6_init_0 rfl ?_
  refine jc_obj C.1 wk_357 wk_37 wk_o ⟨Nat.le_of_ble_eq_true rfl, Nat.le_of_ble_eq_true rfl⟩ (Nat.le_of_ble_eq_true rfl) dX6_init_1 ?_
  refine j_aload_n C.1 0 dX6_init_4 rfl ?_
  refine j_bipush C.1 dX6_init_5 (v := 8) rfl ?_
  refine je_newI (n := 8) C ⟨by decide, rfl, Nat.le_of_ble_eq_true rfl⟩ (hk_at h0 (a := 1) (b := 8) (Nat.le_of_ble_eq_true rfl) (Nat.le_of_ble_eq_true rfl)) wk_81 dX6_init_7 (fun q1 _ C => ?_)
  replace h0 := h0_at h0 (a := 1) (b := 8)
  replace hQ := hQ.trans (QC_bump (a := 1) (b := 8)).symm
  refine je_putR C hin fr_X6_9_6 (j := 0) (L' := [(a, 6, 0, rfE [(2, q1)], inE [], z64), (q1, 13, 8, rfE [], inE [], z64)]) rfl rfl dX6_init_9 (fun C => ?_)
  refine j_aload_n C.1 0 dX6_init_12 rfl ?_
  refine j_bipush C.1 dX6_init_13 (v := 24) rfl ?_
  refine je_newI (n := 24) C ⟨by decide, rfl, Nat.le_of_ble_eq_true rfl⟩ (hk_at h0 (a := 1) (b := 24) (Nat.le_of_ble_eq_true rfl) (Nat.le_of_ble_eq_true rfl)) wk_81 dX6_init_15 (fun q2 _ C => ?_)
  replace h0 := h0_at h0 (a := 1) (b := 24)
  replace hQ := hQ.trans (QC_bump (a := 1) (b := 24)).symm
  refine je_putR C hin fr_X6_15_6 (j := 0) (L' := [(a, 6, 0, rfE [(4, q2), (2, q1)], inE [], z64), (q1, 13, 8, rfE [], inE [], z64), (q2, 13, 24, rfE [], inE [], z64)]) rfl rfl dX6_init_17 (fun C => ?_)
  refine j_aload_n C.1 0 dX6_init_20 rfl ?_
  refine j_bipush C.1 dX6_init_21 (v := 8) rfl ?_
  refine je_newI (n := 8) C ⟨by decide, rfl, Nat.le_of_ble_eq_true rfl⟩ (hk_at h0 (a := 1) (b := 8) (Nat.le_of_ble_eq_true rfl) (Nat.le_of_ble_eq_true rfl)) wk_81 dX6_init_23 (fun q3 _ C => ?_)
  replace h0 := h0_at h0 (a := 1) (b := 8)
  replace hQ := hQ.trans (QC_bump (a := 1) (b := 8)).symm
  refine je_putR C hin fr_X6_18_6 (j := 0) (L' := [(a, 6, 0, rfE [(5, q3), (4, q2), (2, q1)], inE [], z64), (q1, 13, 8, rfE [], inE [], z64), (q2, 13, 24, rfE [], inE [], z64), (q3, 13, 8, rfE [], inE [], z64)]) rfl rfl dX6_init_25 (fun C => ?_)
  refine j_aload_n C.1 0 dX6_init_28 rfl ?_
  refine j_sipush C.1 dX6_init_29 (v := 256) rfl ?_
  refine je_newI (n := 256) C ⟨by decide, rfl, Nat.le_of_ble_eq_true rfl⟩ (hk_at h0 (a := 1) (b := 256) (Nat.le_of_ble_eq_true rfl) (Nat.le_of_ble_eq_true rfl)) wk_81 dX6_init_32 (fun q4 _ C => ?_)
  replace h0 := h0_at h0 (a := 1) (b := 256)
  replace hQ := hQ.trans (QC_bump (a := 1) (b := 256)).symm
  refine je_putR C hin fr_X6_21_6 (j := 0) (L' := [(a, 6, 0, rfE [(6, q4), (5, q3), (4, q2), (2, q1)], inE [], z64), (q1, 13, 8, rfE [], inE [], z64), (q2, 13, 24, rfE [], inE [], z64), (q3, 13, 8, rfE [], inE [], z64), (q4, 13, 256, rfE [], inE [], z64)]) rfl rfl dX6_init_34 (fun C => ?_)
  refine j_aload_n C.1 0 dX6_init_37 rfl ?_
  refine j_sipush C.1 dX6_init_38 (v := 225) rfl ?_
  refine je_newI (n := 225) C ⟨by decide, rfl, Nat.le_of_ble_eq_true rfl⟩ (hk_at h0 (a := 1) (b := 225) (Nat.le_of_ble_eq_true rfl) (Nat.le_of_ble_eq_true rfl)) wk_81 dX6_init_41 (fun q5 _ C => ?_)
  replace h0 := h0_at h0 (a := 1) (b := 225)
  replace hQ := hQ.trans (QC_bump (a := 1) (b := 225)).symm
  refine je_putR C hin fr_X6_24_6 (j := 0) (L' := [(a, 6, 0, rfE [(7, q5), (6, q4), (5, q3), (4, q2), (2, q1)], inE [], z64), (q1, 13, 8, rfE [], inE [], z64), (q2, 13, 24, rfE [], inE [], z64), (q3, 13, 8, rfE [], inE [], z64), (q4, 13, 256, rfE [], inE [], z64), (q5, 13, 225, rfE [], inE [], z64)]) rfl rfl dX6_init_43 (fun C => ?_)
  exact je_ret C hQ (fun i => ([q1, q2, q3, q4, q5] : List Nat).getD i 0) rfl dX6_init_46
