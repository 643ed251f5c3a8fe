/-! words of the tables, by place (printed by wip/whole/p10.py) -/
theorem tbs {ws : List Cond} (ps : List Nat) (hp : ws.map some = ps.map (fun i => lw_tbl[i]?)) (hg : ws.all goodWord = true) : ∀ w ∈ ws, w ∈ TBL := by
  intro w hw
  have h1 : some w ∈ ps.map (fun i => lw_tbl[i]?) := by rw [← hp]; exact List.mem_map.mpr ⟨w, hw, rfl⟩
  obtain ⟨i, -, hi0⟩ := List.mem_map.mp h1
  exact tb i hi0 (List.all_eq_true.mp hg w hw)
theorem pl {h : Hp} {p : Nat} (hN : hn h = 65) (hp : Nat.blt p 65 = true) : p < hn h := by rw [hN]; exact Nat.lt_of_lt_of_le (Nat.le_of_ble_eq_true hp) (Nat.le_refl _)
theorem uw0 : ∀ w ∈ u_ws RX0 TX0 4, w ∈ TBL := tbs [224, 225, 226, 227] (by decide +kernel) (by decide +kernel)
theorem ck0 : ClsOK (RX0, TX0, 4) := ⟨⟨tyX0, tyX0_ok⟩, nmX0⟩
theorem uw1 : ∀ w ∈ u_ws RX1 TX1 4, w ∈ TBL := tbs [202, 203, 204, 205] (by decide +kernel) (by decide +kernel)
theorem ck1 : ClsOK (RX1, TX1, 4) := ⟨⟨tyX1, tyX1_ok⟩, nmX1⟩
theorem uw2 : ∀ w ∈ u_ws RX2 TX2 4, w ∈ TBL := tbs [235, 236, 237, 238] (by decide +kernel) (by decide +kernel)
theorem ck2 : ClsOK (RX2, TX2, 4) := ⟨⟨tyX2, tyX2_ok⟩, nmX2⟩
theorem uw3 : ∀ w ∈ u_ws RX3 TX3 4, w ∈ TBL := tbs [176, 178, 180, 182] (by decide +kernel) (by decide +kernel)
theorem ck3 : ClsOK (RX3, TX3, 4) := ⟨⟨tyX3, tyX3_ok⟩, nmX3⟩
theorem uw4 : ∀ w ∈ u_ws RX4 TX4 6, w ∈ TBL := tbs [128, 130, 132, 134, 136, 138] (by decide +kernel) (by decide +kernel)
theorem ck4 : ClsOK (RX4, TX4, 6) := ⟨⟨tyX4, tyX4_ok⟩, nmX4⟩
theorem uw5 : ∀ w ∈ u_ws RX5 TX5 3, w ∈ TBL := tbs [105, 107, 109] (by decide +kernel) (by decide +kernel)
theorem ck5 : ClsOK (RX5, TX5, 3) := ⟨⟨tyX5, tyX5_ok⟩, nmX5⟩
theorem uw6 : ∀ w ∈ u_ws RX6 TX6 4, w ∈ TBL := tbs [191, 192, 193, 194] (by decide +kernel) (by decide +kernel)
theorem ck6 : ClsOK (RX6, TX6, 4) := ⟨⟨tyX6, tyX6_ok⟩, nmX6⟩
theorem uw7 : ∀ w ∈ u_ws RX7 TX7 4, w ∈ TBL := tbs [213, 214, 215, 216] (by decide +kernel) (by decide +kernel)
theorem ck7 : ClsOK (RX7, TX7, 4) := ⟨⟨tyX7, tyX7_ok⟩, nmX7⟩
theorem uw8 : ∀ w ∈ u_ws RX8 TX8 8, w ∈ TBL := tbs [268, 270, 272, 274, 276, 278, 280, 282] (by decide +kernel) (by decide +kernel)
theorem ck8 : ClsOK (RX8, TX8, 8) := ⟨⟨tyX8, tyX8_ok⟩, nmX8⟩
theorem uw9 : ∀ w ∈ u_ws RX9 TX9 2, w ∈ TBL := tbs [151, 153] (by decide +kernel) (by decide +kernel)
theorem ck9 : ClsOK (RX9, TX9, 2) := ⟨⟨tyX9, tyX9_ok⟩, nmX9⟩
theorem uw10 : ∀ w ∈ u_ws RX10 TX10 14, w ∈ TBL := tbs [324, 326, 328, 330, 332, 334, 336, 338, 340, 342, 344, 346, 348, 350] (by decide +kernel) (by decide +kernel)
theorem ck10 : ClsOK (RX10, TX10, 14) := ⟨⟨tyX10, tyX10_ok⟩, nmX10⟩
theorem uw11 : ∀ w ∈ u_ws RX11 TX11 17, w ∈ TBL := tbs [370, 372, 374, 376, 378, 380, 382, 384, 386, 388, 390, 392, 394, 396, 398, 400, 402] (by decide +kernel) (by decide +kernel)
theorem ck11 : ClsOK (RX11, TX11, 17) := ⟨⟨tyX11, tyX11_ok⟩, nmX11⟩
theorem uw12 : ∀ w ∈ u_ws RX12 TX12 24, w ∈ TBL := tbs [1024, 1026, 1028, 1030, 1032, 1034, 1036, 1038, 1040, 1042, 1044, 1046, 1048, 1050, 1052, 1054, 1056, 1058, 1060, 1062, 1064, 1066, 1068, 1070] (by decide +kernel) (by decide +kernel)
theorem ck12 : ClsOK (RX12, TX12, 24) := ⟨⟨tyX12, tyX12_ok⟩, nmX12⟩
theorem sh0 : SH 0 = (0, 11) := rfl
theorem sh1 : SH 1 = (0, 5) := rfl
theorem sh2 : SH 2 = (1, 320) := rfl
theorem sh3 : SH 3 = (1, 8) := rfl
theorem sh4 : SH 4 = (1, 8) := rfl
theorem sh5 : SH 5 = (0, 4) := rfl
theorem sh6 : SH 6 = (1, 160) := rfl
theorem sh7 : SH 7 = (0, 9) := rfl
theorem sh8 : SH 8 = (1, 16) := rfl
theorem sh9 : SH 9 = (3, 6) := rfl
theorem sh10 : SH 10 = (0, 3) := rfl
theorem sh11 : SH 11 = (0, 6) := rfl
theorem sh12 : SH 12 = (0, 1) := rfl
theorem sh13 : SH 13 = (0, 7) := rfl
theorem sh14 : SH 14 = (0, 0) := rfl
theorem sh15 : SH 15 = (0, 2) := rfl
theorem sh16 : SH 16 = (0, 8) := rfl
theorem sh17 : SH 17 = (0, 10) := rfl
theorem sh18 : SH 18 = (1, 8) := rfl
theorem sh19 : SH 19 = (1, 8) := rfl
theorem sh20 : SH 20 = (1, 8) := rfl
theorem sh21 : SH 21 = (4, 6) := rfl
theorem sh22 : SH 22 = (1, 4) := rfl
theorem sh23 : SH 23 = (1, 4) := rfl
theorem sh24 : SH 24 = (1, 4) := rfl
theorem sh25 : SH 25 = (0, 8) := rfl
theorem sh26 : SH 26 = (0, 8) := rfl
theorem sh27 : SH 27 = (0, 8) := rfl
theorem sh28 : SH 28 = (0, 8) := rfl
theorem sh29 : SH 29 = (0, 8) := rfl
theorem sh30 : SH 30 = (0, 8) := rfl
theorem sh31 : SH 31 = (0, 10) := rfl
theorem sh32 : SH 32 = (1, 8) := rfl
theorem sh33 : SH 33 = (1, 8) := rfl
theorem sh34 : SH 34 = (1, 8) := rfl
theorem sh35 : SH 35 = (4, 6) := rfl
theorem sh36 : SH 36 = (1, 4) := rfl
theorem sh37 : SH 37 = (1, 4) := rfl
theorem sh38 : SH 38 = (1, 4) := rfl
theorem sh39 : SH 39 = (0, 8) := rfl
theorem sh40 : SH 40 = (0, 8) := rfl
theorem sh41 : SH 41 = (0, 8) := rfl
theorem sh42 : SH 42 = (0, 8) := rfl
theorem sh43 : SH 43 = (0, 8) := rfl
theorem sh44 : SH 44 = (0, 8) := rfl
theorem sh45 : SH 45 = (1, 2016) := rfl
theorem sh46 : SH 46 = (1, 168) := rfl
theorem sh47 : SH 47 = (2, 2) := rfl
theorem sh48 : SH 48 = (1, 84) := rfl
theorem sh49 : SH 49 = (1, 60) := rfl
theorem sh50 : SH 50 = (0, 12) := rfl
theorem sh51 : SH 51 = (1, 85) := rfl
theorem sh52 : SH 52 = (1, 170) := rfl
theorem sh53 : SH 53 = (2, 2) := rfl
theorem sh54 : SH 54 = (1, 1584) := rfl
theorem sh55 : SH 55 = (1, 8) := rfl
theorem sh56 : SH 56 = (1, 8) := rfl
theorem sh57 : SH 57 = (1, 320) := rfl
theorem sh58 : SH 58 = (1, 160) := rfl
theorem sh59 : SH 59 = (1, 85) := rfl
theorem sh60 : SH 60 = (1, 6) := rfl
theorem sh61 : SH 61 = (1, 66) := rfl
theorem sh62 : SH 62 = (2, 6) := rfl
theorem sh63 : SH 63 = (1, 4) := rfl
theorem sh64 : SH 64 = (1, 16) := rfl
