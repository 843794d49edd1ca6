theorem zrl_14 : (List.take 32 (List.drop 448 zc_L_law)).all (fun r => zrok 214 r) = true := by decide +kernel
theorem zrl_15 : (List.take 32 (List.drop 480 zc_L_law)).all (fun r => zrok 214 r) = true := by decide +kernel
theorem zrl_16 : (List.take 32 (List.drop 512 zc_L_law)).all (fun r => zrok 214 r) = true := by decide +kernel
theorem zrl_17 : (List.take 32 (List.drop 544 zc_L_law)).all (fun r => zrok 214 r) = true := by decide +kernel
theorem zrl_18 : (List.take 32 (List.drop 576 zc_L_law)).all (fun r => zrok 214 r) = true := by decide +kernel
theorem zrl_19 : (List.take 32 (List.drop 608 zc_L_law)).all (fun r => zrok 214 r) = true := by decide +kernel
theorem zrl_20 : (List.take 32 (List.drop 640 zc_L_law)).all (fun r => zrok 214 r) = true := by decide +kernel
