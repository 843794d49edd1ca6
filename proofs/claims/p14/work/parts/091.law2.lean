theorem zrl_12 : (List.take 32 (List.drop 384 zc_L_law)).all (fun r => zrok 214 r) = true := by decide +kernel
theorem zrl_13 : (List.take 32 (List.drop 416 zc_L_law)).all (fun r => zrok 214 r) = true := by decide +kernel
theorem zrl_14 : (List.take 32 (List.drop 448 zc_L_law)).all (fun r => zrok 214 r) = true := by decide +kernel
theorem zrl_15 : (List.take 32 (List.drop 480 zc_L_law)).all (fun r => zrok 214 r) = true := by decide +kernel
theorem zrl_16 : (List.take 32 (List.drop 512 zc_L_law)).all (fun r => zrok 214 r) = true := by decide +kernel
theorem zrl_17 : (List.take 32 (List.drop 544 zc_L_law)).all (fun r => zrok 214 r) = true := by decide +kernel
