theorem zrl_7 : (List.take 32 (List.drop 224 zc_L_law)).all (fun r => zrok 214 r) = true := by decide +kernel
theorem zrl_8 : (List.take 32 (List.drop 256 zc_L_law)).all (fun r => zrok 214 r) = true := by decide +kernel
theorem zrl_9 : (List.take 32 (List.drop 288 zc_L_law)).all (fun r => zrok 214 r) = true := by decide +kernel
theorem zrl_10 : (List.take 32 (List.drop 320 zc_L_law)).all (fun r => zrok 214 r) = true := by decide +kernel
theorem zrl_11 : (List.take 32 (List.drop 352 zc_L_law)).all (fun r => zrok 214 r) = true := by decide +kernel
theorem zrl_12 : (List.take 32 (List.drop 384 zc_L_law)).all (fun r => zrok 214 r) = true := by decide +kernel
theorem zrl_13 : (List.take 32 (List.drop 416 zc_L_law)).all (fun r => zrok 214 r) = true := by decide +kernel
