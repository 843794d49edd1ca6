theorem zrl_6 : (List.take 32 (List.drop 192 zc_L_law)).all (fun r => zrok 214 r) = true := by decide +kernel
theorem zrl_7 : (List.take 32 (List.drop 224 zc_L_law)).all (fun r => zrok 214 r) = true := by decide +kernel
theorem zrl_8 : (List.take 32 (List.drop 256 zc_L_law)).all (fun r => zrok 214 r) = true := by decide +kernel
