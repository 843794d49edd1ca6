theorem zrl_3 : (List.take 32 (List.drop 96 zc_L_law)).all (fun r => zrok 214 r) = true := by decide +kernel
theorem zrl_4 : (List.take 32 (List.drop 128 zc_L_law)).all (fun r => zrok 214 r) = true := by decide +kernel
theorem zrl_5 : (List.take 32 (List.drop 160 zc_L_law)).all (fun r => zrok 214 r) = true := by decide +kernel
