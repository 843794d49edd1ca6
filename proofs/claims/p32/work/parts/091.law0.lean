theorem zrl_0 : (List.take 32 (List.drop 0 zc_L_law)).all (fun r => zrok 214 r) = true := by decide +kernel
theorem zrl_1 : (List.take 32 (List.drop 32 zc_L_law)).all (fun r => zrok 214 r) = true := by decide +kernel
theorem zrl_2 : (List.take 32 (List.drop 64 zc_L_law)).all (fun r => zrok 214 r) = true := by decide +kernel
