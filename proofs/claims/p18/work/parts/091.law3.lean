theorem zrl_21 : (List.take 32 (List.drop 672 zc_L_law)).all (fun r => zrok 214 r) = true := by decide +kernel
theorem zrl_22 : (List.take 32 (List.drop 704 zc_L_law)).all (fun r => zrok 214 r) = true := by decide +kernel
theorem zrl_23 : (List.take 32 (List.drop 736 zc_L_law)).all (fun r => zrok 214 r) = true := by decide +kernel
theorem zrl_24 : (List.take 32 (List.drop 768 zc_L_law)).all (fun r => zrok 214 r) = true := by decide +kernel
