theorem zrl_18 : (List.take 32 (List.drop 576 zc_L_law)).all (fun r => zrok 214 r) = true := by decide +kernel
theorem zrl_19 : (List.take 32 (List.drop 608 zc_L_law)).all (fun r => zrok 214 r) = true := by decide +kernel
theorem zrl_20 : (List.take 32 (List.drop 640 zc_L_law)).all (fun r => zrok 214 r) = true := by decide +kernel
theorem zrl_21 : (List.take 32 (List.drop 672 zc_L_law)).all (fun r => zrok 214 r) = true := by decide +kernel
theorem zrl_22 : (List.take 32 (List.drop 704 zc_L_law)).all (fun r => zrok 214 r) = true := by decide +kernel
theorem zrl_23 : (List.take 32 (List.drop 736 zc_L_law)).all (fun r => zrok 214 r) = true := by decide +kernel
