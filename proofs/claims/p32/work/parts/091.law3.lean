theorem zrl_9 : (List.take 32 (List.drop 288 zc_L_law)).all (fun r => zrok 214 r) = true := by decide +kernel
