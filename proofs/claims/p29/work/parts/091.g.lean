section zg0
theorem zrl_0 : (List.take 32 (List.drop 0 zc_L_law)).all (fun r => zrok 214 r) = true := by decide +kernel
theorem zrl_1 : (List.take 32 (List.drop 32 zc_L_law)).all (fun r => zrok 214 r) = true := by decide +kernel
theorem zrl_2 : (List.take 32 (List.drop 64 zc_L_law)).all (fun r => zrok 214 r) = true := by decide +kernel
theorem zrl_3 : (List.take 32 (List.drop 96 zc_L_law)).all (fun r => zrok 214 r) = true := by decide +kernel
theorem zrl_4 : (List.take 32 (List.drop 128 zc_L_law)).all (fun r => zrok 214 r) = true := by decide +kernel
theorem zrl_5 : (List.take 32 (List.drop 160 zc_L_law)).all (fun r => zrok 214 r) = true := by decide +kernel
end zg0
section zg1
theorem zrl_6 : (List.take 32 (List.drop 192 zc_L_law)).all (fun r => zrok 214 r) = true := by decide +kernel
theorem zrl_7 : (List.take 32 (List.drop 224 zc_L_law)).all (fun r => zrok 214 r) = true := by decide +kernel
theorem zrl_8 : (List.take 32 (List.drop 256 zc_L_law)).all (fun r => zrok 214 r) = true := by decide +kernel
theorem zrl_9 : (List.take 32 (List.drop 288 zc_L_law)).all (fun r => zrok 214 r) = true := by decide +kernel
theorem zrl_10 : (List.take 32 (List.drop 320 zc_L_law)).all (fun r => zrok 214 r) = true := by decide +kernel
theorem zrl_11 : (List.take 32 (List.drop 352 zc_L_law)).all (fun r => zrok 214 r) = true := by decide +kernel
end zg1
section zg2
theorem zrl_12 : (List.take 32 (List.drop 384 zc_L_law)).all (fun r => zrok 214 r) = true := by decide +kernel
theorem zrl_13 : (List.take 32 (List.drop 416 zc_L_law)).all (fun r => zrok 214 r) = true := by decide +kernel
theorem zrl_14 : (List.take 32 (List.drop 448 zc_L_law)).all (fun r => zrok 214 r) = true := by decide +kernel
theorem zrl_15 : (List.take 32 (List.drop 480 zc_L_law)).all (fun r => zrok 214 r) = true := by decide +kernel
theorem zrl_16 : (List.take 32 (List.drop 512 zc_L_law)).all (fun r => zrok 214 r) = true := by decide +kernel
theorem zrl_17 : (List.take 32 (List.drop 544 zc_L_law)).all (fun r => zrok 214 r) = true := by decide +kernel
end zg2
