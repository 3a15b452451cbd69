set_option maxRecDepth 100000 in
set_option maxHeartbeats 4000000 in
theorem ck0 : (List.range 8).all (fun x => am_chk (0 + x) 0 (mN (0 + x))) = true := by decide +kernel
set_option maxRecDepth 100000 in
set_option maxHeartbeats 4000000 in
theorem ck8 : (List.range 8).all (fun x => am_chk (8 + x) 0 (mN (8 + x))) = true := by decide +kernel
set_option maxRecDepth 100000 in
set_option maxHeartbeats 4000000 in
theorem ck16 : (List.range 8).all (fun x => am_chk (16 + x) 0 (mN (16 + x))) = true := by decide +kernel
set_option maxRecDepth 100000 in
set_option maxHeartbeats 4000000 in
theorem ck24 : (List.range 8).all (fun x => am_chk (24 + x) 0 (mN (24 + x))) = true := by decide +kernel
set_option maxRecDepth 100000 in
set_option maxHeartbeats 4000000 in
theorem ck32 : (List.range 8).all (fun x => am_chk (32 + x) 0 (mN (32 + x))) = true := by decide +kernel
set_option maxRecDepth 100000 in
set_option maxHeartbeats 4000000 in
theorem ck40 : (List.range 8).all (fun x => am_chk (40 + x) 0 (mN (40 + x))) = true := by decide +kernel
set_option maxRecDepth 100000 in
set_option maxHeartbeats 4000000 in
theorem ck48 : (List.range 8).all (fun x => am_chk (48 + x) 0 (mN (48 + x))) = true := by decide +kernel
set_option maxRecDepth 100000 in
set_option maxHeartbeats 4000000 in
theorem ck56 : (List.range 8).all (fun x => am_chk (56 + x) 0 (mN (56 + x))) = true := by decide +kernel
set_option maxRecDepth 100000 in
set_option maxHeartbeats 4000000 in
theorem ck64 : (List.range 8).all (fun x => am_chk (64 + x) 0 (mN (64 + x))) = true := by decide +kernel
set_option maxRecDepth 100000 in
set_option maxHeartbeats 4000000 in
theorem ck72 : (List.range 8).all (fun x => am_chk (72 + x) 0 (mN (72 + x))) = true := by decide +kernel
set_option maxRecDepth 100000 in
set_option maxHeartbeats 4000000 in
theorem ck80 : (List.range 8).all (fun x => am_chk (80 + x) 0 (mN (80 + x))) = true := by decide +kernel
set_option maxRecDepth 100000 in
set_option maxHeartbeats 4000000 in
theorem ck88 : (List.range 8).all (fun x => am_chk (88 + x) 0 (mN (88 + x))) = true := by decide +kernel
set_option maxRecDepth 100000 in
set_option maxHeartbeats 4000000 in
theorem ck96 : (List.range 8).all (fun x => am_chk (96 + x) 0 (mN (96 + x))) = true := by decide +kernel
set_option maxRecDepth 100000 in
set_option maxHeartbeats 4000000 in
theorem ck104 : (List.range 8).all (fun x => am_chk (104 + x) 0 (mN (104 + x))) = true := by decide +kernel
set_option maxRecDepth 100000 in
set_option maxHeartbeats 4000000 in
theorem ck112 : (List.range 8).all (fun x => am_chk (112 + x) 0 (mN (112 + x))) = true := by decide +kernel
set_option maxRecDepth 100000 in
set_option maxHeartbeats 4000000 in
theorem ck120 : (List.range 8).all (fun x => am_chk (120 + x) 0 (mN (120 + x))) = true := by decide +kernel
set_option maxRecDepth 100000 in
set_option maxHeartbeats 4000000 in
theorem ck128 : (List.range 8).all (fun x => am_chk (128 + x) 0 (mN (128 + x))) = true := by decide +kernel
set_option maxRecDepth 100000 in
set_option maxHeartbeats 4000000 in
theorem ck136 : (List.range 8).all (fun x => am_chk (136 + x) 0 (mN (136 + x))) = true := by decide +kernel
set_option maxRecDepth 100000 in
set_option maxHeartbeats 4000000 in
theorem ck144 : (List.range 8).all (fun x => am_chk (144 + x) 0 (mN (144 + x))) = true := by decide +kernel
set_option maxRecDepth 100000 in
set_option maxHeartbeats 4000000 in
theorem ck152 : (List.range 8).all (fun x => am_chk (152 + x) 0 (mN (152 + x))) = true := by decide +kernel
set_option maxRecDepth 100000 in
set_option maxHeartbeats 4000000 in
theorem ck160 : (List.range 8).all (fun x => am_chk (160 + x) 0 (mN (160 + x))) = true := by decide +kernel
set_option maxRecDepth 100000 in
set_option maxHeartbeats 4000000 in
theorem ck168 : (List.range 1).all (fun x => am_chk (168 + x) 0 (mN (168 + x))) = true := by decide +kernel
set_option maxRecDepth 100000 in
set_option maxHeartbeats 4000000 in
theorem ckL0 : am_chk 169 0 150 = true := by decide +kernel
set_option maxRecDepth 100000 in
set_option maxHeartbeats 4000000 in
theorem ckL150 : am_chk 169 150 150 = true := by decide +kernel
set_option maxRecDepth 100000 in
set_option maxHeartbeats 4000000 in
theorem ckL300 : am_chk 169 300 150 = true := by decide +kernel
set_option maxRecDepth 100000 in
set_option maxHeartbeats 4000000 in
theorem ckL450 : am_chk 169 450 150 = true := by decide +kernel
set_option maxRecDepth 100000 in
set_option maxHeartbeats 4000000 in
theorem ckL600 : am_chk 169 600 150 = true := by decide +kernel
set_option maxRecDepth 100000 in
set_option maxHeartbeats 4000000 in
theorem ckL750 : am_chk 169 750 150 = true := by decide +kernel
set_option maxRecDepth 100000 in
set_option maxHeartbeats 4000000 in
theorem ckL900 : am_chk 169 900 150 = true := by decide +kernel
set_option maxRecDepth 100000 in
set_option maxHeartbeats 4000000 in
theorem ckL1050 : am_chk 169 1050 150 = true := by decide +kernel
set_option maxRecDepth 100000 in
set_option maxHeartbeats 4000000 in
theorem ckL1200 : am_chk 169 1200 109 = true := by decide +kernel
