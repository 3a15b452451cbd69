set_option maxRecDepth 100000 in
set_option maxHeartbeats 4000000 in
theorem ck0 : ([0, 1, 2, 3, 4, 5, 6, 7] : List Nat).all (fun x => am_chk x 0 (mN x)) = true := by decide +kernel
set_option maxRecDepth 100000 in
set_option maxHeartbeats 4000000 in
theorem ck8 : ([8, 9, 10, 12, 13, 14, 15, 16] : List Nat).all (fun x => am_chk x 0 (mN x)) = true := by decide +kernel
set_option maxRecDepth 100000 in
set_option maxHeartbeats 4000000 in
theorem ck16 : ([17, 18, 19, 20, 25, 26, 27, 28] : List Nat).all (fun x => am_chk x 0 (mN x)) = true := by decide +kernel
set_option maxRecDepth 100000 in
set_option maxHeartbeats 4000000 in
theorem ck24 : ([29, 30, 31, 32, 33, 34, 35, 36] : List Nat).all (fun x => am_chk x 0 (mN x)) = true := by decide +kernel
set_option maxRecDepth 100000 in
set_option maxHeartbeats 4000000 in
theorem ck32 : ([37, 38, 39, 40, 41, 42, 43, 44] : List Nat).all (fun x => am_chk x 0 (mN x)) = true := by decide +kernel
set_option maxRecDepth 100000 in
set_option maxHeartbeats 4000000 in
theorem ck40 : ([45, 46, 47, 48, 49, 50, 51, 52] : List Nat).all (fun x => am_chk x 0 (mN x)) = true := by decide +kernel
set_option maxRecDepth 100000 in
set_option maxHeartbeats 4000000 in
theorem ck48 : ([53, 54, 55, 56, 59, 60, 61, 62] : List Nat).all (fun x => am_chk x 0 (mN x)) = true := by decide +kernel
set_option maxRecDepth 100000 in
set_option maxHeartbeats 4000000 in
theorem ck56 : ([63, 64, 65, 66, 67, 68, 70, 71] : List Nat).all (fun x => am_chk x 0 (mN x)) = true := by decide +kernel
set_option maxRecDepth 100000 in
set_option maxHeartbeats 4000000 in
theorem ck64 : ([72, 73, 74, 76, 77, 78, 81, 82] : List Nat).all (fun x => am_chk x 0 (mN x)) = true := by decide +kernel
set_option maxRecDepth 100000 in
set_option maxHeartbeats 4000000 in
theorem ck72 : ([87, 93, 94, 95, 96, 97, 98, 99] : List Nat).all (fun x => am_chk x 0 (mN x)) = true := by decide +kernel
set_option maxRecDepth 100000 in
set_option maxHeartbeats 4000000 in
theorem ck80 : ([100, 101, 102, 170, 171] : List Nat).all (fun x => am_chk x 0 (mN x)) = true := by decide +kernel
set_option maxRecDepth 100000 in
set_option maxHeartbeats 4000000 in
theorem ckL0 : am_chk 169 0 150 = true := by decide +kernel
set_option maxRecDepth 100000 in
set_option maxHeartbeats 4000000 in
theorem ckL150 : am_chk 169 150 150 = true := by decide +kernel
set_option maxRecDepth 100000 in
set_option maxHeartbeats 4000000 in
theorem ckL300 : am_chk 169 300 150 = true := by decide +kernel
set_option maxRecDepth 100000 in
set_option maxHeartbeats 4000000 in
theorem ckL450 : am_chk 169 450 98 = true := by decide +kernel
