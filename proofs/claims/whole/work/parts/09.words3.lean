theorem ci_0 : ∀ w ∈ u_ws "ChainKeeper" ck_T0 7, w ∈ ck_Wt := by decide +kernel
theorem ci_1 : ∀ w ∈ u_ws "ChainKeeper$Wire" ck_T1 3, w ∈ ck_Wt := by decide +kernel
theorem ci_2 : ∀ w ∈ u_ws "ChainKeeper$Message" ck_T2 13, w ∈ ck_Wt := by decide +kernel
theorem ci_3 : ∀ w ∈ u_ws "ChainKeeper$Chain" ck_T3 3, w ∈ ck_Wt := by decide +kernel
theorem ci_4 : ∀ w ∈ u_ws "ChainKeeper$Node" ck_T4 18, w ∈ ck_Wt := by decide +kernel
theorem ci_5 : ∀ w ∈ u_ws "ChainKeeper$Client" ck_T5 10, w ∈ ck_Wt := by decide +kernel
theorem ci_6 : ∀ w ∈ u_ws "ChainKeeperModel" ck_T6 34, w ∈ ck_Wt := by decide +kernel
