/-! methods that throw -/
def nxL : List String := ["java/lang/RuntimeException", "java/lang/Exception"]
abbrev xISE : String := "java/lang/IllegalStateException"
abbrev xUOE : String := "java/lang/UnsupportedOperationException"
abbrev xIAE : String := "java/lang/IllegalArgumentException"
def dcL : List String := ["java/lang/RuntimeException", "java/lang/Exception", Bundle.tN]
def csL : List String := [xISE, xUOE, xIAE]
def bdL : List Cond := dcL.map (fun c => Cond.declares (Bundle.initS c)) ++ csL.map (fun c => Cond.castable c c)
def stL : List (String × Nat × String) := [(RX3, 15, "an owner fails"), (RX3, 22, "a widow fails"), (RX3, 27, "a speaker fails"), (RX9, 304, "no such shelf"), (RX9, 311, "no row"), (RX9, 314, "no such place")]
def ncL : List (String × String) := [(xUOE, xISE), (xIAE, xISE), (xIAE, xUOE), (xISE, xIAE)]
theorem at_g17 : ∀ w ∈ (vx_atS RX3 17 xISE nxL).filter goodWord, w ∈ lw_tbl := by decide +kernel
theorem at_g24 : ∀ w ∈ (vx_atS RX3 24 xUOE nxL).filter goodWord, w ∈ lw_tbl := by decide +kernel
theorem at_g29 : ∀ w ∈ (vx_atS RX3 29 xIAE nxL).filter goodWord, w ∈ lw_tbl := by decide +kernel
theorem at_g306 : ∀ w ∈ (vx_atS RX9 306 xIAE nxL).filter goodWord, w ∈ lw_tbl := by decide +kernel
theorem at_g313 : ∀ w ∈ (vx_atS RX9 313 xISE nxL).filter goodWord, w ∈ lw_tbl := by decide +kernel
theorem at_b17 : ∀ w ∈ (vx_atS RX3 17 xISE nxL).filter (fun w => !goodWord w), w ∈ bdL := by decide +kernel
theorem at_b24 : ∀ w ∈ (vx_atS RX3 24 xUOE nxL).filter (fun w => !goodWord w), w ∈ bdL := by decide +kernel
theorem at_b29 : ∀ w ∈ (vx_atS RX3 29 xIAE nxL).filter (fun w => !goodWord w), w ∈ bdL := by decide +kernel
theorem at_b306 : ∀ w ∈ (vx_atS RX9 306 xIAE nxL).filter (fun w => !goodWord w), w ∈ bdL := by decide +kernel
theorem at_b313 : ∀ w ∈ (vx_atS RX9 313 xISE nxL).filter (fun w => !goodWord w), w ∈ bdL := by decide +kernel
theorem at_o17 : (Cond.classLink RX3 13 xISE :: Cond.initialized xISE :: vx_atS RX3 17 xISE nxL).all vx_ot = true := by decide +kernel
theorem at_o24 : (Cond.classLink RX3 20 xUOE :: Cond.initialized xUOE :: vx_atS RX3 24 xUOE nxL).all vx_ot = true := by decide +kernel
theorem at_o29 : (Cond.classLink RX3 25 xIAE :: Cond.initialized xIAE :: vx_atS RX3 29 xIAE nxL).all vx_ot = true := by decide +kernel
theorem at_o306 : (Cond.classLink RX9 302 xIAE :: Cond.initialized xIAE :: vx_atS RX9 306 xIAE nxL).all vx_ot = true := by decide +kernel
theorem at_o313 : (Cond.classLink RX9 309 xISE :: Cond.initialized xISE :: vx_atS RX9 313 xISE nxL).all vx_ot = true := by decide +kernel
theorem xw_k13 : Cond.classLink RX3 13 xISE ∈ lw_tbl := by decide +kernel
theorem xw_k20 : Cond.classLink RX3 20 xUOE ∈ lw_tbl := by decide +kernel
theorem xw_k25 : Cond.classLink RX3 25 xIAE ∈ lw_tbl := by decide +kernel
theorem xw_k302 : Cond.classLink RX9 302 xIAE ∈ lw_tbl := by decide +kernel
theorem xw_k309 : Cond.classLink RX9 309 xISE ∈ lw_tbl := by decide +kernel
theorem xw_k335 : Cond.classLink RX9 335 xUOE ∈ lw_tbl := by decide +kernel
theorem xw_iISE : Cond.initialized xISE ∈ lw_tbl := by decide +kernel
theorem xw_iUOE : Cond.initialized xUOE ∈ lw_tbl := by decide +kernel
theorem xw_iIAE : Cond.initialized xIAE ∈ lw_tbl := by decide +kernel
