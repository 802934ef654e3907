/-! PRINTED BY wip/whole/start.py -/
set_option maxRecDepth 100000 in
theorem qn_S0_0 : (List.range 7).all (fun j => qn_cS (0 + j)) = true := by decide +kernel
set_option maxRecDepth 100000 in
theorem qn_S0_1 : (List.range 7).all (fun j => qn_cS (7 + j)) = true := by decide +kernel
set_option maxRecDepth 100000 in
theorem qn_S0_2 : (List.range 15).all (fun j => qn_cS (14 + j)) = true := by decide +kernel
set_option maxRecDepth 100000 in
theorem qn_S0_3 : (List.range 16).all (fun j => qn_cS (29 + j)) = true := by decide +kernel
set_option maxRecDepth 100000 in
theorem qn_S0_4 : (List.range 19).all (fun j => qn_cS (45 + j)) = true := by decide +kernel
set_option maxRecDepth 100000 in
theorem qn_S0_5 : (List.range 16).all (fun j => qn_cS (64 + j)) = true := by decide +kernel
set_option maxRecDepth 100000 in
theorem qn_S0_6 : (List.range 18).all (fun j => qn_cS (80 + j)) = true := by decide +kernel
set_option maxRecDepth 100000 in
theorem qn_S0_7 : (List.range 14).all (fun j => qn_cS (98 + j)) = true := by decide +kernel
theorem qn_S0 (j : Nat) (hj : j < 112) : qn_cS j = true := by
  by_cases h0 : j < 7
  · have h := List.all_eq_true.mp qn_S0_0 (j - 0) (List.mem_range.mpr (by omega))
    have e : 0 + (j - 0) = j := by omega
    rw [e] at h
    exact h
  by_cases h1 : j < 14
  · have h := List.all_eq_true.mp qn_S0_1 (j - 7) (List.mem_range.mpr (by omega))
    have e : 7 + (j - 7) = j := by omega
    rw [e] at h
    exact h
  by_cases h2 : j < 29
  · have h := List.all_eq_true.mp qn_S0_2 (j - 14) (List.mem_range.mpr (by omega))
    have e : 14 + (j - 14) = j := by omega
    rw [e] at h
    exact h
  by_cases h3 : j < 45
  · have h := List.all_eq_true.mp qn_S0_3 (j - 29) (List.mem_range.mpr (by omega))
    have e : 29 + (j - 29) = j := by omega
    rw [e] at h
    exact h
  by_cases h4 : j < 64
  · have h := List.all_eq_true.mp qn_S0_4 (j - 45) (List.mem_range.mpr (by omega))
    have e : 45 + (j - 45) = j := by omega
    rw [e] at h
    exact h
  by_cases h5 : j < 80
  · have h := List.all_eq_true.mp qn_S0_5 (j - 64) (List.mem_range.mpr (by omega))
    have e : 64 + (j - 64) = j := by omega
    rw [e] at h
    exact h
  by_cases h6 : j < 98
  · have h := List.all_eq_true.mp qn_S0_6 (j - 80) (List.mem_range.mpr (by omega))
    have e : 80 + (j - 80) = j := by omega
    rw [e] at h
    exact h
  by_cases h7 : j < 112
  · have h := List.all_eq_true.mp qn_S0_7 (j - 98) (List.mem_range.mpr (by omega))
    have e : 98 + (j - 98) = j := by omega
    rw [e] at h
    exact h
  omega
set_option maxRecDepth 100000 in
theorem qn_D0_0 : (List.range 36).all (fun j => qn_cD (0 + j)) = true := by decide +kernel
set_option maxRecDepth 100000 in
theorem qn_D0_1 : (List.range 36).all (fun j => qn_cD (36 + j)) = true := by decide +kernel
set_option maxRecDepth 100000 in
theorem qn_D0_2 : (List.range 36).all (fun j => qn_cD (72 + j)) = true := by decide +kernel
set_option maxRecDepth 100000 in
theorem qn_D0_3 : (List.range 36).all (fun j => qn_cD (108 + j)) = true := by decide +kernel
set_option maxRecDepth 100000 in
theorem qn_D0_4 : (List.range 36).all (fun j => qn_cD (144 + j)) = true := by decide +kernel
set_option maxRecDepth 100000 in
theorem qn_D0_5 : (List.range 34).all (fun j => qn_cD (180 + j)) = true := by decide +kernel
theorem qn_D0 (j : Nat) (hj : j < 214) : qn_cD j = true := by
  by_cases h0 : j < 36
  · have h := List.all_eq_true.mp qn_D0_0 (j - 0) (List.mem_range.mpr (by omega))
    have e : 0 + (j - 0) = j := by omega
    rw [e] at h
    exact h
  by_cases h1 : j < 72
  · have h := List.all_eq_true.mp qn_D0_1 (j - 36) (List.mem_range.mpr (by omega))
    have e : 36 + (j - 36) = j := by omega
    rw [e] at h
    exact h
  by_cases h2 : j < 108
  · have h := List.all_eq_true.mp qn_D0_2 (j - 72) (List.mem_range.mpr (by omega))
    have e : 72 + (j - 72) = j := by omega
    rw [e] at h
    exact h
  by_cases h3 : j < 144
  · have h := List.all_eq_true.mp qn_D0_3 (j - 108) (List.mem_range.mpr (by omega))
    have e : 108 + (j - 108) = j := by omega
    rw [e] at h
    exact h
  by_cases h4 : j < 180
  · have h := List.all_eq_true.mp qn_D0_4 (j - 144) (List.mem_range.mpr (by omega))
    have e : 144 + (j - 144) = j := by omega
    rw [e] at h
    exact h
  by_cases h5 : j < 214
  · have h := List.all_eq_true.mp qn_D0_5 (j - 180) (List.mem_range.mpr (by omega))
    have e : 180 + (j - 180) = j := by omega
    rw [e] at h
    exact h
  omega
theorem qr_ys_len : qr_ys.length = 214 := by decide +kernel
