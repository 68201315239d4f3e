set_option maxRecDepth 100000 in
theorem am_mf_90 : ∀ j, j < 1 → am_mf (90 + j) = true := by decide +kernel
set_option maxRecDepth 100000 in
theorem am_mf_91 : ∀ j, j < 1 → am_mf (91 + j) = true := by decide +kernel
set_option maxRecDepth 100000 in
theorem am_mf_92 : ∀ j, j < 1 → am_mf (92 + j) = true := by decide +kernel
set_option maxRecDepth 100000 in
theorem am_mf_93 : ∀ j, j < 1 → am_mf (93 + j) = true := by decide +kernel
set_option maxRecDepth 100000 in
theorem am_mf_94 : ∀ j, j < 1 → am_mf (94 + j) = true := by decide +kernel
set_option maxRecDepth 100000 in
theorem am_mf_95 : ∀ j, j < 1 → am_mf (95 + j) = true := by decide +kernel
set_option maxRecDepth 100000 in
theorem am_mf_96 : ∀ j, j < 1 → am_mf (96 + j) = true := by decide +kernel
set_option maxRecDepth 100000 in
theorem am_mf_97 : ∀ j, j < 1 → am_mf (97 + j) = true := by decide +kernel
set_option maxRecDepth 100000 in
theorem am_mf_98 : ∀ j, j < 1 → am_mf (98 + j) = true := by decide +kernel
set_option maxRecDepth 100000 in
theorem am_mf_99 : ∀ j, j < 1 → am_mf (99 + j) = true := by decide +kernel
set_option maxRecDepth 100000 in
theorem am_mf_100 : ∀ j, j < 1 → am_mf (100 + j) = true := by decide +kernel
set_option maxRecDepth 100000 in
theorem am_mf_101 : ∀ j, j < 1 → am_mf (101 + j) = true := by decide +kernel
set_option maxRecDepth 100000 in
theorem am_mf_102 : ∀ j, j < 1 → am_mf (102 + j) = true := by decide +kernel
set_option maxRecDepth 100000 in
theorem am_mf_103 : ∀ j, j < 1 → am_mf (103 + j) = true := by decide +kernel
set_option maxRecDepth 100000 in
theorem am_mf_104 : ∀ j, j < 1 → am_mf (104 + j) = true := by decide +kernel
set_option maxRecDepth 100000 in
theorem am_mf_105 : ∀ j, j < 1 → am_mf (105 + j) = true := by decide +kernel
set_option maxRecDepth 100000 in
theorem am_mf_106 : ∀ j, j < 1 → am_mf (106 + j) = true := by decide +kernel
set_option maxRecDepth 100000 in
theorem am_mf_107 : ∀ j, j < 1 → am_mf (107 + j) = true := by decide +kernel
set_option maxRecDepth 100000 in
theorem am_mf_108 : ∀ j, j < 1 → am_mf (108 + j) = true := by decide +kernel
