theorem rf_1 : f_X10_refuse 1 = some (.inl 0) := Eq.trans rfl rfl
theorem rf_3 : f_X10_refuse 3 = some (.inl 2) := Eq.trans rfl rfl
