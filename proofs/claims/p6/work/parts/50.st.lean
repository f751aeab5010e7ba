theorem p_N.stX7_17 {U : State} (h : p_N U) : ∃ a, vk_R RX7 17 "no such kind" a U := h.st (x := (RX7, 17, "no such kind")) 0 rfl
theorem p_N.stX7_24 {U : State} (h : p_N U) : ∃ a, vk_R RX7 24 "capacity below 0" a U := h.st (x := (RX7, 24, "capacity below 0")) 1 rfl
theorem p_N.stX7_31 {U : State} (h : p_N U) : ∃ a, vk_R RX7 31 "a or b out of range" a U := h.st (x := (RX7, 31, "a or b out of range")) 2 rfl
theorem p_N.stX7_53 {U : State} (h : p_N U) : ∃ a, vk_R RX7 53 "no such op" a U := h.st (x := (RX7, 53, "no such op")) 3 rfl
theorem p_N.stX7_66 {U : State} (h : p_N U) : ∃ a, vk_R RX7 66 "op is not for this kind" a U := h.st (x := (RX7, 66, "op is not for this kind")) 4 rfl
theorem p_N.stX7_144 {U : State} (h : p_N U) : ∃ a, vk_R RX7 144 "no such kind of view" a U := h.st (x := (RX7, 144, "no such kind of view")) 5 rfl
theorem p_N.stX7_151 {U : State} (h : p_N U) : ∃ a, vk_R RX7 151 "b before a" a U := h.st (x := (RX7, 151, "b before a")) 6 rfl
theorem p_N.stX7_172 {U : State} (h : p_N U) : ∃ a, vk_R RX7 172 "stale" a U := h.st (x := (RX7, 172, "stale")) 7 rfl
theorem p_N.stX7_190 {U : State} (h : p_N U) : ∃ a, vk_R RX7 190 "no such part" a U := h.st (x := (RX7, 190, "no such part")) 8 rfl
theorem p_N.stX7_194 {U : State} (h : p_N U) : ∃ a, vk_R RX7 194 "no such key" a U := h.st (x := (RX7, 194, "no such key")) 9 rfl
theorem p_N.stX7_221 {U : State} (h : p_N U) : ∃ a, vk_R RX7 221 "nothing is counted by that number" a U := h.st (x := (RX7, 221, "nothing is counted by that number")) 10 rfl
theorem p_N.stX7_241 {U : State} (h : p_N U) : ∃ a, vk_R RX7 241 "no such object" a U := h.st (x := (RX7, 241, "no such object")) 11 rfl
theorem p_N.stX7_246 {U : State} (h : p_N U) : ∃ a, vk_R RX7 246 "not a map" a U := h.st (x := (RX7, 246, "not a map")) 12 rfl
theorem p_N.stX7_249 {U : State} (h : p_N U) : ∃ a, vk_R RX7 249 "not a tree or submap" a U := h.st (x := (RX7, 249, "not a tree or submap")) 13 rfl
theorem p_N.stX7_251 {U : State} (h : p_N U) : ∃ a, vk_R RX7 251 "not a cursor" a U := h.st (x := (RX7, 251, "not a cursor")) 14 rfl
theorem p_N.stX7_253 {U : State} (h : p_N U) : ∃ a, vk_R RX7 253 "full" a U := h.st (x := (RX7, 253, "full")) 15 rfl
theorem p_N.stX1_46 {U : State} (h : p_N U) : ∃ a, vk_R RX1 46 "none is next" a U := h.st (x := (RX1, 46, "none is next")) 16 rfl
theorem p_N.stX1_60 {U : State} (h : p_N U) : ∃ a, vk_R RX1 60 "none is passed" a U := h.st (x := (RX1, 60, "none is passed")) 17 rfl
