theorem fwX11_348 {M : Mt} (h : M.1.cls = RX11) : FLW M 348 5 6 := ⟨RX5, TX5, 15, cls5, by decide, by decide +kernel, Or.inl (by rw [h]; exact iT_2 110 (by first | rfl | decide +kernel) (by decide +kernel))⟩
theorem fX5_34 {M : Mt} (h : M.1.cls = RX5) : FL M 34 5 7 := ⟨RX5, TX5, 15, cls5, by decide, Or.inl (by rw [h]; exact iT_2 111 (by first | rfl | decide +kernel) (by decide +kernel))⟩
theorem ffX5_34 {M : Mt} (h : M.1.cls = RX5) (hn : M.1.name = "<init>") : FLF M 34 5 7 := ⟨hn, RX5, TX5, 15, cls5, by decide, by decide +kernel, by rw [h]; decide +kernel, by rw [h]; exact iT_2 111 (by first | rfl | decide +kernel) (by decide +kernel)⟩
theorem fX10_44 {M : Mt} (h : M.1.cls = RX10) : FL M 44 5 7 := ⟨RX5, TX5, 15, cls5, by decide, Or.inl (by rw [h]; exact iT_2 112 (by first | rfl | decide +kernel) (by decide +kernel))⟩
theorem fX0_90 {M : Mt} (h : M.1.cls = RX0) : FL M 90 5 7 := ⟨RX5, TX5, 15, cls5, by decide, Or.inl (by rw [h]; exact iT_2 113 (by first | rfl | decide +kernel) (by decide +kernel))⟩
theorem fX3_42 {M : Mt} (h : M.1.cls = RX3) : FL M 42 5 7 := ⟨RX5, TX5, 15, cls5, by decide, Or.inl (by rw [h]; exact iT_2 114 (by first | rfl | decide +kernel) (by decide +kernel))⟩
theorem fX11_168 {M : Mt} (h : M.1.cls = RX11) : FL M 168 5 7 := ⟨RX5, TX5, 15, cls5, by decide, Or.inl (by rw [h]; exact iT_2 115 (by first | rfl | decide +kernel) (by decide +kernel))⟩
theorem fX5_38 {M : Mt} (h : M.1.cls = RX5) : FL M 38 5 8 := ⟨RX5, TX5, 15, cls5, by decide, Or.inl (by rw [h]; exact iT_2 116 (by first | rfl | decide +kernel) (by decide +kernel))⟩
theorem ffX5_38 {M : Mt} (h : M.1.cls = RX5) (hn : M.1.name = "<init>") : FLF M 38 5 8 := ⟨hn, RX5, TX5, 15, cls5, by decide, by decide +kernel, by rw [h]; decide +kernel, by rw [h]; exact iT_2 116 (by first | rfl | decide +kernel) (by decide +kernel)⟩
theorem fX3_25 {M : Mt} (h : M.1.cls = RX3) : FL M 25 5 8 := ⟨RX5, TX5, 15, cls5, by decide, Or.inl (by rw [h]; exact iT_2 117 (by first | rfl | decide +kernel) (by decide +kernel))⟩
theorem fX2_52 {M : Mt} (h : M.1.cls = RX2) : FL M 52 5 8 := ⟨RX5, TX5, 15, cls5, by decide, Or.inl (by rw [h]; exact iT_2 118 (by first | rfl | decide +kernel) (by decide +kernel))⟩
theorem fX0_83 {M : Mt} (h : M.1.cls = RX0) : FL M 83 5 8 := ⟨RX5, TX5, 15, cls5, by decide, Or.inl (by rw [h]; exact iT_2 119 (by first | rfl | decide +kernel) (by decide +kernel))⟩
theorem fX11_171 {M : Mt} (h : M.1.cls = RX11) : FL M 171 5 8 := ⟨RX5, TX5, 15, cls5, by decide, Or.inl (by rw [h]; exact iT_2 120 (by first | rfl | decide +kernel) (by decide +kernel))⟩
theorem fX5_41 {M : Mt} (h : M.1.cls = RX5) : FL M 41 5 9 := ⟨RX5, TX5, 15, cls5, by decide, Or.inl (by rw [h]; exact iT_2 121 (by first | rfl | decide +kernel) (by decide +kernel))⟩
theorem ffX5_41 {M : Mt} (h : M.1.cls = RX5) (hn : M.1.name = "<init>") : FLF M 41 5 9 := ⟨hn, RX5, TX5, 15, cls5, by decide, by decide +kernel, by rw [h]; decide +kernel, by rw [h]; exact iT_2 121 (by first | rfl | decide +kernel) (by decide +kernel)⟩
theorem fX11_177 {M : Mt} (h : M.1.cls = RX11) : FL M 177 5 9 := ⟨RX5, TX5, 15, cls5, by decide, Or.inl (by rw [h]; exact iT_2 122 (by first | rfl | decide +kernel) (by decide +kernel))⟩
theorem fX0_203 {M : Mt} (h : M.1.cls = RX0) : FL M 203 5 9 := ⟨RX5, TX5, 15, cls5, by decide, Or.inl (by rw [h]; exact iT_2 123 (by first | rfl | decide +kernel) (by decide +kernel))⟩
theorem fX5_44 {M : Mt} (h : M.1.cls = RX5) : FL M 44 5 10 := ⟨RX5, TX5, 15, cls5, by decide, Or.inl (by rw [h]; exact iT_2 124 (by first | rfl | decide +kernel) (by decide +kernel))⟩
theorem ffX5_44 {M : Mt} (h : M.1.cls = RX5) (hn : M.1.name = "<init>") : FLF M 44 5 10 := ⟨hn, RX5, TX5, 15, cls5, by decide, by decide +kernel, by rw [h]; decide +kernel, by rw [h]; exact iT_2 124 (by first | rfl | decide +kernel) (by decide +kernel)⟩
theorem fX0_142 {M : Mt} (h : M.1.cls = RX0) : FL M 142 5 10 := ⟨RX5, TX5, 15, cls5, by decide, Or.inl (by rw [h]; exact iT_2 125 (by first | rfl | decide +kernel) (by decide +kernel))⟩
theorem fX5_47 {M : Mt} (h : M.1.cls = RX5) : FL M 47 5 11 := ⟨RX5, TX5, 15, cls5, by decide, Or.inl (by rw [h]; exact iT_2 126 (by first | rfl | decide +kernel) (by decide +kernel))⟩
theorem ffX5_47 {M : Mt} (h : M.1.cls = RX5) (hn : M.1.name = "<init>") : FLF M 47 5 11 := ⟨hn, RX5, TX5, 15, cls5, by decide, by decide +kernel, by rw [h]; decide +kernel, by rw [h]; exact iT_2 126 (by first | rfl | decide +kernel) (by decide +kernel)⟩
theorem fX10_47 {M : Mt} (h : M.1.cls = RX10) : FL M 47 5 11 := ⟨RX5, TX5, 15, cls5, by decide, Or.inl (by rw [h]; exact iT_2 127 (by first | rfl | decide +kernel) (by decide +kernel))⟩
theorem fX0_139 {M : Mt} (h : M.1.cls = RX0) : FL M 139 5 11 := ⟨RX5, TX5, 15, cls5, by decide, Or.inl (by rw [h]; exact iT_2 128 (by first | rfl | decide +kernel) (by decide +kernel))⟩
theorem fX11_153 {M : Mt} (h : M.1.cls = RX11) : FL M 153 5 11 := ⟨RX5, TX5, 15, cls5, by decide, Or.inl (by rw [h]; exact iT_2 129 (by first | rfl | decide +kernel) (by decide +kernel))⟩
theorem fX5_50 {M : Mt} (h : M.1.cls = RX5) : FL M 50 5 12 := ⟨RX5, TX5, 15, cls5, by decide, Or.inl (by rw [h]; exact iT_2 130 (by first | rfl | decide +kernel) (by decide +kernel))⟩
theorem ffX5_50 {M : Mt} (h : M.1.cls = RX5) (hn : M.1.name = "<init>") : FLF M 50 5 12 := ⟨hn, RX5, TX5, 15, cls5, by decide, by decide +kernel, by rw [h]; decide +kernel, by rw [h]; exact iT_2 130 (by first | rfl | decide +kernel) (by decide +kernel)⟩
theorem fX0_162 {M : Mt} (h : M.1.cls = RX0) : FL M 162 5 12 := ⟨RX5, TX5, 15, cls5, by decide, Or.inl (by rw [h]; exact iT_2 131 (by first | rfl | decide +kernel) (by decide +kernel))⟩
theorem fX11_156 {M : Mt} (h : M.1.cls = RX11) : FL M 156 5 12 := ⟨RX5, TX5, 15, cls5, by decide, Or.inl (by rw [h]; exact iT_2 132 (by first | rfl | decide +kernel) (by decide +kernel))⟩
theorem fX5_53 {M : Mt} (h : M.1.cls = RX5) : FL M 53 5 13 := ⟨RX5, TX5, 15, cls5, by decide, Or.inl (by rw [h]; exact iT_2 133 (by first | rfl | decide +kernel) (by decide +kernel))⟩
theorem ffX5_53 {M : Mt} (h : M.1.cls = RX5) (hn : M.1.name = "<init>") : FLF M 53 5 13 := ⟨hn, RX5, TX5, 15, cls5, by decide, by decide +kernel, by rw [h]; decide +kernel, by rw [h]; exact iT_2 133 (by first | rfl | decide +kernel) (by decide +kernel)⟩
theorem fX10_39 {M : Mt} (h : M.1.cls = RX10) : FL M 39 5 13 := ⟨RX5, TX5, 15, cls5, by decide, Or.inl (by rw [h]; exact iT_2 134 (by first | rfl | decide +kernel) (by decide +kernel))⟩
theorem fX0_159 {M : Mt} (h : M.1.cls = RX0) : FL M 159 5 13 := ⟨RX5, TX5, 15, cls5, by decide, Or.inl (by rw [h]; exact iT_2 135 (by first | rfl | decide +kernel) (by decide +kernel))⟩
theorem fX11_183 {M : Mt} (h : M.1.cls = RX11) : FL M 183 5 13 := ⟨RX5, TX5, 15, cls5, by decide, Or.inl (by rw [h]; exact iT_2 136 (by first | rfl | decide +kernel) (by decide +kernel))⟩
theorem fX5_56 {M : Mt} (h : M.1.cls = RX5) : FL M 56 5 14 := ⟨RX5, TX5, 15, cls5, by decide, Or.inl (by rw [h]; exact iT_2 137 (by first | rfl | decide +kernel) (by decide +kernel))⟩
theorem ffX5_56 {M : Mt} (h : M.1.cls = RX5) (hn : M.1.name = "<init>") : FLF M 56 5 14 := ⟨hn, RX5, TX5, 15, cls5, by decide, by decide +kernel, by rw [h]; decide +kernel, by rw [h]; exact iT_2 137 (by first | rfl | decide +kernel) (by decide +kernel)⟩
theorem fX0_165 {M : Mt} (h : M.1.cls = RX0) : FL M 165 5 14 := ⟨RX5, TX5, 15, cls5, by decide, Or.inl (by rw [h]; exact iT_2 138 (by first | rfl | decide +kernel) (by decide +kernel))⟩
theorem fX11_186 {M : Mt} (h : M.1.cls = RX11) : FL M 186 5 14 := ⟨RX5, TX5, 15, cls5, by decide, Or.inl (by rw [h]; exact iT_2 139 (by first | rfl | decide +kernel) (by decide +kernel))⟩
theorem lX11_47 {M : Mt} (h : M.1.cls = RX11) : LK M 47 mX0_init := Or.inl (by rw [h]; exact iT_2 173 (by rfl) (by decide +kernel))
theorem lX0_11 {M : Mt} (h : M.1.cls = RX0) : LK M 11 mX5_init := Or.inr ⟨"GirlShots", by rw [h]; exact iTN_2 178 (by rfl) (by decide +kernel)⟩
theorem fX0_12 {M : Mt} (h : M.1.cls = RX0) : FL M 12 0 0 := ⟨RX0, TX0, 8, cls0, by decide, Or.inl (by rw [h]; exact iT_2 179 (by first | rfl | decide +kernel) (by decide +kernel))⟩
theorem ffX0_12 {M : Mt} (h : M.1.cls = RX0) (hn : M.1.name = "<init>") : FLF M 12 0 0 := ⟨hn, RX0, TX0, 8, cls0, by decide, by decide +kernel, by rw [h]; decide +kernel, by rw [h]; exact iT_2 179 (by first | rfl | decide +kernel) (by decide +kernel)⟩
theorem fX11_232 {M : Mt} (h : M.1.cls = RX11) : FL M 232 0 0 := ⟨RX0, TX0, 8, cls0, by decide, Or.inl (by rw [h]; exact iT_2 180 (by first | rfl | decide +kernel) (by decide +kernel))⟩
theorem fX0_18 {M : Mt} (h : M.1.cls = RX0) : FL M 18 0 1 := ⟨RX0, TX0, 8, cls0, by decide, Or.inl (by rw [h]; exact iT_2 181 (by first | rfl | decide +kernel) (by decide +kernel))⟩
theorem ffX0_18 {M : Mt} (h : M.1.cls = RX0) (hn : M.1.name = "<init>") : FLF M 18 0 1 := ⟨hn, RX0, TX0, 8, cls0, by decide, by decide +kernel, by rw [h]; decide +kernel, by rw [h]; exact iT_2 181 (by first | rfl | decide +kernel) (by decide +kernel)⟩
theorem fX11_341 {M : Mt} (h : M.1.cls = RX11) : FL M 341 0 1 := ⟨RX0, TX0, 8, cls0, by decide, Or.inl (by rw [h]; exact iT_2 182 (by first | rfl | decide +kernel) (by decide +kernel))⟩
theorem fX0_22 {M : Mt} (h : M.1.cls = RX0) : FL M 22 0 2 := ⟨RX0, TX0, 8, cls0, by decide, Or.inl (by rw [h]; exact iT_2 183 (by first | rfl | decide +kernel) (by decide +kernel))⟩
theorem fwX0_22 {M : Mt} (h : M.1.cls = RX0) : FLW M 22 0 2 := ⟨RX0, TX0, 8, cls0, by decide, by decide +kernel, Or.inl (by rw [h]; exact iT_2 183 (by first | rfl | decide +kernel) (by decide +kernel))⟩
theorem fX11_226 {M : Mt} (h : M.1.cls = RX11) : FL M 226 0 2 := ⟨RX0, TX0, 8, cls0, by decide, Or.inl (by rw [h]; exact iT_2 184 (by first | rfl | decide +kernel) (by decide +kernel))⟩
theorem fwX11_226 {M : Mt} (h : M.1.cls = RX11) : FLW M 226 0 2 := ⟨RX0, TX0, 8, cls0, by decide, by decide +kernel, Or.inl (by rw [h]; exact iT_2 184 (by first | rfl | decide +kernel) (by decide +kernel))⟩
theorem fX0_40 {M : Mt} (h : M.1.cls = RX0) : FL M 40 0 3 := ⟨RX0, TX0, 8, cls0, by decide, Or.inl (by rw [h]; exact iT_2 185 (by first | rfl | decide +kernel) (by decide +kernel))⟩
theorem ffX0_40 {M : Mt} (h : M.1.cls = RX0) (hn : M.1.name = "<init>") : FLF M 40 0 3 := ⟨hn, RX0, TX0, 8, cls0, by decide, by decide +kernel, by rw [h]; decide +kernel, by rw [h]; exact iT_2 185 (by first | rfl | decide +kernel) (by decide +kernel)⟩
theorem fX0_26 {M : Mt} (h : M.1.cls = RX0) : FL M 26 0 4 := ⟨RX0, TX0, 8, cls0, by decide, Or.inl (by rw [h]; exact iT_2 186 (by first | rfl | decide +kernel) (by decide +kernel))⟩
theorem ffX0_26 {M : Mt} (h : M.1.cls = RX0) (hn : M.1.name = "<init>") : FLF M 26 0 4 := ⟨hn, RX0, TX0, 8, cls0, by decide, by decide +kernel, by rw [h]; decide +kernel, by rw [h]; exact iT_2 186 (by first | rfl | decide +kernel) (by decide +kernel)⟩
theorem fX0_30 {M : Mt} (h : M.1.cls = RX0) : FL M 30 0 5 := ⟨RX0, TX0, 8, cls0, by decide, Or.inl (by rw [h]; exact iT_2 187 (by first | rfl | decide +kernel) (by decide +kernel))⟩
theorem fwX0_30 {M : Mt} (h : M.1.cls = RX0) : FLW M 30 0 5 := ⟨RX0, TX0, 8, cls0, by decide, by decide +kernel, Or.inl (by rw [h]; exact iT_2 187 (by first | rfl | decide +kernel) (by decide +kernel))⟩
theorem fX0_33 {M : Mt} (h : M.1.cls = RX0) : FL M 33 0 6 := ⟨RX0, TX0, 8, cls0, by decide, Or.inl (by rw [h]; exact iT_2 188 (by first | rfl | decide +kernel) (by decide +kernel))⟩
theorem fwX0_33 {M : Mt} (h : M.1.cls = RX0) : FLW M 33 0 6 := ⟨RX0, TX0, 8, cls0, by decide, by decide +kernel, Or.inl (by rw [h]; exact iT_2 188 (by first | rfl | decide +kernel) (by decide +kernel))⟩
theorem fX0_37 {M : Mt} (h : M.1.cls = RX0) : FL M 37 0 7 := ⟨RX0, TX0, 8, cls0, by decide, Or.inl (by rw [h]; exact iT_2 189 (by first | rfl | decide +kernel) (by decide +kernel))⟩
theorem fwX0_37 {M : Mt} (h : M.1.cls = RX0) : FLW M 37 0 7 := ⟨RX0, TX0, 8, cls0, by decide, by decide +kernel, Or.inl (by rw [h]; exact iT_2 189 (by first | rfl | decide +kernel) (by decide +kernel))⟩
theorem lX11_56 {M : Mt} (h : M.1.cls = RX11) : LK M 56 mX6_init := Or.inr ⟨"GirlShots", by rw [h]; exact iTN_2 209 (by rfl) (by decide +kernel)⟩
theorem fX6_9 {M : Mt} (h : M.1.cls = RX6) : FL M 9 6 0 := ⟨RX6, TX6, 5, cls6, by decide, Or.inl (by rw [h]; exact iT_2 213 (by first | rfl | decide +kernel) (by decide +kernel))⟩
theorem fwX6_9 {M : Mt} (h : M.1.cls = RX6) : FLW M 9 6 0 := ⟨RX6, TX6, 5, cls6, by decide, by decide +kernel, Or.inl (by rw [h]; exact iT_2 213 (by first | rfl | decide +kernel) (by decide +kernel))⟩
theorem fX11_331 {M : Mt} (h : M.1.cls = RX11) : FL M 331 6 0 := ⟨RX6, TX6, 5, cls6, by decide, Or.inl (by rw [h]; exact iT_2 214 (by first | rfl | decide +kernel) (by decide +kernel))⟩
theorem fwX11_331 {M : Mt} (h : M.1.cls = RX11) : FLW M 331 6 0 := ⟨RX6, TX6, 5, cls6, by decide, by decide +kernel, Or.inl (by rw [h]; exact iT_2 214 (by first | rfl | decide +kernel) (by decide +kernel))⟩
theorem fX6_15 {M : Mt} (h : M.1.cls = RX6) : FL M 15 6 1 := ⟨RX6, TX6, 5, cls6, by decide, Or.inl (by rw [h]; exact iT_2 215 (by first | rfl | decide +kernel) (by decide +kernel))⟩
theorem fwX6_15 {M : Mt} (h : M.1.cls = RX6) : FLW M 15 6 1 := ⟨RX6, TX6, 5, cls6, by decide, by decide +kernel, Or.inl (by rw [h]; exact iT_2 215 (by first | rfl | decide +kernel) (by decide +kernel))⟩
theorem fX11_332 {M : Mt} (h : M.1.cls = RX11) : FL M 332 6 1 := ⟨RX6, TX6, 5, cls6, by decide, Or.inl (by rw [h]; exact iT_2 216 (by first | rfl | decide +kernel) (by decide +kernel))⟩
theorem fwX11_332 {M : Mt} (h : M.1.cls = RX11) : FLW M 332 6 1 := ⟨RX6, TX6, 5, cls6, by decide, by decide +kernel, Or.inl (by rw [h]; exact iT_2 216 (by first | rfl | decide +kernel) (by decide +kernel))⟩
theorem fX6_18 {M : Mt} (h : M.1.cls = RX6) : FL M 18 6 2 := ⟨RX6, TX6, 5, cls6, by decide, Or.inl (by rw [h]; exact iT_2 217 (by first | rfl | decide +kernel) (by decide +kernel))⟩
theorem ffX6_18 {M : Mt} (h : M.1.cls = RX6) (hn : M.1.name = "<init>") : FLF M 18 6 2 := ⟨hn, RX6, TX6, 5, cls6, by decide, by decide +kernel, by rw [h]; decide +kernel, by rw [h]; exact iT_2 217 (by first | rfl | decide +kernel) (by decide +kernel)⟩
theorem fX6_22 {M : Mt} (h : M.1.cls = RX6) : FL M 22 6 3 := ⟨RX6, TX6, 5, cls6, by decide, Or.inl (by rw [h]; exact iT_2 218 (by first | rfl | decide +kernel) (by decide +kernel))⟩
theorem ffX6_22 {M : Mt} (h : M.1.cls = RX6) (hn : M.1.name = "<init>") : FLF M 22 6 3 := ⟨hn, RX6, TX6, 5, cls6, by decide, by decide +kernel, by rw [h]; decide +kernel, by rw [h]; exact iT_2 218 (by first | rfl | decide +kernel) (by decide +kernel)⟩
theorem fX6_25 {M : Mt} (h : M.1.cls = RX6) : FL M 25 6 4 := ⟨RX6, TX6, 5, cls6, by decide, Or.inl (by rw [h]; exact iT_2 219 (by first | rfl | decide +kernel) (by decide +kernel))⟩
theorem ffX6_25 {M : Mt} (h : M.1.cls = RX6) (hn : M.1.name = "<init>") : FLF M 25 6 4 := ⟨hn, RX6, TX6, 5, cls6, by decide, by decide +kernel, by rw [h]; decide +kernel, by rw [h]; exact iT_2 219 (by first | rfl | decide +kernel) (by decide +kernel)⟩
theorem lX11_63 {M : Mt} (h : M.1.cls = RX11) : LK M 63 mX10_init := Or.inr ⟨"GirlShots", by rw [h]; exact iTN_2 233 (by rfl) (by decide +kernel)⟩
theorem fX10_7 {M : Mt} (h : M.1.cls = RX10) : FL M 7 10 0 := ⟨RX10, TX10, 4, cls10, by decide, Or.inl (by rw [h]; exact iT_2 237 (by first | rfl | decide +kernel) (by decide +kernel))⟩
theorem fwX10_7 {M : Mt} (h : M.1.cls = RX10) : FLW M 7 10 0 := ⟨RX10, TX10, 4, cls10, by decide, by decide +kernel, Or.inl (by rw [h]; exact iT_2 237 (by first | rfl | decide +kernel) (by decide +kernel))⟩
theorem fX11_359 {M : Mt} (h : M.1.cls = RX11) : FL M 359 10 0 := ⟨RX10, TX10, 4, cls10, by decide, Or.inl (by rw [h]; exact iT_2 238 (by first | rfl | decide +kernel) (by decide +kernel))⟩
theorem fwX11_359 {M : Mt} (h : M.1.cls = RX11) : FLW M 359 10 0 := ⟨RX10, TX10, 4, cls10, by decide, by decide +kernel, Or.inl (by rw [h]; exact iT_2 238 (by first | rfl | decide +kernel) (by decide +kernel))⟩
theorem fX10_13 {M : Mt} (h : M.1.cls = RX10) : FL M 13 10 1 := ⟨RX10, TX10, 4, cls10, by decide, Or.inl (by rw [h]; exact iT_2 239 (by first | rfl | decide +kernel) (by decide +kernel))⟩
theorem ffX10_13 {M : Mt} (h : M.1.cls = RX10) (hn : M.1.name = "<init>") : FLF M 13 10 1 := ⟨hn, RX10, TX10, 4, cls10, by decide, by decide +kernel, by rw [h]; decide +kernel, by rw [h]; exact iT_2 239 (by first | rfl | decide +kernel) (by decide +kernel)⟩
theorem fX10_17 {M : Mt} (h : M.1.cls = RX10) : FL M 17 10 2 := ⟨RX10, TX10, 4, cls10, by decide, Or.inl (by rw [h]; exact iT_3 0 (by first | rfl | decide +kernel) (by decide +kernel))⟩
theorem ffX10_17 {M : Mt} (h : M.1.cls = RX10) (hn : M.1.name = "<init>") : FLF M 17 10 2 := ⟨hn, RX10, TX10, 4, cls10, by decide, by decide +kernel, by rw [h]; decide +kernel, by rw [h]; exact iT_3 0 (by first | rfl | decide +kernel) (by decide +kernel)⟩
theorem fX10_20 {M : Mt} (h : M.1.cls = RX10) : FL M 20 10 3 := ⟨RX10, TX10, 4, cls10, by decide, Or.inl (by rw [h]; exact iT_3 1 (by first | rfl | decide +kernel) (by decide +kernel))⟩
theorem ffX10_20 {M : Mt} (h : M.1.cls = RX10) (hn : M.1.name = "<init>") : FLF M 20 10 3 := ⟨hn, RX10, TX10, 4, cls10, by decide, by decide +kernel, by rw [h]; decide +kernel, by rw [h]; exact iT_3 1 (by first | rfl | decide +kernel) (by decide +kernel)⟩
theorem lX11_70 {M : Mt} (h : M.1.cls = RX11) : LK M 70 mX2_init := Or.inl (by rw [h]; exact iT_3 13 (by rfl) (by decide +kernel))
theorem fX2_9 {M : Mt} (h : M.1.cls = RX2) : FL M 9 2 0 := ⟨RX2, TX2, 5, cls2, by decide, Or.inl (by rw [h]; exact iT_3 17 (by first | rfl | decide +kernel) (by decide +kernel))⟩
theorem ffX2_9 {M : Mt} (h : M.1.cls = RX2) (hn : M.1.name = "<init>") : FLF M 9 2 0 := ⟨hn, RX2, TX2, 5, cls2, by decide, by decide +kernel, by rw [h]; decide +kernel, by rw [h]; exact iT_3 17 (by first | rfl | decide +kernel) (by decide +kernel)⟩
theorem fX11_265 {M : Mt} (h : M.1.cls = RX11) : FL M 265 2 0 := ⟨RX2, TX2, 5, cls2, by decide, Or.inl (by rw [h]; exact iT_3 18 (by first | rfl | decide +kernel) (by decide +kernel))⟩
theorem fX2_15 {M : Mt} (h : M.1.cls = RX2) : FL M 15 2 1 := ⟨RX2, TX2, 5, cls2, by decide, Or.inl (by rw [h]; exact iT_3 19 (by first | rfl | decide +kernel) (by decide +kernel))⟩
theorem fwX2_15 {M : Mt} (h : M.1.cls = RX2) : FLW M 15 2 1 := ⟨RX2, TX2, 5, cls2, by decide, by decide +kernel, Or.inl (by rw [h]; exact iT_3 19 (by first | rfl | decide +kernel) (by decide +kernel))⟩
theorem fX11_262 {M : Mt} (h : M.1.cls = RX11) : FL M 262 2 1 := ⟨RX2, TX2, 5, cls2, by decide, Or.inl (by rw [h]; exact iT_3 20 (by first | rfl | decide +kernel) (by decide +kernel))⟩
theorem fwX11_262 {M : Mt} (h : M.1.cls = RX11) : FLW M 262 2 1 := ⟨RX2, TX2, 5, cls2, by decide, by decide +kernel, Or.inl (by rw [h]; exact iT_3 20 (by first | rfl | decide +kernel) (by decide +kernel))⟩
theorem fX2_25 {M : Mt} (h : M.1.cls = RX2) : FL M 25 2 2 := ⟨RX2, TX2, 5, cls2, by decide, Or.inl (by rw [h]; exact iT_3 21 (by first | rfl | decide +kernel) (by decide +kernel))⟩
theorem ffX2_25 {M : Mt} (h : M.1.cls = RX2) (hn : M.1.name = "<init>") : FLF M 25 2 2 := ⟨hn, RX2, TX2, 5, cls2, by decide, by decide +kernel, by rw [h]; decide +kernel, by rw [h]; exact iT_3 21 (by first | rfl | decide +kernel) (by decide +kernel)⟩
theorem fX2_19 {M : Mt} (h : M.1.cls = RX2) : FL M 19 2 3 := ⟨RX2, TX2, 5, cls2, by decide, Or.inl (by rw [h]; exact iT_3 22 (by first | rfl | decide +kernel) (by decide +kernel))⟩
theorem ffX2_19 {M : Mt} (h : M.1.cls = RX2) (hn : M.1.name = "<init>") : FLF M 19 2 3 := ⟨hn, RX2, TX2, 5, cls2, by decide, by decide +kernel, by rw [h]; decide +kernel, by rw [h]; exact iT_3 22 (by first | rfl | decide +kernel) (by decide +kernel)⟩
theorem fX2_22 {M : Mt} (h : M.1.cls = RX2) : FL M 22 2 4 := ⟨RX2, TX2, 5, cls2, by decide, Or.inl (by rw [h]; exact iT_3 23 (by first | rfl | decide +kernel) (by decide +kernel))⟩
theorem ffX2_22 {M : Mt} (h : M.1.cls = RX2) (hn : M.1.name = "<init>") : FLF M 22 2 4 := ⟨hn, RX2, TX2, 5, cls2, by decide, by decide +kernel, by rw [h]; decide +kernel, by rw [h]; exact iT_3 23 (by first | rfl | decide +kernel) (by decide +kernel)⟩
theorem lX11_77 {M : Mt} (h : M.1.cls = RX11) : LK M 77 mX3_init := Or.inr ⟨"GirlShots", by rw [h]; exact iTN_3 37 (by rfl) (by decide +kernel)⟩
theorem fX3_9 {M : Mt} (h : M.1.cls = RX3) : FL M 9 3 0 := ⟨RX3, TX3, 4, cls3, by decide, Or.inl (by rw [h]; exact iT_3 41 (by first | rfl | decide +kernel) (by decide +kernel))⟩
theorem fwX3_9 {M : Mt} (h : M.1.cls = RX3) : FLW M 9 3 0 := ⟨RX3, TX3, 4, cls3, by decide, by decide +kernel, Or.inl (by rw [h]; exact iT_3 41 (by first | rfl | decide +kernel) (by decide +kernel))⟩
theorem fX11_282 {M : Mt} (h : M.1.cls = RX11) : FL M 282 3 0 := ⟨RX3, TX3, 4, cls3, by decide, Or.inl (by rw [h]; exact iT_3 42 (by first | rfl | decide +kernel) (by decide +kernel))⟩
theorem fwX11_282 {M : Mt} (h : M.1.cls = RX11) : FLW M 282 3 0 := ⟨RX3, TX3, 4, cls3, by decide, by decide +kernel, Or.inl (by rw [h]; exact iT_3 42 (by first | rfl | decide +kernel) (by decide +kernel))⟩
theorem fX3_15 {M : Mt} (h : M.1.cls = RX3) : FL M 15 3 1 := ⟨RX3, TX3, 4, cls3, by decide, Or.inl (by rw [h]; exact iT_3 43 (by first | rfl | decide +kernel) (by decide +kernel))⟩
theorem fwX3_15 {M : Mt} (h : M.1.cls = RX3) : FLW M 15 3 1 := ⟨RX3, TX3, 4, cls3, by decide, by decide +kernel, Or.inl (by rw [h]; exact iT_3 43 (by first | rfl | decide +kernel) (by decide +kernel))⟩
theorem fX3_18 {M : Mt} (h : M.1.cls = RX3) : FL M 18 3 2 := ⟨RX3, TX3, 4, cls3, by decide, Or.inl (by rw [h]; exact iT_3 44 (by first | rfl | decide +kernel) (by decide +kernel))⟩
theorem fwX3_18 {M : Mt} (h : M.1.cls = RX3) : FLW M 18 3 2 := ⟨RX3, TX3, 4, cls3, by decide, by decide +kernel, Or.inl (by rw [h]; exact iT_3 44 (by first | rfl | decide +kernel) (by decide +kernel))⟩
theorem fX3_21 {M : Mt} (h : M.1.cls = RX3) : FL M 21 3 3 := ⟨RX3, TX3, 4, cls3, by decide, Or.inl (by rw [h]; exact iT_3 45 (by first | rfl | decide +kernel) (by decide +kernel))⟩
theorem ffX3_21 {M : Mt} (h : M.1.cls = RX3) (hn : M.1.name = "<init>") : FLF M 21 3 3 := ⟨hn, RX3, TX3, 4, cls3, by decide, by decide +kernel, by rw [h]; decide +kernel, by rw [h]; exact iT_3 45 (by first | rfl | decide +kernel) (by decide +kernel)⟩
theorem lX11_82 {M : Mt} (h : M.1.cls = RX11) : LK M 82 mX5_open := Or.inl (by rw [h]; exact iT_3 55 (by rfl) (by decide +kernel))
theorem lX5_74 {M : Mt} (h : M.1.cls = RX5) : LK M 74 mX11_copyRow := Or.inr ⟨"GirlShots", by rw [h]; exact iTN_3 59 (by rfl) (by decide +kernel)⟩
theorem lX11_303 {M : Mt} (h : M.1.cls = RX11) : LK M 303 mJ9_min_7cf53 := Or.inl (by rw [h]; exact iT_3 62 (by rfl) (by decide +kernel))
theorem lX5_78 {M : Mt} (h : M.1.cls = RX5) : LK M 78 mX11_fill := Or.inr ⟨"GirlShots", by rw [h]; exact iTN_3 66 (by rfl) (by decide +kernel)⟩
theorem fX11_9 {M : Mt} (h : M.1.cls = RX11) : FL M 9 11 0 := ⟨RX11, TX11, 12, cls11, by decide, Or.inl (by rw [h]; exact iT_3 67 (by first | rfl | decide +kernel) (by decide +kernel))⟩
theorem ffX11_9 {M : Mt} (h : M.1.cls = RX11) (hn : M.1.name = "<init>") : FLF M 9 11 0 := ⟨hn, RX11, TX11, 12, cls11, by decide, by decide +kernel, by rw [h]; decide +kernel, by rw [h]; exact iT_3 67 (by first | rfl | decide +kernel) (by decide +kernel)⟩
theorem fX11_13 {M : Mt} (h : M.1.cls = RX11) : FL M 13 11 1 := ⟨RX11, TX11, 12, cls11, by decide, Or.inl (by rw [h]; exact iT_3 68 (by first | rfl | decide +kernel) (by decide +kernel))⟩
theorem fwX11_13 {M : Mt} (h : M.1.cls = RX11) : FLW M 13 11 1 := ⟨RX11, TX11, 12, cls11, by decide, by decide +kernel, Or.inl (by rw [h]; exact iT_3 68 (by first | rfl | decide +kernel) (by decide +kernel))⟩
theorem fX11_20 {M : Mt} (h : M.1.cls = RX11) : FL M 20 11 2 := ⟨RX11, TX11, 12, cls11, by decide, Or.inl (by rw [h]; exact iT_3 69 (by first | rfl | decide +kernel) (by decide +kernel))⟩
theorem ffX11_20 {M : Mt} (h : M.1.cls = RX11) (hn : M.1.name = "<init>") : FLF M 20 11 2 := ⟨hn, RX11, TX11, 12, cls11, by decide, by decide +kernel, by rw [h]; decide +kernel, by rw [h]; exact iT_3 69 (by first | rfl | decide +kernel) (by decide +kernel)⟩
theorem fX11_27 {M : Mt} (h : M.1.cls = RX11) : FL M 27 11 3 := ⟨RX11, TX11, 12, cls11, by decide, Or.inl (by rw [h]; exact iT_3 70 (by first | rfl | decide +kernel) (by decide +kernel))⟩
theorem ffX11_27 {M : Mt} (h : M.1.cls = RX11) (hn : M.1.name = "<init>") : FLF M 27 11 3 := ⟨hn, RX11, TX11, 12, cls11, by decide, by decide +kernel, by rw [h]; decide +kernel, by rw [h]; exact iT_3 70 (by first | rfl | decide +kernel) (by decide +kernel)⟩
theorem fX11_34 {M : Mt} (h : M.1.cls = RX11) : FL M 34 11 4 := ⟨RX11, TX11, 12, cls11, by decide, Or.inl (by rw [h]; exact iT_3 71 (by first | rfl | decide +kernel) (by decide +kernel))⟩
theorem ffX11_34 {M : Mt} (h : M.1.cls = RX11) (hn : M.1.name = "<init>") : FLF M 34 11 4 := ⟨hn, RX11, TX11, 12, cls11, by decide, by decide +kernel, by rw [h]; decide +kernel, by rw [h]; exact iT_3 71 (by first | rfl | decide +kernel) (by decide +kernel)⟩
theorem fX11_38 {M : Mt} (h : M.1.cls = RX11) : FL M 38 11 5 := ⟨RX11, TX11, 12, cls11, by decide, Or.inl (by rw [h]; exact iT_3 72 (by first | rfl | decide +kernel) (by decide +kernel))⟩
