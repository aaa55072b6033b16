/-! printed by wip/whole/gen_links.py: the links of the pools-/
theorem mT_1 {i : Nat} {w : Cond} (h : tables_1_1[i]? = some w) : w ∈ lw_tbl := List.mem_append_right _ (show w ∈ tables_1 from (by unfold tables_1; exact List.mem_append_left _ (List.mem_of_getElem? h)))
theorem iT_1 (i : Nat) {w : Cond} (h : tables_1_1[i]? = some w) (g : goodWord w = true) : w ∈ ALLW := inT (mT_1 h) g
theorem iTN_1 (i : Nat) {w : Cond} (h : tables_1_1[i]? = some w) (g : isNest w = true) : w ∈ NW := inTN (mT_1 h) g
theorem mT_2 {i : Nat} {w : Cond} (h : tables_1_2[i]? = some w) : w ∈ lw_tbl := List.mem_append_right _ (show w ∈ tables_1 from (by unfold tables_1; exact List.mem_append_right _ (List.mem_append_left _ (List.mem_of_getElem? h))))
theorem iT_2 (i : Nat) {w : Cond} (h : tables_1_2[i]? = some w) (g : goodWord w = true) : w ∈ ALLW := inT (mT_2 h) g
theorem iTN_2 (i : Nat) {w : Cond} (h : tables_1_2[i]? = some w) (g : isNest w = true) : w ∈ NW := inTN (mT_2 h) g
theorem mT_3 {i : Nat} {w : Cond} (h : tables_1_3[i]? = some w) : w ∈ lw_tbl := List.mem_append_right _ (show w ∈ tables_1 from (by unfold tables_1; exact List.mem_append_right _ (List.mem_append_right _ (List.mem_append_left _ (List.mem_of_getElem? h)))))
theorem iT_3 (i : Nat) {w : Cond} (h : tables_1_3[i]? = some w) (g : goodWord w = true) : w ∈ ALLW := inT (mT_3 h) g
theorem iTN_3 (i : Nat) {w : Cond} (h : tables_1_3[i]? = some w) (g : isNest w = true) : w ∈ NW := inTN (mT_3 h) g
theorem mT_4 {i : Nat} {w : Cond} (h : tables_1_4[i]? = some w) : w ∈ lw_tbl := List.mem_append_right _ (show w ∈ tables_1 from (by unfold tables_1; exact List.mem_append_right _ (List.mem_append_right _ (List.mem_append_right _ (List.mem_append_left _ (List.mem_of_getElem? h))))))
theorem iT_4 (i : Nat) {w : Cond} (h : tables_1_4[i]? = some w) (g : goodWord w = true) : w ∈ ALLW := inT (mT_4 h) g
theorem iTN_4 (i : Nat) {w : Cond} (h : tables_1_4[i]? = some w) (g : isNest w = true) : w ∈ NW := inTN (mT_4 h) g
theorem mT_5 {i : Nat} {w : Cond} (h : tables_1_5[i]? = some w) : w ∈ lw_tbl := List.mem_append_right _ (show w ∈ tables_1 from (by unfold tables_1; exact List.mem_append_right _ (List.mem_append_right _ (List.mem_append_right _ (List.mem_append_right _ (List.mem_append_left _ (List.mem_of_getElem? h)))))))
theorem iT_5 (i : Nat) {w : Cond} (h : tables_1_5[i]? = some w) (g : goodWord w = true) : w ∈ ALLW := inT (mT_5 h) g
theorem iTN_5 (i : Nat) {w : Cond} (h : tables_1_5[i]? = some w) (g : isNest w = true) : w ∈ NW := inTN (mT_5 h) g
theorem mT_6 {i : Nat} {w : Cond} (h : tables_1_6[i]? = some w) : w ∈ lw_tbl := List.mem_append_right _ (show w ∈ tables_1 from (by unfold tables_1; exact List.mem_append_right _ (List.mem_append_right _ (List.mem_append_right _ (List.mem_append_right _ (List.mem_append_right _ (List.mem_append_left _ (List.mem_of_getElem? h))))))))
theorem iT_6 (i : Nat) {w : Cond} (h : tables_1_6[i]? = some w) (g : goodWord w = true) : w ∈ ALLW := inT (mT_6 h) g
theorem iTN_6 (i : Nat) {w : Cond} (h : tables_1_6[i]? = some w) (g : isNest w = true) : w ∈ NW := inTN (mT_6 h) g
theorem mT_7 {i : Nat} {w : Cond} (h : tables_1_7[i]? = some w) : w ∈ lw_tbl := List.mem_append_right _ (show w ∈ tables_1 from (by unfold tables_1; exact List.mem_append_right _ (List.mem_append_right _ (List.mem_append_right _ (List.mem_append_right _ (List.mem_append_right _ (List.mem_append_right _ (List.mem_append_left _ (List.mem_of_getElem? h)))))))))
theorem iT_7 (i : Nat) {w : Cond} (h : tables_1_7[i]? = some w) (g : goodWord w = true) : w ∈ ALLW := inT (mT_7 h) g
theorem iTN_7 (i : Nat) {w : Cond} (h : tables_1_7[i]? = some w) (g : isNest w = true) : w ∈ NW := inTN (mT_7 h) g
theorem mT_8 {i : Nat} {w : Cond} (h : tables_1_8[i]? = some w) : w ∈ lw_tbl := List.mem_append_right _ (show w ∈ tables_1 from (by unfold tables_1; exact List.mem_append_right _ (List.mem_append_right _ (List.mem_append_right _ (List.mem_append_right _ (List.mem_append_right _ (List.mem_append_right _ (List.mem_append_right _ (List.mem_append_left _ (List.mem_of_getElem? h))))))))))
theorem iT_8 (i : Nat) {w : Cond} (h : tables_1_8[i]? = some w) (g : goodWord w = true) : w ∈ ALLW := inT (mT_8 h) g
theorem iTN_8 (i : Nat) {w : Cond} (h : tables_1_8[i]? = some w) (g : isNest w = true) : w ∈ NW := inTN (mT_8 h) g
theorem mT_9 {i : Nat} {w : Cond} (h : tables_1_9[i]? = some w) : w ∈ lw_tbl := List.mem_append_right _ (show w ∈ tables_1 from (by unfold tables_1; exact List.mem_append_right _ (List.mem_append_right _ (List.mem_append_right _ (List.mem_append_right _ (List.mem_append_right _ (List.mem_append_right _ (List.mem_append_right _ (List.mem_append_right _ (List.mem_of_getElem? h))))))))))
theorem iT_9 (i : Nat) {w : Cond} (h : tables_1_9[i]? = some w) (g : goodWord w = true) : w ∈ ALLW := inT (mT_9 h) g
theorem iTN_9 (i : Nat) {w : Cond} (h : tables_1_9[i]? = some w) (g : isNest w = true) : w ∈ NW := inTN (mT_9 h) g
theorem iT (i : Nat) {w : Cond} (h : tables_1[i]? = some w) (g : goodWord w = true) : w ∈ ALLW := inT (List.mem_append_right _ (List.mem_of_getElem? h)) g
theorem iTN (i : Nat) {w : Cond} (h : tables_1[i]? = some w) (g : isNest w = true) : w ∈ NW := inTN (List.mem_append_right _ (List.mem_of_getElem? h)) g
theorem iS (i : Nat) {w : Cond} (h : (k2_sels lw_privs)[i]? = some w) (g : goodWord w = true) : w ∈ ALLW := inT (List.mem_append_left _ (List.mem_of_getElem? h)) g
theorem inC0 : ∀ w ∈ u_ws RX0 TX0 8, w ∈ ALLW := by
  have h : ∀ i, i < 8 → (u_lay RX0 TX0 i) ∈ ALLW := by
    intro i hi
    match i, hi with
    | 0, _ => exact iT_2 190 (by decide +kernel) (by decide +kernel)
    | 1, _ => exact iT_2 192 (by decide +kernel) (by decide +kernel)
    | 2, _ => exact iT_2 194 (by decide +kernel) (by decide +kernel)
    | 3, _ => exact iT_2 196 (by decide +kernel) (by decide +kernel)
    | 4, _ => exact iT_2 198 (by decide +kernel) (by decide +kernel)
    | 5, _ => exact iT_2 200 (by decide +kernel) (by decide +kernel)
    | 6, _ => exact iT_2 202 (by decide +kernel) (by decide +kernel)
    | 7, _ => exact iT_2 204 (by decide +kernel) (by decide +kernel)
    | k + 8, hk => exact absurd hk (by omega)
  intro w hw
  obtain ⟨i, hi, rfl⟩ := List.mem_map.mp hw
  exact h i (List.mem_range.mp hi)
theorem cls0 : CLS 0 RX0 TX0 8 := ⟨rfl, rfl, by decide, inC0, tyX0_ok, nmX0⟩
theorem inC1 : ∀ w ∈ u_ws RX1 TX1 5, w ∈ ALLW := by
  have h : ∀ i, i < 5 → (u_lay RX1 TX1 i) ∈ ALLW := by
    intro i hi
    match i, hi with
    | 0, _ => exact iT_1 98 (by decide +kernel) (by decide +kernel)
    | 1, _ => exact iT_1 100 (by decide +kernel) (by decide +kernel)
    | 2, _ => exact iT_1 102 (by decide +kernel) (by decide +kernel)
    | 3, _ => exact iT_1 104 (by decide +kernel) (by decide +kernel)
    | 4, _ => exact iT_1 106 (by decide +kernel) (by decide +kernel)
    | k + 5, hk => exact absurd hk (by omega)
  intro w hw
  obtain ⟨i, hi, rfl⟩ := List.mem_map.mp hw
  exact h i (List.mem_range.mp hi)
theorem cls1 : CLS 1 RX1 TX1 5 := ⟨rfl, rfl, by decide, inC1, tyX1_ok, nmX1⟩
theorem inC2 : ∀ w ∈ u_ws RX2 TX2 5, w ∈ ALLW := by
  have h : ∀ i, i < 5 → (u_lay RX2 TX2 i) ∈ ALLW := by
    intro i hi
    match i, hi with
    | 0, _ => exact iT_3 24 (by decide +kernel) (by decide +kernel)
    | 1, _ => exact iT_3 26 (by decide +kernel) (by decide +kernel)
    | 2, _ => exact iT_3 28 (by decide +kernel) (by decide +kernel)
    | 3, _ => exact iT_3 30 (by decide +kernel) (by decide +kernel)
    | 4, _ => exact iT_3 32 (by decide +kernel) (by decide +kernel)
    | k + 5, hk => exact absurd hk (by omega)
  intro w hw
  obtain ⟨i, hi, rfl⟩ := List.mem_map.mp hw
  exact h i (List.mem_range.mp hi)
theorem cls2 : CLS 2 RX2 TX2 5 := ⟨rfl, rfl, by decide, inC2, tyX2_ok, nmX2⟩
theorem inC3 : ∀ w ∈ u_ws RX3 TX3 4, w ∈ ALLW := by
  have h : ∀ i, i < 4 → (u_lay RX3 TX3 i) ∈ ALLW := by
    intro i hi
    match i, hi with
    | 0, _ => exact iT_3 46 (by decide +kernel) (by decide +kernel)
    | 1, _ => exact iT_3 48 (by decide +kernel) (by decide +kernel)
    | 2, _ => exact iT_3 50 (by decide +kernel) (by decide +kernel)
    | 3, _ => exact iT_3 52 (by decide +kernel) (by decide +kernel)
    | k + 4, hk => exact absurd hk (by omega)
  intro w hw
  obtain ⟨i, hi, rfl⟩ := List.mem_map.mp hw
  exact h i (List.mem_range.mp hi)
theorem cls3 : CLS 3 RX3 TX3 4 := ⟨rfl, rfl, by decide, inC3, tyX3_ok, nmX3⟩
theorem inC4 : ∀ w ∈ u_ws RX4 TX4 8, w ∈ ALLW := by
  have h : ∀ i, i < 8 → (u_lay RX4 TX4 i) ∈ ALLW := by
    intro i hi
    match i, hi with
    | 0, _ => exact iT_2 67 (by decide +kernel) (by decide +kernel)
    | 1, _ => exact iT_2 69 (by decide +kernel) (by decide +kernel)
    | 2, _ => exact iT_2 71 (by decide +kernel) (by decide +kernel)
    | 3, _ => exact iT_2 73 (by decide +kernel) (by decide +kernel)
    | 4, _ => exact iT_2 75 (by decide +kernel) (by decide +kernel)
    | 5, _ => exact iT_2 77 (by decide +kernel) (by decide +kernel)
    | 6, _ => exact iT_2 79 (by decide +kernel) (by decide +kernel)
    | 7, _ => exact iT_2 81 (by decide +kernel) (by decide +kernel)
    | k + 8, hk => exact absurd hk (by omega)
  intro w hw
  obtain ⟨i, hi, rfl⟩ := List.mem_map.mp hw
  exact h i (List.mem_range.mp hi)
theorem cls4 : CLS 4 RX4 TX4 8 := ⟨rfl, rfl, by decide, inC4, tyX4_ok, nmX4⟩
theorem inC5 : ∀ w ∈ u_ws RX5 TX5 15, w ∈ ALLW := by
  have h : ∀ i, i < 15 → (u_lay RX5 TX5 i) ∈ ALLW := by
    intro i hi
    match i, hi with
    | 0, _ => exact iT_2 140 (by decide +kernel) (by decide +kernel)
    | 1, _ => exact iT_2 142 (by decide +kernel) (by decide +kernel)
    | 2, _ => exact iT_2 144 (by decide +kernel) (by decide +kernel)
    | 3, _ => exact iT_2 146 (by decide +kernel) (by decide +kernel)
    | 4, _ => exact iT_2 148 (by decide +kernel) (by decide +kernel)
    | 5, _ => exact iT_2 150 (by decide +kernel) (by decide +kernel)
    | 6, _ => exact iT_2 152 (by decide +kernel) (by decide +kernel)
    | 7, _ => exact iT_2 154 (by decide +kernel) (by decide +kernel)
    | 8, _ => exact iT_2 156 (by decide +kernel) (by decide +kernel)
    | 9, _ => exact iT_2 158 (by decide +kernel) (by decide +kernel)
    | 10, _ => exact iT_2 160 (by decide +kernel) (by decide +kernel)
    | 11, _ => exact iT_2 162 (by decide +kernel) (by decide +kernel)
    | 12, _ => exact iT_2 164 (by decide +kernel) (by decide +kernel)
    | 13, _ => exact iT_2 166 (by decide +kernel) (by decide +kernel)
    | 14, _ => exact iT_2 168 (by decide +kernel) (by decide +kernel)
    | k + 15, hk => exact absurd hk (by omega)
  intro w hw
  obtain ⟨i, hi, rfl⟩ := List.mem_map.mp hw
  exact h i (List.mem_range.mp hi)
theorem cls5 : CLS 5 RX5 TX5 15 := ⟨rfl, rfl, by decide, inC5, tyX5_ok, nmX5⟩
theorem inC6 : ∀ w ∈ u_ws RX6 TX6 5, w ∈ ALLW := by
  have h : ∀ i, i < 5 → (u_lay RX6 TX6 i) ∈ ALLW := by
    intro i hi
    match i, hi with
    | 0, _ => exact iT_2 220 (by decide +kernel) (by decide +kernel)
    | 1, _ => exact iT_2 222 (by decide +kernel) (by decide +kernel)
    | 2, _ => exact iT_2 224 (by decide +kernel) (by decide +kernel)
    | 3, _ => exact iT_2 226 (by decide +kernel) (by decide +kernel)
    | 4, _ => exact iT_2 228 (by decide +kernel) (by decide +kernel)
    | k + 5, hk => exact absurd hk (by omega)
  intro w hw
  obtain ⟨i, hi, rfl⟩ := List.mem_map.mp hw
  exact h i (List.mem_range.mp hi)
theorem cls6 : CLS 6 RX6 TX6 5 := ⟨rfl, rfl, by decide, inC6, tyX6_ok, nmX6⟩
theorem inC7 : ∀ w ∈ u_ws RX7 TX7 6, w ∈ ALLW := by
  have h : ∀ i, i < 6 → (u_lay RX7 TX7 i) ∈ ALLW := by
    intro i hi
    match i, hi with
    | 0, _ => exact iT_1 70 (by decide +kernel) (by decide +kernel)
    | 1, _ => exact iT_1 72 (by decide +kernel) (by decide +kernel)
    | 2, _ => exact iT_1 74 (by decide +kernel) (by decide +kernel)
    | 3, _ => exact iT_1 76 (by decide +kernel) (by decide +kernel)
    | 4, _ => exact iT_1 78 (by decide +kernel) (by decide +kernel)
    | 5, _ => exact iT_1 80 (by decide +kernel) (by decide +kernel)
    | k + 6, hk => exact absurd hk (by omega)
  intro w hw
  obtain ⟨i, hi, rfl⟩ := List.mem_map.mp hw
  exact h i (List.mem_range.mp hi)
theorem cls7 : CLS 7 RX7 TX7 6 := ⟨rfl, rfl, by decide, inC7, tyX7_ok, nmX7⟩
theorem inC8 : ∀ w ∈ u_ws RX8 TX8 8, w ∈ ALLW := by
  have h : ∀ i, i < 8 → (u_lay RX8 TX8 i) ∈ ALLW := by
    intro i hi
    match i, hi with
    | 0, _ => exact iT_2 39 (by decide +kernel) (by decide +kernel)
    | 1, _ => exact iT_2 41 (by decide +kernel) (by decide +kernel)
    | 2, _ => exact iT_2 43 (by decide +kernel) (by decide +kernel)
    | 3, _ => exact iT_2 45 (by decide +kernel) (by decide +kernel)
    | 4, _ => exact iT_2 47 (by decide +kernel) (by decide +kernel)
    | 5, _ => exact iT_2 49 (by decide +kernel) (by decide +kernel)
    | 6, _ => exact iT_2 51 (by decide +kernel) (by decide +kernel)
    | 7, _ => exact iT_2 53 (by decide +kernel) (by decide +kernel)
    | k + 8, hk => exact absurd hk (by omega)
  intro w hw
  obtain ⟨i, hi, rfl⟩ := List.mem_map.mp hw
  exact h i (List.mem_range.mp hi)
theorem cls8 : CLS 8 RX8 TX8 8 := ⟨rfl, rfl, by decide, inC8, tyX8_ok, nmX8⟩
theorem inC9 : ∀ w ∈ u_ws RX9 TX9 15, w ∈ ALLW := by
  have h : ∀ i, i < 15 → (u_lay RX9 TX9 i) ∈ ALLW := by
    intro i hi
    match i, hi with
    | 0, _ => exact iT_1 164 (by decide +kernel) (by decide +kernel)
    | 1, _ => exact iT_1 166 (by decide +kernel) (by decide +kernel)
    | 2, _ => exact iT_1 168 (by decide +kernel) (by decide +kernel)
    | 3, _ => exact iT_1 170 (by decide +kernel) (by decide +kernel)
    | 4, _ => exact iT_1 172 (by decide +kernel) (by decide +kernel)
    | 5, _ => exact iT_1 174 (by decide +kernel) (by decide +kernel)
    | 6, _ => exact iT_1 176 (by decide +kernel) (by decide +kernel)
    | 7, _ => exact iT_1 178 (by decide +kernel) (by decide +kernel)
    | 8, _ => exact iT_1 180 (by decide +kernel) (by decide +kernel)
    | 9, _ => exact iT_1 182 (by decide +kernel) (by decide +kernel)
    | 10, _ => exact iT_1 184 (by decide +kernel) (by decide +kernel)
    | 11, _ => exact iT_1 186 (by decide +kernel) (by decide +kernel)
    | 12, _ => exact iT_1 188 (by decide +kernel) (by decide +kernel)
    | 13, _ => exact iT_1 190 (by decide +kernel) (by decide +kernel)
    | 14, _ => exact iT_1 192 (by decide +kernel) (by decide +kernel)
    | k + 15, hk => exact absurd hk (by omega)
  intro w hw
  obtain ⟨i, hi, rfl⟩ := List.mem_map.mp hw
  exact h i (List.mem_range.mp hi)
theorem cls9 : CLS 9 RX9 TX9 15 := ⟨rfl, rfl, by decide, inC9, tyX9_ok, nmX9⟩
theorem inC10 : ∀ w ∈ u_ws RX10 TX10 4, w ∈ ALLW := by
  have h : ∀ i, i < 4 → (u_lay RX10 TX10 i) ∈ ALLW := by
    intro i hi
    match i, hi with
    | 0, _ => exact iT_3 2 (by decide +kernel) (by decide +kernel)
    | 1, _ => exact iT_3 4 (by decide +kernel) (by decide +kernel)
    | 2, _ => exact iT_3 6 (by decide +kernel) (by decide +kernel)
    | 3, _ => exact iT_3 8 (by decide +kernel) (by decide +kernel)
    | k + 4, hk => exact absurd hk (by omega)
  intro w hw
  obtain ⟨i, hi, rfl⟩ := List.mem_map.mp hw
  exact h i (List.mem_range.mp hi)
theorem cls10 : CLS 10 RX10 TX10 4 := ⟨rfl, rfl, by decide, inC10, tyX10_ok, nmX10⟩
theorem inC11 : ∀ w ∈ u_ws RX11 TX11 12, w ∈ ALLW := by
  have h : ∀ i, i < 12 → (u_lay RX11 TX11 i) ∈ ALLW := by
    intro i hi
    match i, hi with
    | 0, _ => exact iT_3 79 (by decide +kernel) (by decide +kernel)
    | 1, _ => exact iT_3 81 (by decide +kernel) (by decide +kernel)
    | 2, _ => exact iT_3 83 (by decide +kernel) (by decide +kernel)
    | 3, _ => exact iT_3 85 (by decide +kernel) (by decide +kernel)
    | 4, _ => exact iT_3 87 (by decide +kernel) (by decide +kernel)
    | 5, _ => exact iT_3 89 (by decide +kernel) (by decide +kernel)
    | 6, _ => exact iT_3 91 (by decide +kernel) (by decide +kernel)
    | 7, _ => exact iT_3 93 (by decide +kernel) (by decide +kernel)
    | 8, _ => exact iT_3 95 (by decide +kernel) (by decide +kernel)
    | 9, _ => exact iT_3 97 (by decide +kernel) (by decide +kernel)
    | 10, _ => exact iT_3 99 (by decide +kernel) (by decide +kernel)
    | 11, _ => exact iT_3 101 (by decide +kernel) (by decide +kernel)
    | k + 12, hk => exact absurd hk (by omega)
  intro w hw
  obtain ⟨i, hi, rfl⟩ := List.mem_map.mp hw
  exact h i (List.mem_range.mp hi)
theorem cls11 : CLS 11 RX11 TX11 12 := ⟨rfl, rfl, by decide, inC11, tyX11_ok, nmX11⟩
theorem inC12 : ∀ w ∈ u_ws RX12 TX12 75, w ∈ ALLW := by
  have h : ∀ i, i < 75 → (u_lay RX12 TX12 i) ∈ ALLW := by
    intro i hi
    match i, hi with
    | 0, _ => exact iT_6 183 (by decide +kernel) (by decide +kernel)
    | 1, _ => exact iT_6 185 (by decide +kernel) (by decide +kernel)
    | 2, _ => exact iT_6 187 (by decide +kernel) (by decide +kernel)
    | 3, _ => exact iT_6 189 (by decide +kernel) (by decide +kernel)
    | 4, _ => exact iT_6 191 (by decide +kernel) (by decide +kernel)
    | 5, _ => exact iT_6 193 (by decide +kernel) (by decide +kernel)
    | 6, _ => exact iT_6 195 (by decide +kernel) (by decide +kernel)
    | 7, _ => exact iT_6 197 (by decide +kernel) (by decide +kernel)
    | 8, _ => exact iT_6 199 (by decide +kernel) (by decide +kernel)
    | 9, _ => exact iT_6 201 (by decide +kernel) (by decide +kernel)
    | 10, _ => exact iT_6 203 (by decide +kernel) (by decide +kernel)
    | 11, _ => exact iT_6 205 (by decide +kernel) (by decide +kernel)
    | 12, _ => exact iT_6 207 (by decide +kernel) (by decide +kernel)
    | 13, _ => exact iT_6 209 (by decide +kernel) (by decide +kernel)
    | 14, _ => exact iT_6 211 (by decide +kernel) (by decide +kernel)
    | 15, _ => exact iT_6 213 (by decide +kernel) (by decide +kernel)
    | 16, _ => exact iT_6 215 (by decide +kernel) (by decide +kernel)
    | 17, _ => exact iT_6 217 (by decide +kernel) (by decide +kernel)
    | 18, _ => exact iT_6 219 (by decide +kernel) (by decide +kernel)
    | 19, _ => exact iT_6 221 (by decide +kernel) (by decide +kernel)
    | 20, _ => exact iT_6 223 (by decide +kernel) (by decide +kernel)
    | 21, _ => exact iT_6 225 (by decide +kernel) (by decide +kernel)
    | 22, _ => exact iT_6 227 (by decide +kernel) (by decide +kernel)
    | 23, _ => exact iT_6 229 (by decide +kernel) (by decide +kernel)
    | 24, _ => exact iT_6 231 (by decide +kernel) (by decide +kernel)
    | 25, _ => exact iT_6 233 (by decide +kernel) (by decide +kernel)
    | 26, _ => exact iT_6 235 (by decide +kernel) (by decide +kernel)
    | 27, _ => exact iT_6 237 (by decide +kernel) (by decide +kernel)
    | 28, _ => exact iT_6 239 (by decide +kernel) (by decide +kernel)
    | 29, _ => exact iT_7 1 (by decide +kernel) (by decide +kernel)
    | 30, _ => exact iT_7 3 (by decide +kernel) (by decide +kernel)
    | 31, _ => exact iT_7 5 (by decide +kernel) (by decide +kernel)
    | 32, _ => exact iT_7 7 (by decide +kernel) (by decide +kernel)
    | 33, _ => exact iT_7 9 (by decide +kernel) (by decide +kernel)
    | 34, _ => exact iT_7 11 (by decide +kernel) (by decide +kernel)
    | 35, _ => exact iT_7 13 (by decide +kernel) (by decide +kernel)
    | 36, _ => exact iT_7 15 (by decide +kernel) (by decide +kernel)
    | 37, _ => exact iT_7 17 (by decide +kernel) (by decide +kernel)
    | 38, _ => exact iT_7 19 (by decide +kernel) (by decide +kernel)
    | 39, _ => exact iT_7 21 (by decide +kernel) (by decide +kernel)
    | 40, _ => exact iT_7 23 (by decide +kernel) (by decide +kernel)
    | 41, _ => exact iT_7 25 (by decide +kernel) (by decide +kernel)
    | 42, _ => exact iT_7 27 (by decide +kernel) (by decide +kernel)
    | 43, _ => exact iT_7 29 (by decide +kernel) (by decide +kernel)
    | 44, _ => exact iT_7 31 (by decide +kernel) (by decide +kernel)
    | 45, _ => exact iT_7 33 (by decide +kernel) (by decide +kernel)
    | 46, _ => exact iT_7 35 (by decide +kernel) (by decide +kernel)
    | 47, _ => exact iT_7 37 (by decide +kernel) (by decide +kernel)
    | 48, _ => exact iT_7 39 (by decide +kernel) (by decide +kernel)
    | 49, _ => exact iT_7 41 (by decide +kernel) (by decide +kernel)
    | 50, _ => exact iT_7 43 (by decide +kernel) (by decide +kernel)
    | 51, _ => exact iT_7 45 (by decide +kernel) (by decide +kernel)
    | 52, _ => exact iT_7 47 (by decide +kernel) (by decide +kernel)
    | 53, _ => exact iT_7 49 (by decide +kernel) (by decide +kernel)
    | 54, _ => exact iT_7 51 (by decide +kernel) (by decide +kernel)
    | 55, _ => exact iT_7 53 (by decide +kernel) (by decide +kernel)
    | 56, _ => exact iT_7 55 (by decide +kernel) (by decide +kernel)
    | 57, _ => exact iT_7 57 (by decide +kernel) (by decide +kernel)
    | 58, _ => exact iT_7 59 (by decide +kernel) (by decide +kernel)
    | 59, _ => exact iT_7 61 (by decide +kernel) (by decide +kernel)
    | 60, _ => exact iT_7 63 (by decide +kernel) (by decide +kernel)
    | 61, _ => exact iT_7 65 (by decide +kernel) (by decide +kernel)
    | 62, _ => exact iT_7 67 (by decide +kernel) (by decide +kernel)
    | 63, _ => exact iT_7 69 (by decide +kernel) (by decide +kernel)
    | 64, _ => exact iT_7 71 (by decide +kernel) (by decide +kernel)
    | 65, _ => exact iT_7 73 (by decide +kernel) (by decide +kernel)
    | 66, _ => exact iT_7 75 (by decide +kernel) (by decide +kernel)
    | 67, _ => exact iT_7 77 (by decide +kernel) (by decide +kernel)
    | 68, _ => exact iT_7 79 (by decide +kernel) (by decide +kernel)
    | 69, _ => exact iT_7 81 (by decide +kernel) (by decide +kernel)
    | 70, _ => exact iT_7 83 (by decide +kernel) (by decide +kernel)
    | 71, _ => exact iT_7 85 (by decide +kernel) (by decide +kernel)
    | 72, _ => exact iT_7 87 (by decide +kernel) (by decide +kernel)
    | 73, _ => exact iT_7 89 (by decide +kernel) (by decide +kernel)
    | 74, _ => exact iT_7 91 (by decide +kernel) (by decide +kernel)
    | k + 75, hk => exact absurd hk (by omega)
  intro w hw
  obtain ⟨i, hi, rfl⟩ := List.mem_map.mp hw
  exact h i (List.mem_range.mp hi)
theorem cls12 : CLS 12 RX12 TX12 75 := ⟨rfl, rfl, by decide, inC12, tyX12_ok, nmX12⟩
abbrev mX0_init : Mt := (yX0_init, cX0_init, 2, none)
theorem iX0_init : MIn mX0_init 1 := ⟨rfl, rfl, iT_2 174 (by rfl) (by decide +kernel), iT_1 13 (by rfl) (by decide +kernel), iT_2 175 (by rfl) (by decide +kernel), ⟨by decide +kernel, by decide +kernel, by decide +kernel⟩, by decide⟩
abbrev mX0_begin : Mt := (yX0_begin, cX0_begin, 2, none)
theorem iX0_begin : MI mX0_begin 1 := ⟨iT_4 108 (by rfl) (by decide +kernel), iT_4 109 (by rfl) (by decide +kernel), iT_1 13 (by rfl) (by decide +kernel), iT_4 110 (by rfl) (by decide +kernel), ⟨by decide +kernel, by decide +kernel, by decide +kernel⟩, by decide⟩
abbrev mX0_otherwise : Mt := (yX0_otherwise, cX0_otherwise, 3, none)
theorem iX0_otherwise : MI mX0_otherwise 2 := ⟨iT_5 216 (by rfl) (by decide +kernel), iT_5 217 (by rfl) (by decide +kernel), iT_1 13 (by rfl) (by decide +kernel), iT_5 218 (by rfl) (by decide +kernel), ⟨by decide +kernel, by decide +kernel, by decide +kernel⟩, by decide⟩
abbrev mX0_pass : Mt := (yX0_pass, cX0_pass, 5, none)
theorem iX0_pass : MI mX0_pass 1 := ⟨iT_4 209 (by rfl) (by decide +kernel), iT_4 210 (by rfl) (by decide +kernel), iT_1 13 (by rfl) (by decide +kernel), iT_4 211 (by rfl) (by decide +kernel), ⟨by decide +kernel, by decide +kernel, by decide +kernel⟩, by decide⟩
abbrev mX0_isAway : Mt := (yX0_isAway, cX0_isAway, 1, some FieldType.boolean)
theorem iX0_isAway : MI mX0_isAway 0 := ⟨iT_4 214 (by rfl) (by decide +kernel), iS 30 (by rfl) (by decide +kernel), iT_1 13 (by rfl) (by decide +kernel), iT_4 215 (by rfl) (by decide +kernel), ⟨by decide +kernel, by decide +kernel, by decide +kernel⟩, by decide⟩
abbrev mX0_film : Mt := (yX0_film, cX0_film, 6, none)
theorem iX0_film : MI mX0_film 2 := ⟨iT_4 228 (by rfl) (by decide +kernel), iS 31 (by rfl) (by decide +kernel), iT_1 13 (by rfl) (by decide +kernel), iT_4 229 (by rfl) (by decide +kernel), ⟨by decide +kernel, by decide +kernel, by decide +kernel⟩, by decide⟩
abbrev mX0_give : Mt := (yX0_give, cX0_give, 7, none)
theorem iX0_give : MI mX0_give 1 := ⟨iT_4 238 (by rfl) (by decide +kernel), iS 32 (by rfl) (by decide +kernel), iT_1 13 (by rfl) (by decide +kernel), iT_4 239 (by rfl) (by decide +kernel), ⟨by decide +kernel, by decide +kernel, by decide +kernel⟩, by decide⟩
abbrev mX0_filmOneAgain : Mt := (yX0_filmOneAgain, cX0_filmOneAgain, 6, none)
theorem iX0_filmOneAgain : MI mX0_filmOneAgain 0 := ⟨iT_5 3 (by rfl) (by decide +kernel), iS 33 (by rfl) (by decide +kernel), iT_1 13 (by rfl) (by decide +kernel), iT_5 4 (by rfl) (by decide +kernel), ⟨by decide +kernel, by decide +kernel, by decide +kernel⟩, by decide⟩
abbrev mX0_filmAgain : Mt := (yX0_filmAgain, cX0_filmAgain, 4, none)
theorem iX0_filmAgain : MI mX0_filmAgain 1 := ⟨iT_5 15 (by rfl) (by decide +kernel), iS 34 (by rfl) (by decide +kernel), iT_1 13 (by rfl) (by decide +kernel), iT_5 16 (by rfl) (by decide +kernel), ⟨by decide +kernel, by decide +kernel, by decide +kernel⟩, by decide⟩
abbrev mX0_isSo : Mt := (yX0_isSo, cX0_isSo, 3, some FieldType.boolean)
theorem iX0_isSo : MSt mX0_isSo 2 := ⟨iT_4 234 (by rfl) (by decide +kernel), iT_1 13 (by rfl) (by decide +kernel), iT_4 235 (by rfl) (by decide +kernel), ⟨by decide +kernel, by decide +kernel, by decide +kernel⟩, by decide⟩
abbrev mX0_noticeWorth : Mt := (yX0_noticeWorth, cX0_noticeWorth, 3, some FieldType.long)
theorem iX0_noticeWorth : MI mX0_noticeWorth 2 := ⟨iT_4 122 (by rfl) (by decide +kernel), iT_4 123 (by rfl) (by decide +kernel), iT_1 13 (by rfl) (by decide +kernel), iT_4 124 (by rfl) (by decide +kernel), ⟨by decide +kernel, by decide +kernel, by decide +kernel⟩, by decide⟩
abbrev mX0_yieldWorth : Mt := (yX0_yieldWorth, cX0_yieldWorth, 3, some FieldType.long)
theorem iX0_yieldWorth : MI mX0_yieldWorth 2 := ⟨iT_4 161 (by rfl) (by decide +kernel), iT_4 162 (by rfl) (by decide +kernel), iT_1 13 (by rfl) (by decide +kernel), iT_4 163 (by rfl) (by decide +kernel), ⟨by decide +kernel, by decide +kernel, by decide +kernel⟩, by decide⟩
abbrev mX0_againWorth : Mt := (yX0_againWorth, cX0_againWorth, 2, some FieldType.long)
theorem iX0_againWorth : MI mX0_againWorth 1 := ⟨iT_4 165 (by rfl) (by decide +kernel), iT_4 166 (by rfl) (by decide +kernel), iT_1 13 (by rfl) (by decide +kernel), iT_4 167 (by rfl) (by decide +kernel), ⟨by decide +kernel, by decide +kernel, by decide +kernel⟩, by decide⟩
abbrev mX0_isSaid : Mt := (yX0_isSaid, cX0_isSaid, 2, some FieldType.int)
theorem iX0_isSaid : MI mX0_isSaid 1 := ⟨iT_4 128 (by rfl) (by decide +kernel), iS 26 (by rfl) (by decide +kernel), iT_1 13 (by rfl) (by decide +kernel), iT_4 129 (by rfl) (by decide +kernel), ⟨by decide +kernel, by decide +kernel, by decide +kernel⟩, by decide⟩
abbrev mX0_worthOf : Mt := (yX0_worthOf, cX0_worthOf, 7, some FieldType.long)
theorem iX0_worthOf : MI mX0_worthOf 6 := ⟨iT_4 136 (by rfl) (by decide +kernel), iS 27 (by rfl) (by decide +kernel), iT_1 13 (by rfl) (by decide +kernel), iT_4 137 (by rfl) (by decide +kernel), ⟨by decide +kernel, by decide +kernel, by decide +kernel⟩, by decide⟩
abbrev mX1_init : Mt := (yX1_init, cX1_init, 1, none)
theorem iX1_init : MIn mX1_init 0 := ⟨rfl, rfl, iT_1 88 (by rfl) (by decide +kernel), iT_1 5 (by rfl) (by decide +kernel), iT_1 89 (by rfl) (by decide +kernel), ⟨by decide +kernel, by decide +kernel, by decide +kernel⟩, by decide⟩
abbrev mX1_clear : Mt := (yX1_clear, cX1_clear, 1, none)
theorem iX1_clear : MI mX1_clear 0 := ⟨iT_3 130 (by rfl) (by decide +kernel), iT_3 131 (by rfl) (by decide +kernel), iT_1 5 (by rfl) (by decide +kernel), iT_3 132 (by rfl) (by decide +kernel), ⟨by decide +kernel, by decide +kernel, by decide +kernel⟩, by decide⟩
abbrev mX1_copy : Mt := (yX1_copy, cX1_copy, 2, none)
theorem iX1_copy : MI mX1_copy 1 := ⟨iT_4 51 (by rfl) (by decide +kernel), iT_4 52 (by rfl) (by decide +kernel), iT_1 5 (by rfl) (by decide +kernel), iT_4 53 (by rfl) (by decide +kernel), ⟨by decide +kernel, by decide +kernel, by decide +kernel⟩, by decide⟩
abbrev mX1_add : Mt := (yX1_add, cX1_add, 3, none)
theorem iX1_add : MI mX1_add 2 := ⟨iT_4 14 (by rfl) (by decide +kernel), iT_4 15 (by rfl) (by decide +kernel), iT_1 5 (by rfl) (by decide +kernel), iT_4 16 (by rfl) (by decide +kernel), ⟨by decide +kernel, by decide +kernel, by decide +kernel⟩, by decide⟩
abbrev mX1_worth : Mt := (yX1_worth, cX1_worth, 10, some FieldType.long)
theorem iX1_worth : MI mX1_worth 1 := ⟨iT_4 140 (by rfl) (by decide +kernel), iT_4 141 (by rfl) (by decide +kernel), iT_1 5 (by rfl) (by decide +kernel), iT_4 142 (by rfl) (by decide +kernel), ⟨by decide +kernel, by decide +kernel, by decide +kernel⟩, by decide⟩
abbrev mX1_openAt : Mt := (yX1_openAt, cX1_openAt, 2, some FieldType.long)
theorem iX1_openAt : MI mX1_openAt 1 := ⟨iT_4 149 (by rfl) (by decide +kernel), iS 28 (by rfl) (by decide +kernel), iT_1 5 (by rfl) (by decide +kernel), iT_4 150 (by rfl) (by decide +kernel), ⟨by decide +kernel, by decide +kernel, by decide +kernel⟩, by decide⟩
abbrev mX1_partsOf : Mt := (yX1_partsOf, cX1_partsOf, 1, some FieldType.int)
theorem iX1_partsOf : MSt mX1_partsOf 1 := ⟨iT_4 145 (by rfl) (by decide +kernel), iT_1 5 (by rfl) (by decide +kernel), iT_4 146 (by rfl) (by decide +kernel), ⟨by decide +kernel, by decide +kernel, by decide +kernel⟩, by decide⟩
abbrev mX1_leaf : Mt := (yX1_leaf, cX1_leaf, 4, some FieldType.long)
theorem iX1_leaf : MSt mX1_leaf 3 := ⟨iT_4 157 (by rfl) (by decide +kernel), iT_1 5 (by rfl) (by decide +kernel), iT_4 158 (by rfl) (by decide +kernel), ⟨by decide +kernel, by decide +kernel, by decide +kernel⟩, by decide⟩
abbrev mX1_join : Mt := (yX1_join, cX1_join, 9, some FieldType.long)
theorem iX1_join : MSt mX1_join 3 := ⟨iT_4 152 (by rfl) (by decide +kernel), iT_1 5 (by rfl) (by decide +kernel), iT_4 153 (by rfl) (by decide +kernel), ⟨by decide +kernel, by decide +kernel, by decide +kernel⟩, by decide⟩
abbrev mX2_init : Mt := (yX2_init, cX2_init, 2, none)
theorem iX2_init : MIn mX2_init 1 := ⟨rfl, rfl, iT_3 14 (by rfl) (by decide +kernel), iT_1 16 (by rfl) (by decide +kernel), iT_3 15 (by rfl) (by decide +kernel), ⟨by decide +kernel, by decide +kernel, by decide +kernel⟩, by decide⟩
abbrev mX2_work : Mt := (yX2_work, cX2_work, 4, none)
theorem iX2_work : MI mX2_work 1 := ⟨iT_5 52 (by rfl) (by decide +kernel), iT_5 53 (by rfl) (by decide +kernel), iT_1 16 (by rfl) (by decide +kernel), iT_5 54 (by rfl) (by decide +kernel), ⟨by decide +kernel, by decide +kernel, by decide +kernel⟩, by decide⟩
abbrev mX2_clashesBy : Mt := (yX2_clashesBy, cX2_clashesBy, 6, some FieldType.int)
theorem iX2_clashesBy : MSt mX2_clashesBy 3 := ⟨iT_5 56 (by rfl) (by decide +kernel), iT_1 16 (by rfl) (by decide +kernel), iT_5 57 (by rfl) (by decide +kernel), ⟨by decide +kernel, by decide +kernel, by decide +kernel⟩, by decide⟩
abbrev mX2_choose : Mt := (yX2_choose, cX2_choose, 6, none)
theorem iX2_choose : MSt mX2_choose 4 := ⟨iT_5 64 (by rfl) (by decide +kernel), iT_1 16 (by rfl) (by decide +kernel), iT_5 65 (by rfl) (by decide +kernel), ⟨by decide +kernel, by decide +kernel, by decide +kernel⟩, by decide⟩
abbrev mX2_isWorth : Mt := (yX2_isWorth, cX2_isWorth, 5, some FieldType.boolean)
theorem iX2_isWorth : MI mX2_isWorth 2 := ⟨iT_5 69 (by rfl) (by decide +kernel), iS 35 (by rfl) (by decide +kernel), iT_1 16 (by rfl) (by decide +kernel), iT_5 70 (by rfl) (by decide +kernel), ⟨by decide +kernel, by decide +kernel, by decide +kernel⟩, by decide⟩
abbrev mX2_costOf : Mt := (yX2_costOf, cX2_costOf, 4, some FieldType.int)
theorem iX2_costOf : MI mX2_costOf 1 := ⟨iT_5 73 (by rfl) (by decide +kernel), iS 36 (by rfl) (by decide +kernel), iT_1 16 (by rfl) (by decide +kernel), iT_5 74 (by rfl) (by decide +kernel), ⟨by decide +kernel, by decide +kernel, by decide +kernel⟩, by decide⟩
abbrev mX3_init : Mt := (yX3_init, cX3_init, 1, none)
theorem iX3_init : MIn mX3_init 0 := ⟨rfl, rfl, iT_3 38 (by rfl) (by decide +kernel), iT_1 17 (by rfl) (by decide +kernel), iT_3 39 (by rfl) (by decide +kernel), ⟨by decide +kernel, by decide +kernel, by decide +kernel⟩, by decide⟩
abbrev mX3_begin : Mt := (yX3_begin, cX3_begin, 4, none)
theorem iX3_begin : MI mX3_begin 2 := ⟨iT_5 80 (by rfl) (by decide +kernel), iT_5 81 (by rfl) (by decide +kernel), iT_1 17 (by rfl) (by decide +kernel), iT_5 82 (by rfl) (by decide +kernel), ⟨by decide +kernel, by decide +kernel, by decide +kernel⟩, by decide⟩
abbrev mX3_pick : Mt := (yX3_pick, cX3_pick, 2, some FieldType.int)
theorem iX3_pick : MSt mX3_pick 2 := ⟨iT_5 90 (by rfl) (by decide +kernel), iT_1 17 (by rfl) (by decide +kernel), iT_5 91 (by rfl) (by decide +kernel), ⟨by decide +kernel, by decide +kernel, by decide +kernel⟩, by decide⟩
abbrev mX3_isRow : Mt := (yX3_isRow, cX3_isRow, 5, some FieldType.boolean)
theorem iX3_isRow : MI mX3_isRow 1 := ⟨iT_5 86 (by rfl) (by decide +kernel), iT_5 87 (by rfl) (by decide +kernel), iT_1 17 (by rfl) (by decide +kernel), iT_5 88 (by rfl) (by decide +kernel), ⟨by decide +kernel, by decide +kernel, by decide +kernel⟩, by decide⟩
