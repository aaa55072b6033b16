/-! printed by wip/whole/gen_links.py: the links of the pools-/
theorem mT_1 {i : Nat} {w : Cond} (h : tables_1_1[i]? = some w) : w ∈ lw_tbl := List.mem_append_right _ (show w ∈ tables_1 from (by unfold tables_1; exact List.mem_append_left _ (List.mem_of_getElem? h)))
theorem iT_1 (i : Nat) {w : Cond} (h : tables_1_1[i]? = some w) (g : goodWord w = true) : w ∈ ALLW := inT (mT_1 h) g
theorem iTN_1 (i : Nat) {w : Cond} (h : tables_1_1[i]? = some w) (g : isNest w = true) : w ∈ NW := inTN (mT_1 h) g
theorem mT_2 {i : Nat} {w : Cond} (h : tables_1_2[i]? = some w) : w ∈ lw_tbl := List.mem_append_right _ (show w ∈ tables_1 from (by unfold tables_1; exact List.mem_append_right _ (List.mem_append_left _ (List.mem_of_getElem? h))))
theorem iT_2 (i : Nat) {w : Cond} (h : tables_1_2[i]? = some w) (g : goodWord w = true) : w ∈ ALLW := inT (mT_2 h) g
theorem iTN_2 (i : Nat) {w : Cond} (h : tables_1_2[i]? = some w) (g : isNest w = true) : w ∈ NW := inTN (mT_2 h) g
theorem mT_3 {i : Nat} {w : Cond} (h : tables_1_3[i]? = some w) : w ∈ lw_tbl := List.mem_append_right _ (show w ∈ tables_1 from (by unfold tables_1; exact List.mem_append_right _ (List.mem_append_right _ (List.mem_append_left _ (List.mem_of_getElem? h)))))
theorem iT_3 (i : Nat) {w : Cond} (h : tables_1_3[i]? = some w) (g : goodWord w = true) : w ∈ ALLW := inT (mT_3 h) g
theorem iTN_3 (i : Nat) {w : Cond} (h : tables_1_3[i]? = some w) (g : isNest w = true) : w ∈ NW := inTN (mT_3 h) g
theorem mT_4 {i : Nat} {w : Cond} (h : tables_1_4[i]? = some w) : w ∈ lw_tbl := List.mem_append_right _ (show w ∈ tables_1 from (by unfold tables_1; exact List.mem_append_right _ (List.mem_append_right _ (List.mem_append_right _ (List.mem_append_left _ (List.mem_of_getElem? h))))))
theorem iT_4 (i : Nat) {w : Cond} (h : tables_1_4[i]? = some w) (g : goodWord w = true) : w ∈ ALLW := inT (mT_4 h) g
theorem iTN_4 (i : Nat) {w : Cond} (h : tables_1_4[i]? = some w) (g : isNest w = true) : w ∈ NW := inTN (mT_4 h) g
theorem mT_5 {i : Nat} {w : Cond} (h : tables_1_5[i]? = some w) : w ∈ lw_tbl := List.mem_append_right _ (show w ∈ tables_1 from (by unfold tables_1; exact List.mem_append_right _ (List.mem_append_right _ (List.mem_append_right _ (List.mem_append_right _ (List.mem_append_left _ (List.mem_of_getElem? h)))))))
theorem iT_5 (i : Nat) {w : Cond} (h : tables_1_5[i]? = some w) (g : goodWord w = true) : w ∈ ALLW := inT (mT_5 h) g
theorem iTN_5 (i : Nat) {w : Cond} (h : tables_1_5[i]? = some w) (g : isNest w = true) : w ∈ NW := inTN (mT_5 h) g
theorem mT_6 {i : Nat} {w : Cond} (h : tables_1_6[i]? = some w) : w ∈ lw_tbl := List.mem_append_right _ (show w ∈ tables_1 from (by unfold tables_1; exact List.mem_append_right _ (List.mem_append_right _ (List.mem_append_right _ (List.mem_append_right _ (List.mem_append_right _ (List.mem_append_left _ (List.mem_of_getElem? h))))))))
theorem iT_6 (i : Nat) {w : Cond} (h : tables_1_6[i]? = some w) (g : goodWord w = true) : w ∈ ALLW := inT (mT_6 h) g
theorem iTN_6 (i : Nat) {w : Cond} (h : tables_1_6[i]? = some w) (g : isNest w = true) : w ∈ NW := inTN (mT_6 h) g
theorem mT_7 {i : Nat} {w : Cond} (h : tables_1_7[i]? = some w) : w ∈ lw_tbl := List.mem_append_right _ (show w ∈ tables_1 from (by unfold tables_1; exact List.mem_append_right _ (List.mem_append_right _ (List.mem_append_right _ (List.mem_append_right _ (List.mem_append_right _ (List.mem_append_right _ (List.mem_append_left _ (List.mem_of_getElem? h)))))))))
theorem iT_7 (i : Nat) {w : Cond} (h : tables_1_7[i]? = some w) (g : goodWord w = true) : w ∈ ALLW := inT (mT_7 h) g
theorem iTN_7 (i : Nat) {w : Cond} (h : tables_1_7[i]? = some w) (g : isNest w = true) : w ∈ NW := inTN (mT_7 h) g
theorem mT_8 {i : Nat} {w : Cond} (h : tables_1_8[i]? = some w) : w ∈ lw_tbl := List.mem_append_right _ (show w ∈ tables_1 from (by unfold tables_1; exact List.mem_append_right _ (List.mem_append_right _ (List.mem_append_right _ (List.mem_append_right _ (List.mem_append_right _ (List.mem_append_right _ (List.mem_append_right _ (List.mem_append_left _ (List.mem_of_getElem? h))))))))))
theorem iT_8 (i : Nat) {w : Cond} (h : tables_1_8[i]? = some w) (g : goodWord w = true) : w ∈ ALLW := inT (mT_8 h) g
theorem iTN_8 (i : Nat) {w : Cond} (h : tables_1_8[i]? = some w) (g : isNest w = true) : w ∈ NW := inTN (mT_8 h) g
theorem mT_9 {i : Nat} {w : Cond} (h : tables_1_9[i]? = some w) : w ∈ lw_tbl := List.mem_append_right _ (show w ∈ tables_1 from (by unfold tables_1; exact List.mem_append_right _ (List.mem_append_right _ (List.mem_append_right _ (List.mem_append_right _ (List.mem_append_right _ (List.mem_append_right _ (List.mem_append_right _ (List.mem_append_right _ (List.mem_of_getElem? h))))))))))
theorem iT_9 (i : Nat) {w : Cond} (h : tables_1_9[i]? = some w) (g : goodWord w = true) : w ∈ ALLW := inT (mT_9 h) g
theorem iTN_9 (i : Nat) {w : Cond} (h : tables_1_9[i]? = some w) (g : isNest w = true) : w ∈ NW := inTN (mT_9 h) g
theorem iT (i : Nat) {w : Cond} (h : tables_1[i]? = some w) (g : goodWord w = true) : w ∈ ALLW := inT (List.mem_append_right _ (List.mem_of_getElem? h)) g
theorem iTN (i : Nat) {w : Cond} (h : tables_1[i]? = some w) (g : isNest w = true) : w ∈ NW := inTN (List.mem_append_right _ (List.mem_of_getElem? h)) g
theorem iS (i : Nat) {w : Cond} (h : (k2_sels lw_privs)[i]? = some w) (g : goodWord w = true) : w ∈ ALLW := inT (List.mem_append_left _ (List.mem_of_getElem? h)) g
theorem inC0 : ∀ w ∈ u_ws RX0 TX0 8, w ∈ ALLW := by
  have h : ∀ i, i < 8 → (u_lay RX0 TX0 i) ∈ ALLW := by
    intro i hi
    match i, hi with
    | 0, _ => exact iT_2 190 (by decide +kernel) (by decide +kernel)
    | 1, _ => exact iT_2 192 (by decide +kernel) (by decide +kernel)
    | 2, _ => exact iT_2 194 (by decide +kernel) (by decide +kernel)
    | 3, _ => exact iT_2 196 (by decide +kernel) (by decide +kernel)
    | 4, _ => exact iT_2 198 (by decide +kernel) (by decide +kernel)
    | 5, _ => exact iT_2 200 (by decide +kernel) (by decide +kernel)
    | 6, _ => exact iT_2 202 (by decide +kernel) (by decide +kernel)
    | 7, _ => exact iT_2 204 (by decide +kernel) (by decide +kernel)
    | k + 8, hk => exact absurd hk (by omega)
  intro w hw
  obtain ⟨i, hi, rfl⟩ := List.mem_map.mp hw
  exact h i (List.mem_range.mp hi)
theorem cls0 : CLS 0 RX0 TX0 8 := ⟨rfl, rfl, by decide, inC0, tyX0_ok, nmX0⟩
theorem inC1 : ∀ w ∈ u_ws RX1 TX1 5, w ∈ ALLW := by
  have h : ∀ i, i < 5 → (u_lay RX1 TX1 i) ∈ ALLW := by
    intro i hi
    match i, hi with
    | 0, _ => exact iT_1 98 (by decide +kernel) (by decide +kernel)
    | 1, _ => exact iT_1 100 (by decide +kernel) (by decide +kernel)
    | 2, _ => exact iT_1 102 (by decide +kernel) (by decide +kernel)
    | 3, _ => exact iT_1 104 (by decide +kernel) (by decide +kernel)
    | 4, _ => exact iT_1 106 (by decide +kernel) (by decide +kernel)
    | k + 5, hk => exact absurd hk (by omega)
  intro w hw
  obtain ⟨i, hi, rfl⟩ := List.mem_map.mp hw
  exact h i (List.mem_range.mp hi)
theorem cls1 : CLS 1 RX1 TX1 5 := ⟨rfl, rfl, by decide, inC1, tyX1_ok, nmX1⟩
theorem inC2 : ∀ w ∈ u_ws RX2 TX2 5, w ∈ ALLW := by
  have h : ∀ i, i < 5 → (u_lay RX2 TX2 i) ∈ ALLW := by
    intro i hi
    match i, hi with
    | 0, _ => exact iT_3 24 (by decide +kernel) (by decide +kernel)
    | 1, _ => exact iT_3 26 (by decide +kernel) (by decide +kernel)
    | 2, _ => exact iT_3 28 (by decide +kernel) (by decide +kernel)
    | 3, _ => exact iT_3 30 (by decide +kernel) (by decide +kernel)
    | 4, _ => exact iT_3 32 (by decide +kernel) (by decide +kernel)
    | k + 5, hk => exact absurd hk (by omega)
  intro w hw
  obtain ⟨i, hi, rfl⟩ := List.mem_map.mp hw
  exact h i (List.mem_range.mp hi)
theorem cls2 : CLS 2 RX2 TX2 5 := ⟨rfl, rfl, by decide, inC2, tyX2_ok, nmX2⟩
theorem inC3 : ∀ w ∈ u_ws RX3 TX3 4, w ∈ ALLW := by
  have h : ∀ i, i < 4 → (u_lay RX3 TX3 i) ∈ ALLW := by
    intro i hi
    match i, hi with
    | 0, _ => exact iT_3 46 (by decide +kernel) (by decide +kernel)
    | 1, _ => exact iT_3 48 (by decide +kernel) (by decide +kernel)
    | 2, _ => exact iT_3 50 (by decide +kernel) (by decide +kernel)
    | 3, _ => exact iT_3 52 (by decide +kernel) (by decide +kernel)
    | k + 4, hk => exact absurd hk (by omega)
  intro w hw
  obtain ⟨i, hi, rfl⟩ := List.mem_map.mp hw
  exact h i (List.mem_range.mp hi)
theorem cls3 : CLS 3 RX3 TX3 4 := ⟨rfl, rfl, by decide, inC3, tyX3_ok, nmX3⟩
theorem inC4 : ∀ w ∈ u_ws RX4 TX4 8, w ∈ ALLW := by
  have h : ∀ i, i < 8 → (u_lay RX4 TX4 i) ∈ ALLW := by
    intro i hi
    match i, hi with
    | 0, _ => exact iT_2 67 (by decide +kernel) (by decide +kernel)
    | 1, _ => exact iT_2 69 (by decide +kernel) (by decide +kernel)
    | 2, _ => exact iT_2 71 (by decide +kernel) (by decide +kernel)
    | 3, _ => exact iT_2 73 (by decide +kernel) (by decide +kernel)
    | 4, _ => exact iT_2 75 (by decide +kernel) (by decide +kernel)
    | 5, _ => exact iT_2 77 (by decide +kernel) (by decide +kernel)
    | 6, _ => exact iT_2 79 (by decide +kernel) (by decide +kernel)
    | 7, _ => exact iT_2 81 (by decide +kernel) (by decide +kernel)
    | k + 8, hk => exact absurd hk (by omega)
  intro w hw
  obtain ⟨i, hi, rfl⟩ := List.mem_map.mp hw
  exact h i (List.mem_range.mp hi)
theorem cls4 : CLS 4 RX4 TX4 8 := ⟨rfl, rfl, by decide, inC4, tyX4_ok, nmX4⟩
theorem inC5 : ∀ w ∈ u_ws RX5 TX5 15, w ∈ ALLW := by
  have h : ∀ i, i < 15 → (u_lay RX5 TX5 i) ∈ ALLW := by
    intro i hi
    match i, hi with
    | 0, _ => exact iT_2 140 (by decide +kernel) (by decide +kernel)
    | 1, _ => exact iT_2 142 (by decide +kernel) (by decide +kernel)
    | 2, _ => exact iT_2 144 (by decide +kernel) (by decide +kernel)
    | 3, _ => exact iT_2 146 (by decide +kernel) (by decide +kernel)
    | 4, _ => exact iT_2 148 (by decide +kernel) (by decide +kernel)
    | 5, _ => exact iT_2 150 (by decide +kernel) (by decide +kernel)
    | 6, _ => exact iT_2 152 (by decide +kernel) (by decide +kernel)
    | 7, _ => exact iT_2 154 (by decide +kernel) (by decide +kernel)
    | 8, _ => exact iT_2 156 (by decide +kernel) (by decide +kernel)
    | 9, _ => exact iT_2 158 (by decide +kernel) (by decide +kernel)
    | 10, _ => exact iT_2 160 (by decide +kernel) (by decide +kernel)
    | 11, _ => exact iT_2 162 (by decide +kernel) (by decide +kernel)
    | 12, _ => exact iT_2 164 (by decide +kernel) (by decide +kernel)
    | 13, _ => exact iT_2 166 (by decide +kernel) (by decide +kernel)
    | 14, _ => exact iT_2 168 (by decide +kernel) (by decide +kernel)
    | k + 15, hk => exact absurd hk (by omega)
  intro w hw
  obtain ⟨i, hi, rfl⟩ := List.mem_map.mp hw
  exact h i (List.mem_range.mp hi)
theorem cls5 : CLS 5 RX5 TX5 15 := ⟨rfl, rfl, by decide, inC5, tyX5_ok, nmX5⟩
theorem inC6 : ∀ w ∈ u_ws RX6 TX6 5, w ∈ ALLW := by
  have h : ∀ i, i < 5 → (u_lay RX6 TX6 i) ∈ ALLW := by
    intro i hi
    match i, hi with
    | 0, _ => exact iT_2 220 (by decide +kernel) (by decide +kernel)
    | 1, _ => exact iT_2 222 (by decide +kernel) (by decide +kernel)
    | 2, _ => exact iT_2 224 (by decide +kernel) (by decide +kernel)
    | 3, _ => exact iT_2 226 (by decide +kernel) (by decide +kernel)
    | 4, _ => exact iT_2 228 (by decide +kernel) (by decide +kernel)
    | k + 5, hk => exact absurd hk (by omega)
  intro w hw
  obtain ⟨i, hi, rfl⟩ := List.mem_map.mp hw
  exact h i (List.mem_range.mp hi)
theorem cls6 : CLS 6 RX6 TX6 5 := ⟨rfl, rfl, by decide, inC6, tyX6_ok, nmX6⟩
theorem inC7 : ∀ w ∈ u_ws RX7 TX7 6, w ∈ ALLW := by
  have h : ∀ i, i < 6 → (u_lay RX7 TX7 i) ∈ ALLW := by
    intro i hi
    match i, hi with
    | 0, _ => exact iT_1 70 (by decide +kernel) (by decide +kernel)
    | 1, _ => exact iT_1 72 (by decide +kernel) (by decide +kernel)
    | 2, _ => exact iT_1 74 (by decide +kernel) (by decide +kernel)
    | 3, _ => exact iT_1 76 (by decide +kernel) (by decide +kernel)
    | 4, _ => exact iT_1 78 (by decide +kernel) (by decide +kernel)
    | 5, _ => exact iT_1 80 (by decide +kernel) (by decide +kernel)
    | k + 6, hk => exact absurd hk (by omega)
  intro w hw
  obtain ⟨i, hi, rfl⟩ := List.mem_map.mp hw
  exact h i (List.mem_range.mp hi)
theorem cls7 : CLS 7 RX7 TX7 6 := ⟨rfl, rfl, by decide, inC7, tyX7_ok, nmX7⟩
theorem inC8 : ∀ w ∈ u_ws RX8 TX8 8, w ∈ ALLW := by
  have h : ∀ i, i < 8 → (u_lay RX8 TX8 i) ∈ ALLW := by
    intro i hi
    match i, hi with
    | 0, _ => exact iT_2 39 (by decide +kernel) (by decide +kernel)
    | 1, _ => exact iT_2 41 (by decide +kernel) (by decide +kernel)
    | 2, _ => exact iT_2 43 (by decide +kernel) (by decide +kernel)
    | 3, _ => exact iT_2 45 (by decide +kernel) (by decide +kernel)
    | 4, _ => exact iT_2 47 (by decide +kernel) (by decide +kernel)
    | 5, _ => exact iT_2 49 (by decide +kernel) (by decide +kernel)
    | 6, _ => exact iT_2 51 (by decide +kernel) (by decide +kernel)
    | 7, _ => exact iT_2 53 (by decide +kernel) (by decide +kernel)
    | k + 8, hk => exact absurd hk (by omega)
  intro w hw
  obtain ⟨i, hi, rfl⟩ := List.mem_map.mp hw
  exact h i (List.mem_range.mp hi)
theorem cls8 : CLS 8 RX8 TX8 8 := ⟨rfl, rfl, by decide, inC8, tyX8_ok, nmX8⟩
theorem inC9 : ∀ w ∈ u_ws RX9 TX9 15, w ∈ ALLW := by
  have h : ∀ i, i < 15 → (u_lay RX9 TX9 i) ∈ ALLW := by
    intro i hi
    match i, hi with
    | 0, _ => exact iT_1 164 (by decide +kernel) (by decide +kernel)
    | 1, _ => exact iT_1 166 (by decide +kernel) (by decide +kernel)
    | 2, _ => exact iT_1 168 (by decide +kernel) (by decide +kernel)
    | 3, _ => exact iT_1 170 (by decide +kernel) (by decide +kernel)
    | 4, _ => exact iT_1 172 (by decide +kernel) (by decide +kernel)
    | 5, _ => exact iT_1 174 (by decide +kernel) (by decide +kernel)
    | 6, _ => exact iT_1 176 (by decide +kernel) (by decide +kernel)
    | 7, _ => exact iT_1 178 (by decide +kernel) (by decide +kernel)
    | 8, _ => exact iT_1 180 (by decide +kernel) (by decide +kernel)
    | 9, _ => exact iT_1 182 (by decide +kernel) (by decide +kernel)
    | 10, _ => exact iT_1 184 (by decide +kernel) (by decide +kernel)
    | 11, _ => exact iT_1 186 (by decide +kernel) (by decide +kernel)
    | 12, _ => exact iT_1 188 (by decide +kernel) (by decide +kernel)
    | 13, _ => exact iT_1 190 (by decide +kernel) (by decide +kernel)
    | 14, _ => exact iT_1 192 (by decide +kernel) (by decide +kernel)
    | k + 15, hk => exact absurd hk (by omega)
  intro w hw
  obtain ⟨i, hi, rfl⟩ := List.mem_map.mp hw
  exact h i (List.mem_range.mp hi)
theorem cls9 : CLS 9 RX9 TX9 15 := ⟨rfl, rfl, by decide, inC9, tyX9_ok, nmX9⟩
theorem inC10 : ∀ w ∈ u_ws RX10 TX10 4, w ∈ ALLW := by
  have h : ∀ i, i < 4 → (u_lay RX10 TX10 i) ∈ ALLW := by
    intro i hi
    match i, hi with
    | 0, _ => exact iT_3 2 (by decide +kernel) (by decide +kernel)
    | 1, _ => exact iT_3 4 (by decide +kernel) (by decide +kernel)
    | 2, _ => exact iT_3 6 (by decide +kernel) (by decide +kernel)
    | 3, _ => exact iT_3 8 (by decide +kernel) (by decide +kernel)
    | k + 4, hk => exact absurd hk (by omega)
  intro w hw
  obtain ⟨i, hi, rfl⟩ := List.mem_map.mp hw
  exact h i (List.mem_range.mp hi)
theorem cls10 : CLS 10 RX10 TX10 4 := ⟨rfl, rfl, by decide, inC10, tyX10_ok, nmX10⟩
theorem inC11 : ∀ w ∈ u_ws RX11 TX11 12, w ∈ ALLW := by
  have h : ∀ i, i < 12 → (u_lay RX11 TX11 i) ∈ ALLW := by
    intro i hi
    match i, hi with
    | 0, _ => exact iT_3 79 (by decide +kernel) (by decide +kernel)
    | 1, _ => exact iT_3 81 (by decide +kernel) (by decide +kernel)
    | 2, _ => exact iT_3 83 (by decide +kernel) (by decide +kernel)
    | 3, _ => exact iT_3 85 (by decide +kernel) (by decide +kernel)
    | 4, _ => exact iT_3 87 (by decide +kernel) (by decide +kernel)
    | 5, _ => exact iT_3 89 (by decide +kernel) (by decide +kernel)
    | 6, _ => exact iT_3 91 (by decide +kernel) (by decide +kernel)
    | 7, _ => exact iT_3 93 (by decide +kernel) (by decide +kernel)
    | 8, _ => exact iT_3 95 (by decide +kernel) (by decide +kernel)
    | 9, _ => exact iT_3 97 (by decide +kernel) (by decide +kernel)
    | 10, _ => exact iT_3 99 (by decide +kernel) (by decide +kernel)
    | 11, _ => exact iT_3 101 (by decide +kernel) (by decide +kernel)
    | k + 12, hk => exact absurd hk (by omega)
  intro w hw
  obtain ⟨i, hi, rfl⟩ := List.mem_map.mp hw
  exact h i (List.mem_range.mp hi)
theorem cls11 : CLS 11 RX11 TX11 12 := ⟨rfl, rfl, by decide, inC11, tyX11_ok, nmX11⟩
theorem inC12 : ∀ w ∈ u_ws RX12 TX12 75, w ∈ ALLW := by
  have h : ∀ i, i < 75 → (u_lay RX12 TX12 i) ∈ ALLW := by
    intro i hi
    match i, hi with
    | 0, _ => exact iT_6 183 (by decide +kernel) (by decide +kernel)
    | 1, _ => exact iT_6 185 (by decide +kernel) (by decide +kernel)
    | 2, _ => exact iT_6 187 (by decide +kernel) (by decide +kernel)
    | 3, _ => exact iT_6 189 (by decide +kernel) (by decide +kernel)
    | 4, _ => exact iT_6 191 (by decide +kernel) (by decide +kernel)
    | 5, _ => exact iT_6 193 (by decide +kernel) (by decide +kernel)
    | 6, _ => exact iT_6 195 (by decide +kernel) (by decide +kernel)
    | 7, _ => exact iT_6 197 (by decide +kernel) (by decide +kernel)
    | 8, _ => exact iT_6 199 (by decide +kernel) (by decide +kernel)
    | 9, _ => exact iT_6 201 (by decide +kernel) (by decide +kernel)
    | 10, _ => exact iT_6 203 (by decide +kernel) (by decide +kernel)
    | 11, _ => exact iT_6 205 (by decide +kernel) (by decide +kernel)
    | 12, _ => exact iT_6 207 (by decide +kernel) (by decide +kernel)
    | 13, _ => exact iT_6 209 (by decide +kernel) (by decide +kernel)
    | 14, _ => exact iT_6 211 (by decide +kernel) (by decide +kernel)
    | 15, _ => exact iT_6 213 (by decide +kernel) (by decide +kernel)
    | 16, _ => exact iT_6 215 (by decide +kernel) (by decide +kernel)
    | 17, _ => exact iT_6 217 (by decide +kernel) (by decide +kernel)
    | 18, _ => exact iT_6 219 (by decide +kernel) (by decide +kernel)
    | 19, _ => exact iT_6 221 (by decide +kernel) (by decide +kernel)
    | 20, _ => exact iT_6 223 (by decide +kernel) (by decide +kernel)
    | 21, _ => exact iT_6 225 (by decide +kernel) (by decide +kernel)
    | 22, _ => exact iT_6 227 (by decide +kernel) (by decide +kernel)
    | 23, _ => exact iT_6 229 (by decide +kernel) (by decide +kernel)
    | 24, _ => exact iT_6 231 (by decide +kernel) (by decide +kernel)
    | 25, _ => exact iT_6 233 (by decide +kernel) (by decide +kernel)
    | 26, _ => exact iT_6 235 (by decide +kernel) (by decide +kernel)
    | 27, _ => exact iT_6 237 (by decide +kernel) (by decide +kernel)
    | 28, _ => exact iT_6 239 (by decide +kernel) (by decide +kernel)
    | 29, _ => exact iT_7 1 (by decide +kernel) (by decide +kernel)
    | 30, _ => exact iT_7 3 (by decide +kernel) (by decide +kernel)
    | 31, _ => exact iT_7 5 (by decide +kernel) (by decide +kernel)
    | 32, _ => exact iT_7 7 (by decide +kernel) (by decide +kernel)
    | 33, _ => exact iT_7 9 (by decide +kernel) (by decide +kernel)
    | 34, _ => exact iT_7 11 (by decide +kernel) (by decide +kernel)
    | 35, _ => exact iT_7 13 (by decide +kernel) (by decide +kernel)
    | 36, _ => exact iT_7 15 (by decide +kernel) (by decide +kernel)
    | 37, _ => exact iT_7 17 (by decide +kernel) (by decide +kernel)
    | 38, _ => exact iT_7 19 (by decide +kernel) (by decide +kernel)
    | 39, _ => exact iT_7 21 (by decide +kernel) (by decide +kernel)
    | 40, _ => exact iT_7 23 (by decide +kernel) (by decide +kernel)
    | 41, _ => exact iT_7 25 (by decide +kernel) (by decide +kernel)
    | 42, _ => exact iT_7 27 (by decide +kernel) (by decide +kernel)
    | 43, _ => exact iT_7 29 (by decide +kernel) (by decide +kernel)
    | 44, _ => exact iT_7 31 (by decide +kernel) (by decide +kernel)
    | 45, _ => exact iT_7 33 (by decide +kernel) (by decide +kernel)
    | 46, _ => exact iT_7 35 (by decide +kernel) (by decide +kernel)
    | 47, _ => exact iT_7 37 (by decide +kernel) (by decide +kernel)
    | 48, _ => exact iT_7 39 (by decide +kernel) (by decide +kernel)
    | 49, _ => exact iT_7 41 (by decide +kernel) (by decide +kernel)
    | 50, _ => exact iT_7 43 (by decide +kernel) (by decide +kernel)
    | 51, _ => exact iT_7 45 (by decide +kernel) (by decide +kernel)
    | 52, _ => exact iT_7 47 (by decide +kernel) (by decide +kernel)
    | 53, _ => exact iT_7 49 (by decide +kernel) (by decide +kernel)
    | 54, _ => exact iT_7 51 (by decide +kernel) (by decide +kernel)
    | 55, _ => exact iT_7 53 (by decide +kernel) (by decide +kernel)
    | 56, _ => exact iT_7 55 (by decide +kernel) (by decide +kernel)
    | 57, _ => exact iT_7 57 (by decide +kernel) (by decide +kernel)
    | 58, _ => exact iT_7 59 (by decide +kernel) (by decide +kernel)
    | 59, _ => exact iT_7 61 (by decide +kernel) (by decide +kernel)
    | 60, _ => exact iT_7 63 (by decide +kernel) (by decide +kernel)
    | 61, _ => exact iT_7 65 (by decide +kernel) (by decide +kernel)
    | 62, _ => exact iT_7 67 (by decide +kernel) (by decide +kernel)
    | 63, _ => exact iT_7 69 (by decide +kernel) (by decide +kernel)
    | 64, _ => exact iT_7 71 (by decide +kernel) (by decide +kernel)
    | 65, _ => exact iT_7 73 (by decide +kernel) (by decide +kernel)
    | 66, _ => exact iT_7 75 (by decide +kernel) (by decide +kernel)
    | 67, _ => exact iT_7 77 (by decide +kernel) (by decide +kernel)
    | 68, _ => exact iT_7 79 (by decide +kernel) (by decide +kernel)
    | 69, _ => exact iT_7 81 (by decide +kernel) (by decide +kernel)
    | 70, _ => exact iT_7 83 (by decide +kernel) (by decide +kernel)
    | 71, _ => exact iT_7 85 (by decide +kernel) (by decide +kernel)
    | 72, _ => exact iT_7 87 (by decide +kernel) (by decide +kernel)
    | 73, _ => exact iT_7 89 (by decide +kernel) (by decide +kernel)
    | 74, _ => exact iT_7 91 (by decide +kernel) (by decide +kernel)
    | k + 75, hk => exact absurd hk (by omega)
  intro w hw
  obtain ⟨i, hi, rfl⟩ := List.mem_map.mp hw
  exact h i (List.mem_range.mp hi)
theorem cls12 : CLS 12 RX12 TX12 75 := ⟨rfl, rfl, by decide, inC12, tyX12_ok, nmX12⟩
abbrev mX0_init : Mt := (yX0_init, cX0_init, 2, none)
theorem iX0_init : MIn mX0_init 1 := ⟨rfl, rfl, iT_2 174 (by rfl) (by decide +kernel), iT_1 13 (by rfl) (by decide +kernel), iT_2 175 (by rfl) (by decide +kernel), ⟨by decide +kernel, by decide +kernel, by decide +kernel⟩, by decide⟩
abbrev mX0_begin : Mt := (yX0_begin, cX0_begin, 2, none)
theorem iX0_begin : MI mX0_begin 1 := ⟨iT_4 108 (by rfl) (by decide +kernel), iT_4 109 (by rfl) (by decide +kernel), iT_1 13 (by rfl) (by decide +kernel), iT_4 110 (by rfl) (by decide +kernel), ⟨by decide +kernel, by decide +kernel, by decide +kernel⟩, by decide⟩
abbrev mX0_otherwise : Mt := (yX0_otherwise, cX0_otherwise, 3, none)
theorem iX0_otherwise : MI mX0_otherwise 2 := ⟨iT_5 216 (by rfl) (by decide +kernel), iT_5 217 (by rfl) (by decide +kernel), iT_1 13 (by rfl) (by decide +kernel), iT_5 218 (by rfl) (by decide +kernel), ⟨by decide +kernel, by decide +kernel, by decide +kernel⟩, by decide⟩
abbrev mX0_pass : Mt := (yX0_pass, cX0_pass, 5, none)
theorem iX0_pass : MI mX0_pass 1 := ⟨iT_4 209 (by rfl) (by decide +kernel), iT_4 210 (by rfl) (by decide +kernel), iT_1 13 (by rfl) (by decide +kernel), iT_4 211 (by rfl) (by decide +kernel), ⟨by decide +kernel, by decide +kernel, by decide +kernel⟩, by decide⟩
abbrev mX0_isAway : Mt := (yX0_isAway, cX0_isAway, 1, some FieldType.boolean)
theorem iX0_isAway : MI mX0_isAway 0 := ⟨iT_4 214 (by rfl) (by decide +kernel), iS 30 (by rfl) (by decide +kernel), iT_1 13 (by rfl) (by decide +kernel), iT_4 215 (by rfl) (by decide +kernel), ⟨by decide +kernel, by decide +kernel, by decide +kernel⟩, by decide⟩
abbrev mX0_film : Mt := (yX0_film, cX0_film, 6, none)
theorem iX0_film : MI mX0_film 2 := ⟨iT_4 228 (by rfl) (by decide +kernel), iS 31 (by rfl) (by decide +kernel), iT_1 13 (by rfl) (by decide +kernel), iT_4 229 (by rfl) (by decide +kernel), ⟨by decide +kernel, by decide +kernel, by decide +kernel⟩, by decide⟩
abbrev mX0_give : Mt := (yX0_give, cX0_give, 7, none)
theorem iX0_give : MI mX0_give 1 := ⟨iT_4 238 (by rfl) (by decide +kernel), iS 32 (by rfl) (by decide +kernel), iT_1 13 (by rfl) (by decide +kernel), iT_4 239 (by rfl) (by decide +kernel), ⟨by decide +kernel, by decide +kernel, by decide +kernel⟩, by decide⟩
abbrev mX0_filmOneAgain : Mt := (yX0_filmOneAgain, cX0_filmOneAgain, 6, none)
theorem iX0_filmOneAgain : MI mX0_filmOneAgain 0 := ⟨iT_5 3 (by rfl) (by decide +kernel), iS 33 (by rfl) (by decide +kernel), iT_1 13 (by rfl) (by decide +kernel), iT_5 4 (by rfl) (by decide +kernel), ⟨by decide +kernel, by decide +kernel, by decide +kernel⟩, by decide⟩
abbrev mX0_filmAgain : Mt := (yX0_filmAgain, cX0_filmAgain, 4, none)
theorem iX0_filmAgain : MI mX0_filmAgain 1 := ⟨iT_5 15 (by rfl) (by decide +kernel), iS 34 (by rfl) (by decide +kernel), iT_1 13 (by rfl) (by decide +kernel), iT_5 16 (by rfl) (by decide +kernel), ⟨by decide +kernel, by decide +kernel, by decide +kernel⟩, by decide⟩
abbrev mX0_isSo : Mt := (yX0_isSo, cX0_isSo, 3, some FieldType.boolean)
theorem iX0_isSo : MSt mX0_isSo 2 := ⟨iT_4 234 (by rfl) (by decide +kernel), iT_1 13 (by rfl) (by decide +kernel), iT_4 235 (by rfl) (by decide +kernel), ⟨by decide +kernel, by decide +kernel, by decide +kernel⟩, by decide⟩
abbrev mX0_noticeWorth : Mt := (yX0_noticeWorth, cX0_noticeWorth, 3, some FieldType.long)
theorem iX0_noticeWorth : MI mX0_noticeWorth 2 := ⟨iT_4 122 (by rfl) (by decide +kernel), iT_4 123 (by rfl) (by decide +kernel), iT_1 13 (by rfl) (by decide +kernel), iT_4 124 (by rfl) (by decide +kernel), ⟨by decide +kernel, by decide +kernel, by decide +kernel⟩, by decide⟩
abbrev mX0_yieldWorth : Mt := (yX0_yieldWorth, cX0_yieldWorth, 3, some FieldType.long)
theorem iX0_yieldWorth : MI mX0_yieldWorth 2 := ⟨iT_4 161 (by rfl) (by decide +kernel), iT_4 162 (by rfl) (by decide +kernel), iT_1 13 (by rfl) (by decide +kernel), iT_4 163 (by rfl) (by decide +kernel), ⟨by decide +kernel, by decide +kernel, by decide +kernel⟩, by decide⟩
abbrev mX0_againWorth : Mt := (yX0_againWorth, cX0_againWorth, 2, some FieldType.long)
theorem iX0_againWorth : MI mX0_againWorth 1 := ⟨iT_4 165 (by rfl) (by decide +kernel), iT_4 166 (by rfl) (by decide +kernel), iT_1 13 (by rfl) (by decide +kernel), iT_4 167 (by rfl) (by decide +kernel), ⟨by decide +kernel, by decide +kernel, by decide +kernel⟩, by decide⟩
abbrev mX0_isSaid : Mt := (yX0_isSaid, cX0_isSaid, 2, some FieldType.int)
theorem iX0_isSaid : MI mX0_isSaid 1 := ⟨iT_4 128 (by rfl) (by decide +kernel), iS 26 (by rfl) (by decide +kernel), iT_1 13 (by rfl) (by decide +kernel), iT_4 129 (by rfl) (by decide +kernel), ⟨by decide +kernel, by decide +kernel, by decide +kernel⟩, by decide⟩
abbrev mX0_worthOf : Mt := (yX0_worthOf, cX0_worthOf, 7, some FieldType.long)
theorem iX0_worthOf : MI mX0_worthOf 6 := ⟨iT_4 136 (by rfl) (by decide +kernel), iS 27 (by rfl) (by decide +kernel), iT_1 13 (by rfl) (by decide +kernel), iT_4 137 (by rfl) (by decide +kernel), ⟨by decide +kernel, by decide +kernel, by decide +kernel⟩, by decide⟩
abbrev mX1_init : Mt := (yX1_init, cX1_init, 1, none)
theorem iX1_init : MIn mX1_init 0 := ⟨rfl, rfl, iT_1 88 (by rfl) (by decide +kernel), iT_1 5 (by rfl) (by decide +kernel), iT_1 89 (by rfl) (by decide +kernel), ⟨by decide +kernel, by decide +kernel, by decide +kernel⟩, by decide⟩
abbrev mX1_clear : Mt := (yX1_clear, cX1_clear, 1, none)
theorem iX1_clear : MI mX1_clear 0 := ⟨iT_3 130 (by rfl) (by decide +kernel), iT_3 131 (by rfl) (by decide +kernel), iT_1 5 (by rfl) (by decide +kernel), iT_3 132 (by rfl) (by decide +kernel), ⟨by decide +kernel, by decide +kernel, by decide +kernel⟩, by decide⟩
abbrev mX1_copy : Mt := (yX1_copy, cX1_copy, 2, none)
theorem iX1_copy : MI mX1_copy 1 := ⟨iT_4 51 (by rfl) (by decide +kernel), iT_4 52 (by rfl) (by decide +kernel), iT_1 5 (by rfl) (by decide +kernel), iT_4 53 (by rfl) (by decide +kernel), ⟨by decide +kernel, by decide +kernel, by decide +kernel⟩, by decide⟩
abbrev mX1_add : Mt := (yX1_add, cX1_add, 3, none)
theorem iX1_add : MI mX1_add 2 := ⟨iT_4 14 (by rfl) (by decide +kernel), iT_4 15 (by rfl) (by decide +kernel), iT_1 5 (by rfl) (by decide +kernel), iT_4 16 (by rfl) (by decide +kernel), ⟨by decide +kernel, by decide +kernel, by decide +kernel⟩, by decide⟩
abbrev mX1_worth : Mt := (yX1_worth, cX1_worth, 10, some FieldType.long)
theorem iX1_worth : MI mX1_worth 1 := ⟨iT_4 140 (by rfl) (by decide +kernel), iT_4 141 (by rfl) (by decide +kernel), iT_1 5 (by rfl) (by decide +kernel), iT_4 142 (by rfl) (by decide +kernel), ⟨by decide +kernel, by decide +kernel, by decide +kernel⟩, by decide⟩
abbrev mX1_openAt : Mt := (yX1_openAt, cX1_openAt, 2, some FieldType.long)
theorem iX1_openAt : MI mX1_openAt 1 := ⟨iT_4 149 (by rfl) (by decide +kernel), iS 28 (by rfl) (by decide +kernel), iT_1 5 (by rfl) (by decide +kernel), iT_4 150 (by rfl) (by decide +kernel), ⟨by decide +kernel, by decide +kernel, by decide +kernel⟩, by decide⟩
abbrev mX1_partsOf : Mt := (yX1_partsOf, cX1_partsOf, 1, some FieldType.int)
theorem iX1_partsOf : MSt mX1_partsOf 1 := ⟨iT_4 145 (by rfl) (by decide +kernel), iT_1 5 (by rfl) (by decide +kernel), iT_4 146 (by rfl) (by decide +kernel), ⟨by decide +kernel, by decide +kernel, by decide +kernel⟩, by decide⟩
abbrev mX1_leaf : Mt := (yX1_leaf, cX1_leaf, 4, some FieldType.long)
theorem iX1_leaf : MSt mX1_leaf 3 := ⟨iT_4 157 (by rfl) (by decide +kernel), iT_1 5 (by rfl) (by decide +kernel), iT_4 158 (by rfl) (by decide +kernel), ⟨by decide +kernel, by decide +kernel, by decide +kernel⟩, by decide⟩
abbrev mX1_join : Mt := (yX1_join, cX1_join, 9, some FieldType.long)
theorem iX1_join : MSt mX1_join 3 := ⟨iT_4 152 (by rfl) (by decide +kernel), iT_1 5 (by rfl) (by decide +kernel), iT_4 153 (by rfl) (by decide +kernel), ⟨by decide +kernel, by decide +kernel, by decide +kernel⟩, by decide⟩
abbrev mX2_init : Mt := (yX2_init, cX2_init, 2, none)
theorem iX2_init : MIn mX2_init 1 := ⟨rfl, rfl, iT_3 14 (by rfl) (by decide +kernel), iT_1 16 (by rfl) (by decide +kernel), iT_3 15 (by rfl) (by decide +kernel), ⟨by decide +kernel, by decide +kernel, by decide +kernel⟩, by decide⟩
abbrev mX2_work : Mt := (yX2_work, cX2_work, 4, none)
theorem iX2_work : MI mX2_work 1 := ⟨iT_5 52 (by rfl) (by decide +kernel), iT_5 53 (by rfl) (by decide +kernel), iT_1 16 (by rfl) (by decide +kernel), iT_5 54 (by rfl) (by decide +kernel), ⟨by decide +kernel, by decide +kernel, by decide +kernel⟩, by decide⟩
abbrev mX2_clashesBy : Mt := (yX2_clashesBy, cX2_clashesBy, 6, some FieldType.int)
theorem iX2_clashesBy : MSt mX2_clashesBy 3 := ⟨iT_5 56 (by rfl) (by decide +kernel), iT_1 16 (by rfl) (by decide +kernel), iT_5 57 (by rfl) (by decide +kernel), ⟨by decide +kernel, by decide +kernel, by decide +kernel⟩, by decide⟩
abbrev mX2_choose : Mt := (yX2_choose, cX2_choose, 6, none)
theorem iX2_choose : MSt mX2_choose 4 := ⟨iT_5 64 (by rfl) (by decide +kernel), iT_1 16 (by rfl) (by decide +kernel), iT_5 65 (by rfl) (by decide +kernel), ⟨by decide +kernel, by decide +kernel, by decide +kernel⟩, by decide⟩
abbrev mX2_isWorth : Mt := (yX2_isWorth, cX2_isWorth, 5, some FieldType.boolean)
theorem iX2_isWorth : MI mX2_isWorth 2 := ⟨iT_5 69 (by rfl) (by decide +kernel), iS 35 (by rfl) (by decide +kernel), iT_1 16 (by rfl) (by decide +kernel), iT_5 70 (by rfl) (by decide +kernel), ⟨by decide +kernel, by decide +kernel, by decide +kernel⟩, by decide⟩
abbrev mX2_costOf : Mt := (yX2_costOf, cX2_costOf, 4, some FieldType.int)
theorem iX2_costOf : MI mX2_costOf 1 := ⟨iT_5 73 (by rfl) (by decide +kernel), iS 36 (by rfl) (by decide +kernel), iT_1 16 (by rfl) (by decide +kernel), iT_5 74 (by rfl) (by decide +kernel), ⟨by decide +kernel, by decide +kernel, by decide +kernel⟩, by decide⟩
abbrev mX3_init : Mt := (yX3_init, cX3_init, 1, none)
theorem iX3_init : MIn mX3_init 0 := ⟨rfl, rfl, iT_3 38 (by rfl) (by decide +kernel), iT_1 17 (by rfl) (by decide +kernel), iT_3 39 (by rfl) (by decide +kernel), ⟨by decide +kernel, by decide +kernel, by decide +kernel⟩, by decide⟩
abbrev mX3_begin : Mt := (yX3_begin, cX3_begin, 4, none)
theorem iX3_begin : MI mX3_begin 2 := ⟨iT_5 80 (by rfl) (by decide +kernel), iT_5 81 (by rfl) (by decide +kernel), iT_1 17 (by rfl) (by decide +kernel), iT_5 82 (by rfl) (by decide +kernel), ⟨by decide +kernel, by decide +kernel, by decide +kernel⟩, by decide⟩
abbrev mX3_pick : Mt := (yX3_pick, cX3_pick, 2, some FieldType.int)
theorem iX3_pick : MSt mX3_pick 2 := ⟨iT_5 90 (by rfl) (by decide +kernel), iT_1 17 (by rfl) (by decide +kernel), iT_5 91 (by rfl) (by decide +kernel), ⟨by decide +kernel, by decide +kernel, by decide +kernel⟩, by decide⟩
abbrev mX3_isRow : Mt := (yX3_isRow, cX3_isRow, 5, some FieldType.boolean)
theorem iX3_isRow : MI mX3_isRow 1 := ⟨iT_5 86 (by rfl) (by decide +kernel), iT_5 87 (by rfl) (by decide +kernel), iT_1 17 (by rfl) (by decide +kernel), iT_5 88 (by rfl) (by decide +kernel), ⟨by decide +kernel, by decide +kernel, by decide +kernel⟩, by decide⟩
abbrev mX3_putDays : Mt := (yX3_putDays, cX3_putDays, 4, none)
theorem iX3_putDays : MI mX3_putDays 2 := ⟨iT_5 93 (by rfl) (by decide +kernel), iT_5 94 (by rfl) (by decide +kernel), iT_1 17 (by rfl) (by decide +kernel), iT_5 95 (by rfl) (by decide +kernel), ⟨by decide +kernel, by decide +kernel, by decide +kernel⟩, by decide⟩
abbrev mX3_weigh : Mt := (yX3_weigh, cX3_weigh, 3, none)
theorem iX3_weigh : MI mX3_weigh 2 := ⟨iT_5 97 (by rfl) (by decide +kernel), iT_5 98 (by rfl) (by decide +kernel), iT_1 17 (by rfl) (by decide +kernel), iT_5 99 (by rfl) (by decide +kernel), ⟨by decide +kernel, by decide +kernel, by decide +kernel⟩, by decide⟩
abbrev mX3_shotAt : Mt := (yX3_shotAt, cX3_shotAt, 2, some FieldType.int)
theorem iX3_shotAt : MI mX3_shotAt 1 := ⟨iT_5 101 (by rfl) (by decide +kernel), iT_5 102 (by rfl) (by decide +kernel), iT_1 17 (by rfl) (by decide +kernel), iT_5 103 (by rfl) (by decide +kernel), ⟨by decide +kernel, by decide +kernel, by decide +kernel⟩, by decide⟩
abbrev mX4_init : Mt := (yX4_init, cX4_init, 1, none)
theorem iX4_init : MIn mX4_init 0 := ⟨rfl, rfl, iT_1 198 (by rfl) (by decide +kernel), iT_1 6 (by rfl) (by decide +kernel), iT_1 199 (by rfl) (by decide +kernel), ⟨by decide +kernel, by decide +kernel, by decide +kernel⟩, by decide⟩
abbrev mX4_read : Mt := (yX4_read, cX4_read, 4, some FieldType.boolean)
theorem iX4_read : MI mX4_read 2 := ⟨iT_3 117 (by rfl) (by decide +kernel), iT_3 118 (by rfl) (by decide +kernel), iT_1 6 (by rfl) (by decide +kernel), iT_3 119 (by rfl) (by decide +kernel), ⟨by decide +kernel, by decide +kernel, by decide +kernel⟩, by decide⟩
abbrev mX4_fail : Mt := (yX4_fail, cX4_fail, 2, none)
theorem iX4_fail : MI mX4_fail 1 := ⟨iT_3 185 (by rfl) (by decide +kernel), iS 7 (by rfl) (by decide +kernel), iT_1 6 (by rfl) (by decide +kernel), iT_3 186 (by rfl) (by decide +kernel), ⟨by decide +kernel, by decide +kernel, by decide +kernel⟩, by decide⟩
abbrev mX4_line : Mt := (yX4_line, cX4_line, 1, none)
theorem iX4_line : MI mX4_line 0 := ⟨iT_3 169 (by rfl) (by decide +kernel), iS 4 (by rfl) (by decide +kernel), iT_1 6 (by rfl) (by decide +kernel), iT_3 170 (by rfl) (by decide +kernel), ⟨by decide +kernel, by decide +kernel, by decide +kernel⟩, by decide⟩
abbrev mX4_markLine : Mt := (yX4_markLine, cX4_markLine, 4, none)
theorem iX4_markLine : MI mX4_markLine 0 := ⟨iT_3 173 (by rfl) (by decide +kernel), iS 5 (by rfl) (by decide +kernel), iT_1 6 (by rfl) (by decide +kernel), iT_3 174 (by rfl) (by decide +kernel), ⟨by decide +kernel, by decide +kernel, by decide +kernel⟩, by decide⟩
abbrev mX4_shotLine : Mt := (yX4_shotLine, cX4_shotLine, 4, none)
theorem iX4_shotLine : MI mX4_shotLine 0 := ⟨iT_3 208 (by rfl) (by decide +kernel), iS 10 (by rfl) (by decide +kernel), iT_1 6 (by rfl) (by decide +kernel), iT_3 209 (by rfl) (by decide +kernel), ⟨by decide +kernel, by decide +kernel, by decide +kernel⟩, by decide⟩
abbrev mX4_pairLine : Mt := (yX4_pairLine, cX4_pairLine, 5, none)
theorem iX4_pairLine : MI mX4_pairLine 0 := ⟨iT_3 212 (by rfl) (by decide +kernel), iS 11 (by rfl) (by decide +kernel), iT_1 6 (by rfl) (by decide +kernel), iT_3 213 (by rfl) (by decide +kernel), ⟨by decide +kernel, by decide +kernel, by decide +kernel⟩, by decide⟩
abbrev mX4_partyLine : Mt := (yX4_partyLine, cX4_partyLine, 5, none)
theorem iX4_partyLine : MI mX4_partyLine 0 := ⟨iT_3 222 (by rfl) (by decide +kernel), iS 13 (by rfl) (by decide +kernel), iT_1 6 (by rfl) (by decide +kernel), iT_3 223 (by rfl) (by decide +kernel), ⟨by decide +kernel, by decide +kernel, by decide +kernel⟩, by decide⟩
abbrev mX4_clerkLine : Mt := (yX4_clerkLine, cX4_clerkLine, 3, none)
theorem iX4_clerkLine : MI mX4_clerkLine 0 := ⟨iT_3 226 (by rfl) (by decide +kernel), iS 14 (by rfl) (by decide +kernel), iT_1 6 (by rfl) (by decide +kernel), iT_3 227 (by rfl) (by decide +kernel), ⟨by decide +kernel, by decide +kernel, by decide +kernel⟩, by decide⟩
abbrev mX4_coldLine : Mt := (yX4_coldLine, cX4_coldLine, 3, none)
theorem iX4_coldLine : MI mX4_coldLine 0 := ⟨iT_3 230 (by rfl) (by decide +kernel), iS 15 (by rfl) (by decide +kernel), iT_1 6 (by rfl) (by decide +kernel), iT_3 231 (by rfl) (by decide +kernel), ⟨by decide +kernel, by decide +kernel, by decide +kernel⟩, by decide⟩
abbrev mX4_begin : Mt := (yX4_begin, cX4_begin, 2, none)
theorem iX4_begin : MI mX4_begin 1 := ⟨iT_3 181 (by rfl) (by decide +kernel), iS 6 (by rfl) (by decide +kernel), iT_1 6 (by rfl) (by decide +kernel), iT_3 182 (by rfl) (by decide +kernel), ⟨by decide +kernel, by decide +kernel, by decide +kernel⟩, by decide⟩
abbrev mX4_onlyOnce : Mt := (yX4_onlyOnce, cX4_onlyOnce, 3, some FieldType.int)
theorem iX4_onlyOnce : MI mX4_onlyOnce 2 := ⟨iT_3 234 (by rfl) (by decide +kernel), iS 16 (by rfl) (by decide +kernel), iT_1 6 (by rfl) (by decide +kernel), iT_3 235 (by rfl) (by decide +kernel), ⟨by decide +kernel, by decide +kernel, by decide +kernel⟩, by decide⟩
abbrev mX4_fresh : Mt := (yX4_fresh, cX4_fresh, 3, some FieldType.int)
theorem iX4_fresh : MI mX4_fresh 1 := ⟨iT_3 190 (by rfl) (by decide +kernel), iS 8 (by rfl) (by decide +kernel), iT_1 6 (by rfl) (by decide +kernel), iT_3 191 (by rfl) (by decide +kernel), ⟨by decide +kernel, by decide +kernel, by decide +kernel⟩, by decide⟩
abbrev mX4_find : Mt := (yX4_find, cX4_find, 3, some FieldType.int)
theorem iX4_find : MI mX4_find 1 := ⟨iT_3 216 (by rfl) (by decide +kernel), iS 12 (by rfl) (by decide +kernel), iT_1 6 (by rfl) (by decide +kernel), iT_3 217 (by rfl) (by decide +kernel), ⟨by decide +kernel, by decide +kernel, by decide +kernel⟩, by decide⟩
abbrev mX4_number : Mt := (yX4_number, cX4_number, 4, some FieldType.int)
theorem iX4_number : MI mX4_number 2 := ⟨iT_3 199 (by rfl) (by decide +kernel), iS 9 (by rfl) (by decide +kernel), iT_1 6 (by rfl) (by decide +kernel), iT_3 200 (by rfl) (by decide +kernel), ⟨by decide +kernel, by decide +kernel, by decide +kernel⟩, by decide⟩
abbrev mX4_lawLine : Mt := (yX4_lawLine, cX4_lawLine, 3, none)
theorem iX4_lawLine : MI mX4_lawLine 0 := ⟨iT_3 239 (by rfl) (by decide +kernel), iS 17 (by rfl) (by decide +kernel), iT_1 6 (by rfl) (by decide +kernel), iT_4 0 (by rfl) (by decide +kernel), ⟨by decide +kernel, by decide +kernel, by decide +kernel⟩, by decide⟩
abbrev mX4_side : Mt := (yX4_side, cX4_side, 4, none)
theorem iX4_side : MI mX4_side 1 := ⟨iT_4 3 (by rfl) (by decide +kernel), iS 18 (by rfl) (by decide +kernel), iT_1 6 (by rfl) (by decide +kernel), iT_4 4 (by rfl) (by decide +kernel), ⟨by decide +kernel, by decide +kernel, by decide +kernel⟩, by decide⟩
abbrev mX4_operand : Mt := (yX4_operand, cX4_operand, 3, some FieldType.boolean)
theorem iX4_operand : MI mX4_operand 1 := ⟨iT_4 19 (by rfl) (by decide +kernel), iS 21 (by rfl) (by decide +kernel), iT_1 6 (by rfl) (by decide +kernel), iT_4 20 (by rfl) (by decide +kernel), ⟨by decide +kernel, by decide +kernel, by decide +kernel⟩, by decide⟩
abbrev mX4_sign : Mt := (yX4_sign, cX4_sign, 4, some FieldType.boolean)
theorem iX4_sign : MI mX4_sign 1 := ⟨iT_4 34 (by rfl) (by decide +kernel), iS 24 (by rfl) (by decide +kernel), iT_1 6 (by rfl) (by decide +kernel), iT_4 35 (by rfl) (by decide +kernel), ⟨by decide +kernel, by decide +kernel, by decide +kernel⟩, by decide⟩
abbrev mX4_knot : Mt := (yX4_knot, cX4_knot, 1, none)
theorem iX4_knot : MI mX4_knot 0 := ⟨iT_4 23 (by rfl) (by decide +kernel), iS 22 (by rfl) (by decide +kernel), iT_1 6 (by rfl) (by decide +kernel), iT_4 24 (by rfl) (by decide +kernel), ⟨by decide +kernel, by decide +kernel, by decide +kernel⟩, by decide⟩
abbrev mX4_hold : Mt := (yX4_hold, cX4_hold, 2, none)
theorem iX4_hold : MI mX4_hold 1 := ⟨iT_4 27 (by rfl) (by decide +kernel), iS 23 (by rfl) (by decide +kernel), iT_1 6 (by rfl) (by decide +kernel), iT_4 28 (by rfl) (by decide +kernel), ⟨by decide +kernel, by decide +kernel, by decide +kernel⟩, by decide⟩
abbrev mX4_join : Mt := (yX4_join, cX4_join, 4, none)
theorem iX4_join : MI mX4_join 2 := ⟨iT_4 7 (by rfl) (by decide +kernel), iS 19 (by rfl) (by decide +kernel), iT_1 6 (by rfl) (by decide +kernel), iT_4 8 (by rfl) (by decide +kernel), ⟨by decide +kernel, by decide +kernel, by decide +kernel⟩, by decide⟩
abbrev mX4_topRank : Mt := (yX4_topRank, cX4_topRank, 1, some FieldType.int)
theorem iX4_topRank : MI mX4_topRank 0 := ⟨iT_4 11 (by rfl) (by decide +kernel), iS 20 (by rfl) (by decide +kernel), iT_1 6 (by rfl) (by decide +kernel), iT_4 12 (by rfl) (by decide +kernel), ⟨by decide +kernel, by decide +kernel, by decide +kernel⟩, by decide⟩
abbrev mX4_rank : Mt := (yX4_rank, cX4_rank, 1, some FieldType.int)
theorem iX4_rank : MSt mX4_rank 1 := ⟨iT_4 30 (by rfl) (by decide +kernel), iT_1 6 (by rfl) (by decide +kernel), iT_4 31 (by rfl) (by decide +kernel), ⟨by decide +kernel, by decide +kernel, by decide +kernel⟩, by decide⟩
abbrev mX5_init : Mt := (yX5_init, cX5_init, 1, none)
theorem iX5_init : MIn mX5_init 0 := ⟨rfl, rfl, iT_2 87 (by rfl) (by decide +kernel), iT_1 12 (by rfl) (by decide +kernel), iT_2 88 (by rfl) (by decide +kernel), ⟨by decide +kernel, by decide +kernel, by decide +kernel⟩, by decide⟩
abbrev mX5_open : Mt := (yX5_open, cX5_open, 2, none)
theorem iX5_open : MI mX5_open 1 := ⟨iT_3 56 (by rfl) (by decide +kernel), iT_3 57 (by rfl) (by decide +kernel), iT_1 12 (by rfl) (by decide +kernel), iT_3 58 (by rfl) (by decide +kernel), ⟨by decide +kernel, by decide +kernel, by decide +kernel⟩, by decide⟩
abbrev mX5_copy : Mt := (yX5_copy, cX5_copy, 2, none)
theorem iX5_copy : MI mX5_copy 1 := ⟨iT_4 112 (by rfl) (by decide +kernel), iT_4 113 (by rfl) (by decide +kernel), iT_1 12 (by rfl) (by decide +kernel), iT_4 114 (by rfl) (by decide +kernel), ⟨by decide +kernel, by decide +kernel, by decide +kernel⟩, by decide⟩
abbrev mX5_wayIn : Mt := (yX5_wayIn, cX5_wayIn, 3, some FieldType.int)
theorem iX5_wayIn : MI mX5_wayIn 2 := ⟨iT_4 86 (by rfl) (by decide +kernel), iT_4 87 (by rfl) (by decide +kernel), iT_1 12 (by rfl) (by decide +kernel), iT_4 88 (by rfl) (by decide +kernel), ⟨by decide +kernel, by decide +kernel, by decide +kernel⟩, by decide⟩
abbrev mX5_marksIn : Mt := (yX5_marksIn, cX5_marksIn, 4, some FieldType.int)
theorem iX5_marksIn : MI mX5_marksIn 1 := ⟨iT_4 174 (by rfl) (by decide +kernel), iT_4 175 (by rfl) (by decide +kernel), iT_1 12 (by rfl) (by decide +kernel), iT_4 176 (by rfl) (by decide +kernel), ⟨by decide +kernel, by decide +kernel, by decide +kernel⟩, by decide⟩
abbrev mX5_clashing : Mt := (yX5_clashing, cX5_clashing, 6, some FieldType.int)
theorem iX5_clashing : MI mX5_clashing 1 := ⟨iT_4 82 (by rfl) (by decide +kernel), iT_4 83 (by rfl) (by decide +kernel), iT_1 12 (by rfl) (by decide +kernel), iT_4 84 (by rfl) (by decide +kernel), ⟨by decide +kernel, by decide +kernel, by decide +kernel⟩, by decide⟩
abbrev mX5_clashCount : Mt := (yX5_clashCount, cX5_clashCount, 3, some FieldType.int)
theorem iX5_clashCount : MI mX5_clashCount 0 := ⟨iT_5 27 (by rfl) (by decide +kernel), iT_5 28 (by rfl) (by decide +kernel), iT_1 12 (by rfl) (by decide +kernel), iT_5 29 (by rfl) (by decide +kernel), ⟨by decide +kernel, by decide +kernel, by decide +kernel⟩, by decide⟩
abbrev mX5_filmedCount : Mt := (yX5_filmedCount, cX5_filmedCount, 3, some FieldType.int)
theorem iX5_filmedCount : MI mX5_filmedCount 0 := ⟨iT_5 23 (by rfl) (by decide +kernel), iT_5 24 (by rfl) (by decide +kernel), iT_1 12 (by rfl) (by decide +kernel), iT_5 25 (by rfl) (by decide +kernel), ⟨by decide +kernel, by decide +kernel, by decide +kernel⟩, by decide⟩
abbrev mX5_filmedWith : Mt := (yX5_filmedWith, cX5_filmedWith, 5, some FieldType.int)
theorem iX5_filmedWith : MI mX5_filmedWith 2 := ⟨iT_4 131 (by rfl) (by decide +kernel), iT_4 132 (by rfl) (by decide +kernel), iT_1 12 (by rfl) (by decide +kernel), iT_4 133 (by rfl) (by decide +kernel), ⟨by decide +kernel, by decide +kernel, by decide +kernel⟩, by decide⟩
abbrev mX5_givenCount : Mt := (yX5_givenCount, cX5_givenCount, 3, some FieldType.int)
theorem iX5_givenCount : MI mX5_givenCount 0 := ⟨iT_4 169 (by rfl) (by decide +kernel), iT_4 170 (by rfl) (by decide +kernel), iT_1 12 (by rfl) (by decide +kernel), iT_4 171 (by rfl) (by decide +kernel), ⟨by decide +kernel, by decide +kernel, by decide +kernel⟩, by decide⟩
abbrev mX5_breaksBehind : Mt := (yX5_breaksBehind, cX5_breaksBehind, 6, some FieldType.int)
theorem iX5_breaksBehind : MI mX5_breaksBehind 1 := ⟨iT_5 40 (by rfl) (by decide +kernel), iT_5 41 (by rfl) (by decide +kernel), iT_1 12 (by rfl) (by decide +kernel), iT_5 42 (by rfl) (by decide +kernel), ⟨by decide +kernel, by decide +kernel, by decide +kernel⟩, by decide⟩
abbrev mX5_breakCount : Mt := (yX5_breakCount, cX5_breakCount, 3, some FieldType.int)
theorem iX5_breakCount : MI mX5_breakCount 0 := ⟨iT_5 36 (by rfl) (by decide +kernel), iT_5 37 (by rfl) (by decide +kernel), iT_1 12 (by rfl) (by decide +kernel), iT_5 38 (by rfl) (by decide +kernel), ⟨by decide +kernel, by decide +kernel, by decide +kernel⟩, by decide⟩
abbrev mX6_init : Mt := (yX6_init, cX6_init, 1, none)
theorem iX6_init : MIn mX6_init 0 := ⟨rfl, rfl, iT_2 210 (by rfl) (by decide +kernel), iT_1 14 (by rfl) (by decide +kernel), iT_2 211 (by rfl) (by decide +kernel), ⟨by decide +kernel, by decide +kernel, by decide +kernel⟩, by decide⟩
abbrev mX6_clear : Mt := (yX6_clear, cX6_clear, 1, none)
theorem iX6_clear : MI mX6_clear 0 := ⟨iT_4 56 (by rfl) (by decide +kernel), iT_4 57 (by rfl) (by decide +kernel), iT_1 14 (by rfl) (by decide +kernel), iT_4 58 (by rfl) (by decide +kernel), ⟨by decide +kernel, by decide +kernel, by decide +kernel⟩, by decide⟩
abbrev mX6_add : Mt := (yX6_add, cX6_add, 4, some FieldType.int)
theorem iX6_add : MI mX6_add 3 := ⟨iT_5 173 (by rfl) (by decide +kernel), iT_5 174 (by rfl) (by decide +kernel), iT_1 14 (by rfl) (by decide +kernel), iT_5 175 (by rfl) (by decide +kernel), ⟨by decide +kernel, by decide +kernel, by decide +kernel⟩, by decide⟩
abbrev mX6_knownCount : Mt := (yX6_knownCount, cX6_knownCount, 1, some FieldType.int)
theorem iX6_knownCount : MI mX6_knownCount 0 := ⟨iT_5 194 (by rfl) (by decide +kernel), iT_5 195 (by rfl) (by decide +kernel), iT_1 14 (by rfl) (by decide +kernel), iT_5 196 (by rfl) (by decide +kernel), ⟨by decide +kernel, by decide +kernel, by decide +kernel⟩, by decide⟩
abbrev mX6_knownOnes : Mt := (yX6_knownOnes, cX6_knownOnes, 5, some FieldType.int)
theorem iX6_knownOnes : MI mX6_knownOnes 0 := ⟨iT_5 190 (by rfl) (by decide +kernel), iT_5 191 (by rfl) (by decide +kernel), iT_1 14 (by rfl) (by decide +kernel), iT_5 192 (by rfl) (by decide +kernel), ⟨by decide +kernel, by decide +kernel, by decide +kernel⟩, by decide⟩
abbrev mX6_lastDay : Mt := (yX6_lastDay, cX6_lastDay, 4, some FieldType.int)
theorem iX6_lastDay : MI mX6_lastDay 1 := ⟨iT_5 199 (by rfl) (by decide +kernel), iT_5 200 (by rfl) (by decide +kernel), iT_1 14 (by rfl) (by decide +kernel), iT_5 201 (by rfl) (by decide +kernel), ⟨by decide +kernel, by decide +kernel, by decide +kernel⟩, by decide⟩
abbrev mX6_fits : Mt := (yX6_fits, cX6_fits, 7, some FieldType.boolean)
theorem iX6_fits : MI mX6_fits 3 := ⟨iT_5 204 (by rfl) (by decide +kernel), iT_5 205 (by rfl) (by decide +kernel), iT_1 14 (by rfl) (by decide +kernel), iT_5 206 (by rfl) (by decide +kernel), ⟨by decide +kernel, by decide +kernel, by decide +kernel⟩, by decide⟩
abbrev mX7_init : Mt := (yX7_init, cX7_init, 2, none)
theorem iX7_init : MIn mX7_init 1 := ⟨rfl, rfl, iT_1 43 (by rfl) (by decide +kernel), iT_1 3 (by rfl) (by decide +kernel), iT_1 44 (by rfl) (by decide +kernel), ⟨by decide +kernel, by decide +kernel, by decide +kernel⟩, by decide⟩
abbrev mX7_clear : Mt := (yX7_clear, cX7_clear, 1, none)
theorem iX7_clear : MI mX7_clear 0 := ⟨iT_3 125 (by rfl) (by decide +kernel), iT_3 126 (by rfl) (by decide +kernel), iT_1 3 (by rfl) (by decide +kernel), iT_3 127 (by rfl) (by decide +kernel), ⟨by decide +kernel, by decide +kernel, by decide +kernel⟩, by decide⟩
abbrev mX7_copy : Mt := (yX7_copy, cX7_copy, 2, none)
theorem iX7_copy : MI mX7_copy 1 := ⟨iT_4 45 (by rfl) (by decide +kernel), iT_4 46 (by rfl) (by decide +kernel), iT_1 3 (by rfl) (by decide +kernel), iT_4 47 (by rfl) (by decide +kernel), ⟨by decide +kernel, by decide +kernel, by decide +kernel⟩, by decide⟩
abbrev mX7_holds : Mt := (yX7_holds, cX7_holds, 2, some FieldType.boolean)
theorem iX7_holds : MI mX7_holds 1 := ⟨iT_4 77 (by rfl) (by decide +kernel), iT_4 78 (by rfl) (by decide +kernel), iT_1 3 (by rfl) (by decide +kernel), iT_4 79 (by rfl) (by decide +kernel), ⟨by decide +kernel, by decide +kernel, by decide +kernel⟩, by decide⟩
abbrev mX7_isFull : Mt := (yX7_isFull, cX7_isFull, 1, some FieldType.boolean)
theorem iX7_isFull : MI mX7_isFull 0 := ⟨iT_3 176 (by rfl) (by decide +kernel), iT_3 177 (by rfl) (by decide +kernel), iT_1 3 (by rfl) (by decide +kernel), iT_3 178 (by rfl) (by decide +kernel), ⟨by decide +kernel, by decide +kernel, by decide +kernel⟩, by decide⟩
abbrev mX7_find : Mt := (yX7_find, cX7_find, 3, some FieldType.int)
theorem iX7_find : MI mX7_find 1 := ⟨iT_3 193 (by rfl) (by decide +kernel), iT_3 194 (by rfl) (by decide +kernel), iT_1 3 (by rfl) (by decide +kernel), iT_3 195 (by rfl) (by decide +kernel), ⟨by decide +kernel, by decide +kernel, by decide +kernel⟩, by decide⟩
abbrev mX7_add : Mt := (yX7_add, cX7_add, 5, none)
theorem iX7_add : MI mX7_add 4 := ⟨iT_3 202 (by rfl) (by decide +kernel), iT_3 203 (by rfl) (by decide +kernel), iT_1 3 (by rfl) (by decide +kernel), iT_3 204 (by rfl) (by decide +kernel), ⟨by decide +kernel, by decide +kernel, by decide +kernel⟩, by decide⟩
abbrev mX8_init : Mt := (yX8_init, cX8_init, 4, none)
theorem iX8_init : MIn mX8_init 0 := ⟨rfl, rfl, iT_1 206 (by rfl) (by decide +kernel), iT_1 7 (by rfl) (by decide +kernel), iT_1 207 (by rfl) (by decide +kernel), ⟨by decide +kernel, by decide +kernel, by decide +kernel⟩, by decide⟩
abbrev mX8_packed : Mt := (yX8_packed, cX8_packed, 2, some FieldType.int)
theorem iX8_packed : MSt mX8_packed 2 := ⟨iT_2 22 (by rfl) (by decide +kernel), iT_1 7 (by rfl) (by decide +kernel), iT_2 23 (by rfl) (by decide +kernel), ⟨by decide +kernel, by decide +kernel, by decide +kernel⟩, by decide⟩
abbrev mX8_isLetter : Mt := (yX8_isLetter, cX8_isLetter, 1, some FieldType.boolean)
theorem iX8_isLetter : MSt mX8_isLetter 1 := ⟨iT_3 146 (by rfl) (by decide +kernel), iT_1 7 (by rfl) (by decide +kernel), iT_3 147 (by rfl) (by decide +kernel), ⟨by decide +kernel, by decide +kernel, by decide +kernel⟩, by decide⟩
abbrev mX8_isDigit : Mt := (yX8_isDigit, cX8_isDigit, 1, some FieldType.boolean)
theorem iX8_isDigit : MSt mX8_isDigit 1 := ⟨iT_3 153 (by rfl) (by decide +kernel), iT_1 7 (by rfl) (by decide +kernel), iT_3 154 (by rfl) (by decide +kernel), ⟨by decide +kernel, by decide +kernel, by decide +kernel⟩, by decide⟩
abbrev mX8_signAt : Mt := (yX8_signAt, cX8_signAt, 2, some FieldType.int)
theorem iX8_signAt : MI mX8_signAt 1 := ⟨iT_3 143 (by rfl) (by decide +kernel), iS 1 (by rfl) (by decide +kernel), iT_1 7 (by rfl) (by decide +kernel), iT_3 144 (by rfl) (by decide +kernel), ⟨by decide +kernel, by decide +kernel, by decide +kernel⟩, by decide⟩
abbrev mX8_begin : Mt := (yX8_begin, cX8_begin, 3, none)
theorem iX8_begin : MI mX8_begin 2 := ⟨iT_3 134 (by rfl) (by decide +kernel), iT_3 135 (by rfl) (by decide +kernel), iT_1 7 (by rfl) (by decide +kernel), iT_3 136 (by rfl) (by decide +kernel), ⟨by decide +kernel, by decide +kernel, by decide +kernel⟩, by decide⟩
abbrev mX8_step : Mt := (yX8_step, cX8_step, 2, none)
theorem iX8_step : MI mX8_step 0 := ⟨iT_3 138 (by rfl) (by decide +kernel), iT_3 139 (by rfl) (by decide +kernel), iT_1 7 (by rfl) (by decide +kernel), iT_3 140 (by rfl) (by decide +kernel), ⟨by decide +kernel, by decide +kernel, by decide +kernel⟩, by decide⟩
abbrev mX8_word : Mt := (yX8_word, cX8_word, 3, none)
theorem iX8_word : MI mX8_word 0 := ⟨iT_3 150 (by rfl) (by decide +kernel), iS 2 (by rfl) (by decide +kernel), iT_1 7 (by rfl) (by decide +kernel), iT_3 151 (by rfl) (by decide +kernel), ⟨by decide +kernel, by decide +kernel, by decide +kernel⟩, by decide⟩
abbrev mX8_number : Mt := (yX8_number, cX8_number, 2, none)
theorem iX8_number : MI mX8_number 0 := ⟨iT_3 157 (by rfl) (by decide +kernel), iS 3 (by rfl) (by decide +kernel), iT_1 7 (by rfl) (by decide +kernel), iT_3 158 (by rfl) (by decide +kernel), ⟨by decide +kernel, by decide +kernel, by decide +kernel⟩, by decide⟩
abbrev mX8_kindOf : Mt := (yX8_kindOf, cX8_kindOf, 2, some FieldType.int)
theorem iX8_kindOf : MSt mX8_kindOf 2 := ⟨iT_3 162 (by rfl) (by decide +kernel), iT_1 7 (by rfl) (by decide +kernel), iT_3 163 (by rfl) (by decide +kernel), ⟨by decide +kernel, by decide +kernel, by decide +kernel⟩, by decide⟩
abbrev mX8_isPair : Mt := (yX8_isPair, cX8_isPair, 1, some FieldType.boolean)
theorem iX8_isPair : MSt mX8_isPair 1 := ⟨iT_3 165 (by rfl) (by decide +kernel), iT_1 7 (by rfl) (by decide +kernel), iT_3 166 (by rfl) (by decide +kernel), ⟨by decide +kernel, by decide +kernel, by decide +kernel⟩, by decide⟩
abbrev mX9_init : Mt := (yX9_init, cX9_init, 1, none)
theorem iX9_init : MIn mX9_init 0 := ⟨rfl, rfl, iT_1 37 (by rfl) (by decide +kernel), iT_1 2 (by rfl) (by decide +kernel), iT_1 38 (by rfl) (by decide +kernel), ⟨by decide +kernel, by decide +kernel, by decide +kernel⟩, by decide⟩
abbrev mX9_clear : Mt := (yX9_clear, cX9_clear, 1, none)
theorem iX9_clear : MI mX9_clear 0 := ⟨iT_3 121 (by rfl) (by decide +kernel), iT_3 122 (by rfl) (by decide +kernel), iT_1 2 (by rfl) (by decide +kernel), iT_3 123 (by rfl) (by decide +kernel), ⟨by decide +kernel, by decide +kernel, by decide +kernel⟩, by decide⟩
abbrev mX9_settle : Mt := (yX9_settle, cX9_settle, 1, none)
theorem iX9_settle : MI mX9_settle 0 := ⟨iT_4 37 (by rfl) (by decide +kernel), iT_4 38 (by rfl) (by decide +kernel), iT_1 2 (by rfl) (by decide +kernel), iT_4 39 (by rfl) (by decide +kernel), ⟨by decide +kernel, by decide +kernel, by decide +kernel⟩, by decide⟩
abbrev mX9_copy : Mt := (yX9_copy, cX9_copy, 2, none)
theorem iX9_copy : MI mX9_copy 1 := ⟨iT_4 41 (by rfl) (by decide +kernel), iT_4 42 (by rfl) (by decide +kernel), iT_1 2 (by rfl) (by decide +kernel), iT_4 43 (by rfl) (by decide +kernel), ⟨by decide +kernel, by decide +kernel, by decide +kernel⟩, by decide⟩
abbrev mX9_isCold : Mt := (yX9_isCold, cX9_isCold, 3, some FieldType.boolean)
theorem iX9_isCold : MI mX9_isCold 1 := ⟨iT_4 217 (by rfl) (by decide +kernel), iT_4 218 (by rfl) (by decide +kernel), iT_1 2 (by rfl) (by decide +kernel), iT_4 219 (by rfl) (by decide +kernel), ⟨by decide +kernel, by decide +kernel, by decide +kernel⟩, by decide⟩
abbrev mX10_init : Mt := (yX10_init, cX10_init, 1, none)
theorem iX10_init : MIn mX10_init 0 := ⟨rfl, rfl, iT_2 234 (by rfl) (by decide +kernel), iT_1 15 (by rfl) (by decide +kernel), iT_2 235 (by rfl) (by decide +kernel), ⟨by decide +kernel, by decide +kernel, by decide +kernel⟩, by decide⟩
abbrev mX10_clear : Mt := (yX10_clear, cX10_clear, 1, none)
theorem iX10_clear : MI mX10_clear 0 := ⟨iT_4 60 (by rfl) (by decide +kernel), iT_4 61 (by rfl) (by decide +kernel), iT_1 15 (by rfl) (by decide +kernel), iT_4 62 (by rfl) (by decide +kernel), ⟨by decide +kernel, by decide +kernel, by decide +kernel⟩, by decide⟩
abbrev mX10_add : Mt := (yX10_add, cX10_add, 4, none)
theorem iX10_add : MI mX10_add 3 := ⟨iT_4 182 (by rfl) (by decide +kernel), iT_4 183 (by rfl) (by decide +kernel), iT_1 15 (by rfl) (by decide +kernel), iT_4 184 (by rfl) (by decide +kernel), ⟨by decide +kernel, by decide +kernel, by decide +kernel⟩, by decide⟩
abbrev mX10_takeBack : Mt := (yX10_takeBack, cX10_takeBack, 4, some FieldType.boolean)
theorem iX10_takeBack : MI mX10_takeBack 1 := ⟨iT_5 225 (by rfl) (by decide +kernel), iT_5 226 (by rfl) (by decide +kernel), iT_1 15 (by rfl) (by decide +kernel), iT_5 227 (by rfl) (by decide +kernel), ⟨by decide +kernel, by decide +kernel, by decide +kernel⟩, by decide⟩
abbrev mX11_init : Mt := (yX11_init, cX11_init, 1, none)
theorem iX11_init : MIn mX11_init 0 := ⟨rfl, rfl, iT_1 29 (by rfl) (by decide +kernel), iT_1 1 (by rfl) (by decide +kernel), iT_1 30 (by rfl) (by decide +kernel), ⟨by decide +kernel, by decide +kernel, by decide +kernel⟩, by decide⟩
abbrev mX11_feed : Mt := (yX11_feed, cX11_feed, 6, some FieldType.int)
theorem iX11_feed : MI mX11_feed 5 := ⟨iT_3 105 (by rfl) (by decide +kernel), iT_3 106 (by rfl) (by decide +kernel), iT_1 1 (by rfl) (by decide +kernel), iT_3 107 (by rfl) (by decide +kernel), ⟨by decide +kernel, by decide +kernel, by decide +kernel⟩, by decide⟩
abbrev mX11_write : Mt := (yX11_write, cX11_write, 3, none)
theorem iX11_write : MI mX11_write 1 := ⟨iT_3 110 (by rfl) (by decide +kernel), iS 0 (by rfl) (by decide +kernel), iT_1 1 (by rfl) (by decide +kernel), iT_3 111 (by rfl) (by decide +kernel), ⟨by decide +kernel, by decide +kernel, by decide +kernel⟩, by decide⟩
abbrev mX11_text : Mt := (yX11_text, cX11_text, 3, some FieldType.int)
theorem iX11_text : MI mX11_text 1 := ⟨iT_3 113 (by rfl) (by decide +kernel), iT_3 114 (by rfl) (by decide +kernel), iT_1 1 (by rfl) (by decide +kernel), iT_3 115 (by rfl) (by decide +kernel), ⟨by decide +kernel, by decide +kernel, by decide +kernel⟩, by decide⟩
abbrev mX11_fault : Mt := (yX11_fault, cX11_fault, 2, some FieldType.int)
theorem iX11_fault : MI mX11_fault 1 := ⟨iT_4 64 (by rfl) (by decide +kernel), iT_4 65 (by rfl) (by decide +kernel), iT_1 1 (by rfl) (by decide +kernel), iT_4 66 (by rfl) (by decide +kernel), ⟨by decide +kernel, by decide +kernel, by decide +kernel⟩, by decide⟩
abbrev mX11_named : Mt := (yX11_named, cX11_named, 3, some FieldType.int)
theorem iX11_named : MI mX11_named 2 := ⟨iT_4 68 (by rfl) (by decide +kernel), iT_4 69 (by rfl) (by decide +kernel), iT_1 1 (by rfl) (by decide +kernel), iT_4 70 (by rfl) (by decide +kernel), ⟨by decide +kernel, by decide +kernel, by decide +kernel⟩, by decide⟩
abbrev mX11_mark : Mt := (yX11_mark, cX11_mark, 3, some FieldType.int)
theorem iX11_mark : MI mX11_mark 2 := ⟨iT_6 8 (by rfl) (by decide +kernel), iT_6 9 (by rfl) (by decide +kernel), iT_1 1 (by rfl) (by decide +kernel), iT_6 10 (by rfl) (by decide +kernel), ⟨by decide +kernel, by decide +kernel, by decide +kernel⟩, by decide⟩
abbrev mX11_shot : Mt := (yX11_shot, cX11_shot, 3, some FieldType.int)
theorem iX11_shot : MI mX11_shot 2 := ⟨iT_4 73 (by rfl) (by decide +kernel), iT_4 74 (by rfl) (by decide +kernel), iT_1 1 (by rfl) (by decide +kernel), iT_4 75 (by rfl) (by decide +kernel), ⟨by decide +kernel, by decide +kernel, by decide +kernel⟩, by decide⟩
abbrev mX11_way : Mt := (yX11_way, cX11_way, 4, some FieldType.int)
theorem iX11_way : MI mX11_way 2 := ⟨iT_4 91 (by rfl) (by decide +kernel), iT_4 92 (by rfl) (by decide +kernel), iT_1 1 (by rfl) (by decide +kernel), iT_4 93 (by rfl) (by decide +kernel), ⟨by decide +kernel, by decide +kernel, by decide +kernel⟩, by decide⟩
abbrev mX11_party : Mt := (yX11_party, cX11_party, 3, some FieldType.int)
theorem iX11_party : MI mX11_party 2 := ⟨iT_4 96 (by rfl) (by decide +kernel), iT_4 97 (by rfl) (by decide +kernel), iT_1 1 (by rfl) (by decide +kernel), iT_4 98 (by rfl) (by decide +kernel), ⟨by decide +kernel, by decide +kernel, by decide +kernel⟩, by decide⟩
abbrev mX11_clerk : Mt := (yX11_clerk, cX11_clerk, 2, some FieldType.int)
theorem iX11_clerk : MI mX11_clerk 1 := ⟨iT_4 100 (by rfl) (by decide +kernel), iT_4 101 (by rfl) (by decide +kernel), iT_1 1 (by rfl) (by decide +kernel), iT_4 102 (by rfl) (by decide +kernel), ⟨by decide +kernel, by decide +kernel, by decide +kernel⟩, by decide⟩
abbrev mX11_law : Mt := (yX11_law, cX11_law, 4, some FieldType.long)
theorem iX11_law : MI mX11_law 3 := ⟨iT_4 104 (by rfl) (by decide +kernel), iT_4 105 (by rfl) (by decide +kernel), iT_1 1 (by rfl) (by decide +kernel), iT_4 106 (by rfl) (by decide +kernel), ⟨by decide +kernel, by decide +kernel, by decide +kernel⟩, by decide⟩
abbrev mX11_noticeNow : Mt := (yX11_noticeNow, cX11_noticeNow, 3, some FieldType.long)
theorem iX11_noticeNow : MI mX11_noticeNow 2 := ⟨iT_4 118 (by rfl) (by decide +kernel), iS 25 (by rfl) (by decide +kernel), iT_1 1 (by rfl) (by decide +kernel), iT_4 119 (by rfl) (by decide +kernel), ⟨by decide +kernel, by decide +kernel, by decide +kernel⟩, by decide⟩
abbrev mX11_plums : Mt := (yX11_plums, cX11_plums, 4, some FieldType.int)
theorem iX11_plums : MI mX11_plums 2 := ⟨iT_4 178 (by rfl) (by decide +kernel), iT_4 179 (by rfl) (by decide +kernel), iT_1 1 (by rfl) (by decide +kernel), iT_4 180 (by rfl) (by decide +kernel), ⟨by decide +kernel, by decide +kernel, by decide +kernel⟩, by decide⟩
abbrev mX11_move : Mt := (yX11_move, cX11_move, 4, some FieldType.boolean)
theorem iX11_move : MI mX11_move 2 := ⟨iT_4 189 (by rfl) (by decide +kernel), iT_4 190 (by rfl) (by decide +kernel), iT_1 1 (by rfl) (by decide +kernel), iT_4 191 (by rfl) (by decide +kernel), ⟨by decide +kernel, by decide +kernel, by decide +kernel⟩, by decide⟩
abbrev mX11_tell : Mt := (yX11_tell, cX11_tell, 3, some FieldType.boolean)
theorem iX11_tell : MI mX11_tell 2 := ⟨iT_4 193 (by rfl) (by decide +kernel), iT_4 194 (by rfl) (by decide +kernel), iT_1 1 (by rfl) (by decide +kernel), iT_4 195 (by rfl) (by decide +kernel), ⟨by decide +kernel, by decide +kernel, by decide +kernel⟩, by decide⟩
abbrev mX11_forget : Mt := (yX11_forget, cX11_forget, 2, some FieldType.boolean)
theorem iX11_forget : MI mX11_forget 1 := ⟨iT_4 201 (by rfl) (by decide +kernel), iT_4 202 (by rfl) (by decide +kernel), iT_1 1 (by rfl) (by decide +kernel), iT_4 203 (by rfl) (by decide +kernel), ⟨by decide +kernel, by decide +kernel, by decide +kernel⟩, by decide⟩
abbrev mX11_sayFromNowOn : Mt := (yX11_sayFromNowOn, cX11_sayFromNowOn, 4, some FieldType.boolean)
theorem iX11_sayFromNowOn : MI mX11_sayFromNowOn 2 := ⟨iT_4 198 (by rfl) (by decide +kernel), iS 29 (by rfl) (by decide +kernel), iT_1 1 (by rfl) (by decide +kernel), iT_4 199 (by rfl) (by decide +kernel), ⟨by decide +kernel, by decide +kernel, by decide +kernel⟩, by decide⟩
abbrev mX11_go : Mt := (yX11_go, cX11_go, 2, some FieldType.int)
theorem iX11_go : MI mX11_go 1 := ⟨iT_4 205 (by rfl) (by decide +kernel), iT_4 206 (by rfl) (by decide +kernel), iT_1 1 (by rfl) (by decide +kernel), iT_4 207 (by rfl) (by decide +kernel), ⟨by decide +kernel, by decide +kernel, by decide +kernel⟩, by decide⟩
abbrev mX11_ahead : Mt := (yX11_ahead, cX11_ahead, 3, some FieldType.int)
theorem iX11_ahead : MI mX11_ahead 2 := ⟨iT_5 19 (by rfl) (by decide +kernel), iT_5 20 (by rfl) (by decide +kernel), iT_1 1 (by rfl) (by decide +kernel), iT_5 21 (by rfl) (by decide +kernel), ⟨by decide +kernel, by decide +kernel, by decide +kernel⟩, by decide⟩
abbrev mX11_breaks : Mt := (yX11_breaks, cX11_breaks, 1, some FieldType.int)
theorem iX11_breaks : MI mX11_breaks 0 := ⟨iT_5 32 (by rfl) (by decide +kernel), iT_5 33 (by rfl) (by decide +kernel), iT_1 1 (by rfl) (by decide +kernel), iT_5 34 (by rfl) (by decide +kernel), ⟨by decide +kernel, by decide +kernel, by decide +kernel⟩, by decide⟩
abbrev mX11_agrees : Mt := (yX11_agrees, cX11_agrees, 2, some FieldType.int)
theorem iX11_agrees : MI mX11_agrees 0 := ⟨iT_5 44 (by rfl) (by decide +kernel), iT_5 45 (by rfl) (by decide +kernel), iT_1 1 (by rfl) (by decide +kernel), iT_5 46 (by rfl) (by decide +kernel), ⟨by decide +kernel, by decide +kernel, by decide +kernel⟩, by decide⟩
abbrev mX11_least : Mt := (yX11_least, cX11_least, 2, some FieldType.int)
theorem iX11_least : MI mX11_least 1 := ⟨iT_5 48 (by rfl) (by decide +kernel), iT_5 49 (by rfl) (by decide +kernel), iT_1 1 (by rfl) (by decide +kernel), iT_5 50 (by rfl) (by decide +kernel), ⟨by decide +kernel, by decide +kernel, by decide +kernel⟩, by decide⟩
abbrev mX11_order : Mt := (yX11_order, cX11_order, 3, some FieldType.int)
theorem iX11_order : MI mX11_order 1 := ⟨iT_5 76 (by rfl) (by decide +kernel), iT_5 77 (by rfl) (by decide +kernel), iT_1 1 (by rfl) (by decide +kernel), iT_5 78 (by rfl) (by decide +kernel), ⟨by decide +kernel, by decide +kernel, by decide +kernel⟩, by decide⟩
abbrev mX11_noted : Mt := (yX11_noted, cX11_noted, 5, some FieldType.int)
theorem iX11_noted : MI mX11_noted 0 := ⟨iT_5 105 (by rfl) (by decide +kernel), iT_5 106 (by rfl) (by decide +kernel), iT_1 1 (by rfl) (by decide +kernel), iT_5 107 (by rfl) (by decide +kernel), ⟨by decide +kernel, by decide +kernel, by decide +kernel⟩, by decide⟩
abbrev mX11_notedBy : Mt := (yX11_notedBy, cX11_notedBy, 4, some FieldType.int)
theorem iX11_notedBy : MI mX11_notedBy 1 := ⟨iT_5 116 (by rfl) (by decide +kernel), iS 37 (by rfl) (by decide +kernel), iT_1 1 (by rfl) (by decide +kernel), iT_5 117 (by rfl) (by decide +kernel), ⟨by decide +kernel, by decide +kernel, by decide +kernel⟩, by decide⟩
abbrev mX11_bribe : Mt := (yX11_bribe, cX11_bribe, 5, some FieldType.int)
theorem iX11_bribe : MI mX11_bribe 1 := ⟨iT_5 119 (by rfl) (by decide +kernel), iT_5 120 (by rfl) (by decide +kernel), iT_1 1 (by rfl) (by decide +kernel), iT_5 121 (by rfl) (by decide +kernel), ⟨by decide +kernel, by decide +kernel, by decide +kernel⟩, by decide⟩
abbrev mX11_rests : Mt := (yX11_rests, cX11_rests, 5, some FieldType.int)
theorem iX11_rests : MI mX11_rests 2 := ⟨iT_5 123 (by rfl) (by decide +kernel), iT_5 124 (by rfl) (by decide +kernel), iT_1 1 (by rfl) (by decide +kernel), iT_5 125 (by rfl) (by decide +kernel), ⟨by decide +kernel, by decide +kernel, by decide +kernel⟩, by decide⟩
abbrev mX11_rest : Mt := (yX11_rest, cX11_rest, 6, some FieldType.int)
theorem iX11_rest : MI mX11_rest 3 := ⟨iT_5 141 (by rfl) (by decide +kernel), iT_5 142 (by rfl) (by decide +kernel), iT_1 1 (by rfl) (by decide +kernel), iT_5 143 (by rfl) (by decide +kernel), ⟨by decide +kernel, by decide +kernel, by decide +kernel⟩, by decide⟩
abbrev mX11_canBid : Mt := (yX11_canBid, cX11_canBid, 3, some FieldType.boolean)
theorem iX11_canBid : MI mX11_canBid 2 := ⟨iT_5 128 (by rfl) (by decide +kernel), iS 38 (by rfl) (by decide +kernel), iT_1 1 (by rfl) (by decide +kernel), iT_5 129 (by rfl) (by decide +kernel), ⟨by decide +kernel, by decide +kernel, by decide +kernel⟩, by decide⟩
abbrev mX11_isRest : Mt := (yX11_isRest, cX11_isRest, 8, some FieldType.boolean)
theorem iX11_isRest : MI mX11_isRest 3 := ⟨iT_5 132 (by rfl) (by decide +kernel), iS 39 (by rfl) (by decide +kernel), iT_1 1 (by rfl) (by decide +kernel), iT_5 133 (by rfl) (by decide +kernel), ⟨by decide +kernel, by decide +kernel, by decide +kernel⟩, by decide⟩
abbrev mX11_isBest : Mt := (yX11_isBest, cX11_isBest, 5, some FieldType.boolean)
theorem iX11_isBest : MSt mX11_isBest 3 := ⟨iT_5 135 (by rfl) (by decide +kernel), iT_1 1 (by rfl) (by decide +kernel), iT_5 136 (by rfl) (by decide +kernel), ⟨by decide +kernel, by decide +kernel, by decide +kernel⟩, by decide⟩
abbrev mX11_gain : Mt := (yX11_gain, cX11_gain, 2, some FieldType.int)
theorem iX11_gain : MSt mX11_gain 2 := ⟨iT_5 138 (by rfl) (by decide +kernel), iT_1 1 (by rfl) (by decide +kernel), iT_5 139 (by rfl) (by decide +kernel), ⟨by decide +kernel, by decide +kernel, by decide +kernel⟩, by decide⟩
abbrev mX11_there : Mt := (yX11_there, cX11_there, 10, some FieldType.long)
theorem iX11_there : MI mX11_there 2 := ⟨iT_5 145 (by rfl) (by decide +kernel), iT_5 146 (by rfl) (by decide +kernel), iT_1 1 (by rfl) (by decide +kernel), iT_5 147 (by rfl) (by decide +kernel), ⟨by decide +kernel, by decide +kernel, by decide +kernel⟩, by decide⟩
abbrev mX11_commonPart : Mt := (yX11_commonPart, cX11_commonPart, 4, some FieldType.int)
theorem iX11_commonPart : MSt mX11_commonPart 2 := ⟨iT_5 150 (by rfl) (by decide +kernel), iT_1 1 (by rfl) (by decide +kernel), iT_5 151 (by rfl) (by decide +kernel), ⟨by decide +kernel, by decide +kernel, by decide +kernel⟩, by decide⟩
abbrev mX11_without : Mt := (yX11_without, cX11_without, 2, some FieldType.int)
theorem iX11_without : MI mX11_without 1 := ⟨iT_5 153 (by rfl) (by decide +kernel), iT_5 154 (by rfl) (by decide +kernel), iT_1 1 (by rfl) (by decide +kernel), iT_5 155 (by rfl) (by decide +kernel), ⟨by decide +kernel, by decide +kernel, by decide +kernel⟩, by decide⟩
abbrev mX11_run : Mt := (yX11_run, cX11_run, 4, some FieldType.int)
theorem iX11_run : MI mX11_run 0 := ⟨iT_5 157 (by rfl) (by decide +kernel), iT_5 158 (by rfl) (by decide +kernel), iT_1 1 (by rfl) (by decide +kernel), iT_5 159 (by rfl) (by decide +kernel), ⟨by decide +kernel, by decide +kernel, by decide +kernel⟩, by decide⟩
abbrev mX11_believed : Mt := (yX11_believed, cX11_believed, 3, some FieldType.int)
theorem iX11_believed : MI mX11_believed 0 := ⟨iT_5 165 (by rfl) (by decide +kernel), iT_5 166 (by rfl) (by decide +kernel), iT_1 1 (by rfl) (by decide +kernel), iT_5 167 (by rfl) (by decide +kernel), ⟨by decide +kernel, by decide +kernel, by decide +kernel⟩, by decide⟩
abbrev mX11_see : Mt := (yX11_see, cX11_see, 4, some FieldType.int)
theorem iX11_see : MI mX11_see 3 := ⟨iT_5 169 (by rfl) (by decide +kernel), iT_5 170 (by rfl) (by decide +kernel), iT_1 1 (by rfl) (by decide +kernel), iT_5 171 (by rfl) (by decide +kernel), ⟨by decide +kernel, by decide +kernel, by decide +kernel⟩, by decide⟩
abbrev mX11_out : Mt := (yX11_out, cX11_out, 2, some FieldType.int)
theorem iX11_out : MI mX11_out 1 := ⟨iT_5 178 (by rfl) (by decide +kernel), iT_5 179 (by rfl) (by decide +kernel), iT_1 1 (by rfl) (by decide +kernel), iT_5 180 (by rfl) (by decide +kernel), ⟨by decide +kernel, by decide +kernel, by decide +kernel⟩, by decide⟩
abbrev mX11_known : Mt := (yX11_known, cX11_known, 2, some FieldType.boolean)
theorem iX11_known : MI mX11_known 1 := ⟨iT_5 182 (by rfl) (by decide +kernel), iT_5 183 (by rfl) (by decide +kernel), iT_1 1 (by rfl) (by decide +kernel), iT_5 184 (by rfl) (by decide +kernel), ⟨by decide +kernel, by decide +kernel, by decide +kernel⟩, by decide⟩
abbrev mX11_struckHow : Mt := (yX11_struckHow, cX11_struckHow, 8, some FieldType.int)
theorem iX11_struckHow : MI mX11_struckHow 1 := ⟨iT_5 186 (by rfl) (by decide +kernel), iT_5 187 (by rfl) (by decide +kernel), iT_1 1 (by rfl) (by decide +kernel), iT_5 188 (by rfl) (by decide +kernel), ⟨by decide +kernel, by decide +kernel, by decide +kernel⟩, by decide⟩
abbrev mX11_chance : Mt := (yX11_chance, cX11_chance, 8, some FieldType.int)
theorem iX11_chance : MI mX11_chance 3 := ⟨iT_5 208 (by rfl) (by decide +kernel), iT_5 209 (by rfl) (by decide +kernel), iT_1 1 (by rfl) (by decide +kernel), iT_5 210 (by rfl) (by decide +kernel), ⟨by decide +kernel, by decide +kernel, by decide +kernel⟩, by decide⟩
abbrev mX11_tried : Mt := (yX11_tried, cX11_tried, 5, some FieldType.int)
theorem iX11_tried : MI mX11_tried 3 := ⟨iT_5 212 (by rfl) (by decide +kernel), iT_5 213 (by rfl) (by decide +kernel), iT_1 1 (by rfl) (by decide +kernel), iT_5 214 (by rfl) (by decide +kernel), ⟨by decide +kernel, by decide +kernel, by decide +kernel⟩, by decide⟩
abbrev mX11_undo : Mt := (yX11_undo, cX11_undo, 1, some FieldType.int)
theorem iX11_undo : MI mX11_undo 0 := ⟨iT_5 221 (by rfl) (by decide +kernel), iT_5 222 (by rfl) (by decide +kernel), iT_1 1 (by rfl) (by decide +kernel), iT_5 223 (by rfl) (by decide +kernel), ⟨by decide +kernel, by decide +kernel, by decide +kernel⟩, by decide⟩
abbrev mX11_keep : Mt := (yX11_keep, cX11_keep, 1, some FieldType.int)
theorem iX11_keep : MI mX11_keep 0 := ⟨iT_5 230 (by rfl) (by decide +kernel), iT_5 231 (by rfl) (by decide +kernel), iT_1 1 (by rfl) (by decide +kernel), iT_5 232 (by rfl) (by decide +kernel), ⟨by decide +kernel, by decide +kernel, by decide +kernel⟩, by decide⟩
abbrev mX11_back : Mt := (yX11_back, cX11_back, 1, some FieldType.int)
theorem iX11_back : MI mX11_back 0 := ⟨iT_5 234 (by rfl) (by decide +kernel), iT_5 235 (by rfl) (by decide +kernel), iT_1 1 (by rfl) (by decide +kernel), iT_5 236 (by rfl) (by decide +kernel), ⟨by decide +kernel, by decide +kernel, by decide +kernel⟩, by decide⟩
abbrev mX11_count : Mt := (yX11_count, cX11_count, 2, some FieldType.int)
theorem iX11_count : MI mX11_count 1 := ⟨iT_5 238 (by rfl) (by decide +kernel), iT_5 239 (by rfl) (by decide +kernel), iT_1 1 (by rfl) (by decide +kernel), iT_6 0 (by rfl) (by decide +kernel), ⟨by decide +kernel, by decide +kernel, by decide +kernel⟩, by decide⟩
abbrev mX11_at : Mt := (yX11_at, cX11_at, 2, some FieldType.int)
theorem iX11_at : MSt mX11_at 2 := ⟨iT_2 19 (by rfl) (by decide +kernel), iT_1 1 (by rfl) (by decide +kernel), iT_2 20 (by rfl) (by decide +kernel), ⟨by decide +kernel, by decide +kernel, by decide +kernel⟩, by decide⟩
abbrev mX11_put : Mt := (yX11_put, cX11_put, 3, none)
theorem iX11_put : MSt mX11_put 3 := ⟨iT_2 25 (by rfl) (by decide +kernel), iT_1 1 (by rfl) (by decide +kernel), iT_2 26 (by rfl) (by decide +kernel), ⟨by decide +kernel, by decide +kernel, by decide +kernel⟩, by decide⟩
abbrev mX11_fill : Mt := (yX11_fill, cX11_fill, 3, none)
theorem iX11_fill : MSt mX11_fill 2 := ⟨iT_1 111 (by rfl) (by decide +kernel), iT_1 1 (by rfl) (by decide +kernel), iT_1 112 (by rfl) (by decide +kernel), ⟨by decide +kernel, by decide +kernel, by decide +kernel⟩, by decide⟩
abbrev mX11_copyRow : Mt := (yX11_copyRow, cX11_copyRow, 2, none)
theorem iX11_copyRow : MSt mX11_copyRow 2 := ⟨iT_3 60 (by rfl) (by decide +kernel), iT_1 1 (by rfl) (by decide +kernel), iT_3 61 (by rfl) (by decide +kernel), ⟨by decide +kernel, by decide +kernel, by decide +kernel⟩, by decide⟩
abbrev mX12_init : Mt := (yX12_init, cX12_init, 1, none)
theorem iX12_init : MIn mX12_init 0 := ⟨rfl, rfl, iT_6 97 (by rfl) (by decide +kernel), iT_1 19 (by rfl) (by decide +kernel), iT_6 98 (by rfl) (by decide +kernel), ⟨by decide +kernel, by decide +kernel, by decide +kernel⟩, by decide⟩
abbrev mX12_feed : Mt := (yX12_feed, cX12_feed, 8, some FieldType.int)
theorem iX12_feed : MI mX12_feed 5 := ⟨iT_7 96 (by rfl) (by decide +kernel), iT_7 97 (by rfl) (by decide +kernel), iT_1 19 (by rfl) (by decide +kernel), iT_7 98 (by rfl) (by decide +kernel), ⟨by decide +kernel, by decide +kernel, by decide +kernel⟩, by decide⟩
abbrev mX12_here : Mt := (yX12_here, cX12_here, 1, some FieldType.int)
theorem iX12_here : MI mX12_here 0 := ⟨iT_7 113 (by rfl) (by decide +kernel), iS 45 (by rfl) (by decide +kernel), iT_1 19 (by rfl) (by decide +kernel), iT_7 114 (by rfl) (by decide +kernel), ⟨by decide +kernel, by decide +kernel, by decide +kernel⟩, by decide⟩
abbrev mX12_isSmall : Mt := (yX12_isSmall, cX12_isSmall, 1, some FieldType.boolean)
theorem iX12_isSmall : MSt mX12_isSmall 1 := ⟨iT_7 116 (by rfl) (by decide +kernel), iT_1 19 (by rfl) (by decide +kernel), iT_7 117 (by rfl) (by decide +kernel), ⟨by decide +kernel, by decide +kernel, by decide +kernel⟩, by decide⟩
abbrev mX12_isDigit : Mt := (yX12_isDigit, cX12_isDigit, 1, some FieldType.boolean)
theorem iX12_isDigit : MSt mX12_isDigit 1 := ⟨iT_7 130 (by rfl) (by decide +kernel), iT_1 19 (by rfl) (by decide +kernel), iT_7 131 (by rfl) (by decide +kernel), ⟨by decide +kernel, by decide +kernel, by decide +kernel⟩, by decide⟩
abbrev mX12_token : Mt := (yX12_token, cX12_token, 2, none)
theorem iX12_token : MI mX12_token 0 := ⟨iT_7 109 (by rfl) (by decide +kernel), iS 44 (by rfl) (by decide +kernel), iT_1 19 (by rfl) (by decide +kernel), iT_7 110 (by rfl) (by decide +kernel), ⟨by decide +kernel, by decide +kernel, by decide +kernel⟩, by decide⟩
abbrev mX12_sign : Mt := (yX12_sign, cX12_sign, 2, none)
theorem iX12_sign : MI mX12_sign 1 := ⟨iT_7 135 (by rfl) (by decide +kernel), iS 48 (by rfl) (by decide +kernel), iT_1 19 (by rfl) (by decide +kernel), iT_7 136 (by rfl) (by decide +kernel), ⟨by decide +kernel, by decide +kernel, by decide +kernel⟩, by decide⟩
abbrev mX12_word : Mt := (yX12_word, cX12_word, 4, some FieldType.int)
theorem iX12_word : MI mX12_word 0 := ⟨iT_7 120 (by rfl) (by decide +kernel), iS 46 (by rfl) (by decide +kernel), iT_1 19 (by rfl) (by decide +kernel), iT_7 121 (by rfl) (by decide +kernel), ⟨by decide +kernel, by decide +kernel, by decide +kernel⟩, by decide⟩
abbrev mX12_name : Mt := (yX12_name, cX12_name, 2, none)
theorem iX12_name : MI mX12_name 0 := ⟨iT_7 127 (by rfl) (by decide +kernel), iS 47 (by rfl) (by decide +kernel), iT_1 19 (by rfl) (by decide +kernel), iT_7 128 (by rfl) (by decide +kernel), ⟨by decide +kernel, by decide +kernel, by decide +kernel⟩, by decide⟩
abbrev mX12_wrong : Mt := (yX12_wrong, cX12_wrong, 2, none)
theorem iX12_wrong : MI mX12_wrong 1 := ⟨iT_7 143 (by rfl) (by decide +kernel), iS 50 (by rfl) (by decide +kernel), iT_1 19 (by rfl) (by decide +kernel), iT_7 144 (by rfl) (by decide +kernel), ⟨by decide +kernel, by decide +kernel, by decide +kernel⟩, by decide⟩
abbrev mX12_isWord : Mt := (yX12_isWord, cX12_isWord, 2, some FieldType.boolean)
theorem iX12_isWord : MI mX12_isWord 1 := ⟨iT_7 202 (by rfl) (by decide +kernel), iS 64 (by rfl) (by decide +kernel), iT_1 19 (by rfl) (by decide +kernel), iT_7 203 (by rfl) (by decide +kernel), ⟨by decide +kernel, by decide +kernel, by decide +kernel⟩, by decide⟩
abbrev mX12_isSign : Mt := (yX12_isSign, cX12_isSign, 2, some FieldType.boolean)
theorem iX12_isSign : MI mX12_isSign 1 := ⟨iT_7 226 (by rfl) (by decide +kernel), iS 70 (by rfl) (by decide +kernel), iT_1 19 (by rfl) (by decide +kernel), iT_7 227 (by rfl) (by decide +kernel), ⟨by decide +kernel, by decide +kernel, by decide +kernel⟩, by decide⟩
abbrev mX12_goOn : Mt := (yX12_goOn, cX12_goOn, 1, none)
theorem iX12_goOn : MI mX12_goOn 0 := ⟨iT_7 174 (by rfl) (by decide +kernel), iS 57 (by rfl) (by decide +kernel), iT_1 19 (by rfl) (by decide +kernel), iT_7 175 (by rfl) (by decide +kernel), ⟨by decide +kernel, by decide +kernel, by decide +kernel⟩, by decide⟩
abbrev mX12_numeral : Mt := (yX12_numeral, cX12_numeral, 4, some FieldType.int)
theorem iX12_numeral : MI mX12_numeral 2 := ⟨iT_7 162 (by rfl) (by decide +kernel), iS 54 (by rfl) (by decide +kernel), iT_1 19 (by rfl) (by decide +kernel), iT_7 163 (by rfl) (by decide +kernel), ⟨by decide +kernel, by decide +kernel, by decide +kernel⟩, by decide⟩
abbrev mX12_found : Mt := (yX12_found, cX12_found, 5, some FieldType.int)
theorem iX12_found : MSt mX12_found 4 := ⟨iT_7 158 (by rfl) (by decide +kernel), iT_1 19 (by rfl) (by decide +kernel), iT_7 159 (by rfl) (by decide +kernel), ⟨by decide +kernel, by decide +kernel, by decide +kernel⟩, by decide⟩
abbrev mX12_fresh : Mt := (yX12_fresh, cX12_fresh, 5, some FieldType.int)
theorem iX12_fresh : MI mX12_fresh 3 := ⟨iT_7 155 (by rfl) (by decide +kernel), iS 53 (by rfl) (by decide +kernel), iT_1 19 (by rfl) (by decide +kernel), iT_7 156 (by rfl) (by decide +kernel), ⟨by decide +kernel, by decide +kernel, by decide +kernel⟩, by decide⟩
abbrev mX12_fresher : Mt := (yX12_fresher, cX12_fresher, 2, some FieldType.int)
theorem iX12_fresher : MI mX12_fresher 1 := ⟨iT_7 151 (by rfl) (by decide +kernel), iS 52 (by rfl) (by decide +kernel), iT_1 19 (by rfl) (by decide +kernel), iT_7 152 (by rfl) (by decide +kernel), ⟨by decide +kernel, by decide +kernel, by decide +kernel⟩, by decide⟩
abbrev mX12_reads : Mt := (yX12_reads, cX12_reads, 3, none)
theorem iX12_reads : MI mX12_reads 2 := ⟨iT_7 105 (by rfl) (by decide +kernel), iS 43 (by rfl) (by decide +kernel), iT_1 19 (by rfl) (by decide +kernel), iT_7 106 (by rfl) (by decide +kernel), ⟨by decide +kernel, by decide +kernel, by decide +kernel⟩, by decide⟩
abbrev mX12_atHand : Mt := (yX12_atHand, cX12_atHand, 4, some FieldType.int)
theorem iX12_atHand : MI mX12_atHand 3 := ⟨iT_7 170 (by rfl) (by decide +kernel), iS 56 (by rfl) (by decide +kernel), iT_1 19 (by rfl) (by decide +kernel), iT_7 171 (by rfl) (by decide +kernel), ⟨by decide +kernel, by decide +kernel, by decide +kernel⟩, by decide⟩
abbrev mX12_markAtHand : Mt := (yX12_markAtHand, cX12_markAtHand, 1, some FieldType.int)
theorem iX12_markAtHand : MI mX12_markAtHand 0 := ⟨iT_7 178 (by rfl) (by decide +kernel), iS 58 (by rfl) (by decide +kernel), iT_1 19 (by rfl) (by decide +kernel), iT_7 179 (by rfl) (by decide +kernel), ⟨by decide +kernel, by decide +kernel, by decide +kernel⟩, by decide⟩
abbrev mX12_isFull : Mt := (yX12_isFull, cX12_isFull, 2, some FieldType.boolean)
theorem iX12_isFull : MI mX12_isFull 1 := ⟨iT_7 147 (by rfl) (by decide +kernel), iS 51 (by rfl) (by decide +kernel), iT_1 19 (by rfl) (by decide +kernel), iT_7 148 (by rfl) (by decide +kernel), ⟨by decide +kernel, by decide +kernel, by decide +kernel⟩, by decide⟩
abbrev mX12_line : Mt := (yX12_line, cX12_line, 6, none)
theorem iX12_line : MI mX12_line 0 := ⟨iT_7 139 (by rfl) (by decide +kernel), iS 49 (by rfl) (by decide +kernel), iT_1 19 (by rfl) (by decide +kernel), iT_7 140 (by rfl) (by decide +kernel), ⟨by decide +kernel, by decide +kernel, by decide +kernel⟩, by decide⟩
abbrev mX12_hasLine : Mt := (yX12_hasLine, cX12_hasLine, 5, none)
theorem iX12_hasLine : MI mX12_hasLine 0 := ⟨iT_7 166 (by rfl) (by decide +kernel), iS 55 (by rfl) (by decide +kernel), iT_1 19 (by rfl) (by decide +kernel), iT_7 167 (by rfl) (by decide +kernel), ⟨by decide +kernel, by decide +kernel, by decide +kernel⟩, by decide⟩
abbrev mX12_partyLine : Mt := (yX12_partyLine, cX12_partyLine, 2, none)
theorem iX12_partyLine : MI mX12_partyLine 1 := ⟨iT_7 182 (by rfl) (by decide +kernel), iS 59 (by rfl) (by decide +kernel), iT_1 19 (by rfl) (by decide +kernel), iT_7 183 (by rfl) (by decide +kernel), ⟨by decide +kernel, by decide +kernel, by decide +kernel⟩, by decide⟩
abbrev mX12_lawLine : Mt := (yX12_lawLine, cX12_lawLine, 2, none)
theorem iX12_lawLine : MI mX12_lawLine 0 := ⟨iT_7 186 (by rfl) (by decide +kernel), iS 60 (by rfl) (by decide +kernel), iT_1 19 (by rfl) (by decide +kernel), iT_7 187 (by rfl) (by decide +kernel), ⟨by decide +kernel, by decide +kernel, by decide +kernel⟩, by decide⟩
abbrev mX12_puts : Mt := (yX12_puts, cX12_puts, 3, none)
theorem iX12_puts : MI mX12_puts 2 := ⟨iT_7 210 (by rfl) (by decide +kernel), iS 66 (by rfl) (by decide +kernel), iT_1 19 (by rfl) (by decide +kernel), iT_7 211 (by rfl) (by decide +kernel), ⟨by decide +kernel, by decide +kernel, by decide +kernel⟩, by decide⟩
abbrev mX12_knot : Mt := (yX12_knot, cX12_knot, 1, none)
theorem iX12_knot : MI mX12_knot 0 := ⟨iT_7 206 (by rfl) (by decide +kernel), iS 65 (by rfl) (by decide +kernel), iT_1 19 (by rfl) (by decide +kernel), iT_7 207 (by rfl) (by decide +kernel), ⟨by decide +kernel, by decide +kernel, by decide +kernel⟩, by decide⟩
abbrev mX12_expression : Mt := (yX12_expression, cX12_expression, 1, none)
theorem iX12_expression : MI mX12_expression 0 := ⟨iT_7 190 (by rfl) (by decide +kernel), iS 61 (by rfl) (by decide +kernel), iT_1 19 (by rfl) (by decide +kernel), iT_7 191 (by rfl) (by decide +kernel), ⟨by decide +kernel, by decide +kernel, by decide +kernel⟩, by decide⟩
abbrev mX12_conjunction : Mt := (yX12_conjunction, cX12_conjunction, 1, none)
theorem iX12_conjunction : MI mX12_conjunction 0 := ⟨iT_7 194 (by rfl) (by decide +kernel), iS 62 (by rfl) (by decide +kernel), iT_1 19 (by rfl) (by decide +kernel), iT_7 195 (by rfl) (by decide +kernel), ⟨by decide +kernel, by decide +kernel, by decide +kernel⟩, by decide⟩
abbrev mX12_negation : Mt := (yX12_negation, cX12_negation, 2, none)
theorem iX12_negation : MI mX12_negation 0 := ⟨iT_7 198 (by rfl) (by decide +kernel), iS 63 (by rfl) (by decide +kernel), iT_1 19 (by rfl) (by decide +kernel), iT_7 199 (by rfl) (by decide +kernel), ⟨by decide +kernel, by decide +kernel, by decide +kernel⟩, by decide⟩
abbrev mX12_sum : Mt := (yX12_sum, cX12_sum, 2, none)
theorem iX12_sum : MI mX12_sum 0 := ⟨iT_7 214 (by rfl) (by decide +kernel), iS 67 (by rfl) (by decide +kernel), iT_1 19 (by rfl) (by decide +kernel), iT_7 215 (by rfl) (by decide +kernel), ⟨by decide +kernel, by decide +kernel, by decide +kernel⟩, by decide⟩
abbrev mX12_product : Mt := (yX12_product, cX12_product, 2, none)
theorem iX12_product : MI mX12_product 0 := ⟨iT_7 218 (by rfl) (by decide +kernel), iS 68 (by rfl) (by decide +kernel), iT_1 19 (by rfl) (by decide +kernel), iT_7 219 (by rfl) (by decide +kernel), ⟨by decide +kernel, by decide +kernel, by decide +kernel⟩, by decide⟩
abbrev mX12_primary : Mt := (yX12_primary, cX12_primary, 2, none)
theorem iX12_primary : MI mX12_primary 0 := ⟨iT_7 222 (by rfl) (by decide +kernel), iS 69 (by rfl) (by decide +kernel), iT_1 19 (by rfl) (by decide +kernel), iT_7 223 (by rfl) (by decide +kernel), ⟨by decide +kernel, by decide +kernel, by decide +kernel⟩, by decide⟩
abbrev mX12_half : Mt := (yX12_half, cX12_half, 3, none)
theorem iX12_half : MSt mX12_half 1 := ⟨iT_7 229 (by rfl) (by decide +kernel), iT_1 19 (by rfl) (by decide +kernel), iT_7 230 (by rfl) (by decide +kernel), ⟨by decide +kernel, by decide +kernel, by decide +kernel⟩, by decide⟩
abbrev mX12_text : Mt := (yX12_text, cX12_text, 3, some FieldType.int)
theorem iX12_text : MI mX12_text 1 := ⟨iT_7 100 (by rfl) (by decide +kernel), iT_7 101 (by rfl) (by decide +kernel), iT_1 19 (by rfl) (by decide +kernel), iT_7 102 (by rfl) (by decide +kernel), ⟨by decide +kernel, by decide +kernel, by decide +kernel⟩, by decide⟩
abbrev mX12_fault : Mt := (yX12_fault, cX12_fault, 2, some FieldType.int)
theorem iX12_fault : MI mX12_fault 1 := ⟨iT_7 232 (by rfl) (by decide +kernel), iT_7 233 (by rfl) (by decide +kernel), iT_1 19 (by rfl) (by decide +kernel), iT_7 234 (by rfl) (by decide +kernel), ⟨by decide +kernel, by decide +kernel, by decide +kernel⟩, by decide⟩
abbrev mX12_named : Mt := (yX12_named, cX12_named, 3, some FieldType.int)
theorem iX12_named : MI mX12_named 2 := ⟨iT_7 236 (by rfl) (by decide +kernel), iT_7 237 (by rfl) (by decide +kernel), iT_1 19 (by rfl) (by decide +kernel), iT_7 238 (by rfl) (by decide +kernel), ⟨by decide +kernel, by decide +kernel, by decide +kernel⟩, by decide⟩
abbrev mX12_is : Mt := (yX12_is, cX12_is, 1, some FieldType.long)
theorem iX12_is : MSt mX12_is 1 := ⟨iT_8 81 (by rfl) (by decide +kernel), iT_1 19 (by rfl) (by decide +kernel), iT_8 82 (by rfl) (by decide +kernel), ⟨by decide +kernel, by decide +kernel, by decide +kernel⟩, by decide⟩
abbrev mX12_works : Mt := (yX12_works, cX12_works, 8, some FieldType.boolean)
theorem iX12_works : MI mX12_works 1 := ⟨iT_8 78 (by rfl) (by decide +kernel), iS 84 (by rfl) (by decide +kernel), iT_1 19 (by rfl) (by decide +kernel), iT_8 79 (by rfl) (by decide +kernel), ⟨by decide +kernel, by decide +kernel, by decide +kernel⟩, by decide⟩
abbrev mX12_goes : Mt := (yX12_goes, cX12_goes, 3, some FieldType.boolean)
theorem iX12_goes : MI mX12_goes 1 := ⟨iT_8 74 (by rfl) (by decide +kernel), iS 83 (by rfl) (by decide +kernel), iT_1 19 (by rfl) (by decide +kernel), iT_8 75 (by rfl) (by decide +kernel), ⟨by decide +kernel, by decide +kernel, by decide +kernel⟩, by decide⟩
abbrev mX12_hasLaw : Mt := (yX12_hasLaw, cX12_hasLaw, 2, some FieldType.boolean)
theorem iX12_hasLaw : MI mX12_hasLaw 1 := ⟨iT_8 57 (by rfl) (by decide +kernel), iS 79 (by rfl) (by decide +kernel), iT_1 19 (by rfl) (by decide +kernel), iT_8 58 (by rfl) (by decide +kernel), ⟨by decide +kernel, by decide +kernel, by decide +kernel⟩, by decide⟩
abbrev mX12_starts : Mt := (yX12_starts, cX12_starts, 3, none)
theorem iX12_starts : MI mX12_starts 1 := ⟨iT_6 106 (by rfl) (by decide +kernel), iS 42 (by rfl) (by decide +kernel), iT_1 19 (by rfl) (by decide +kernel), iT_6 107 (by rfl) (by decide +kernel), ⟨by decide +kernel, by decide +kernel, by decide +kernel⟩, by decide⟩
abbrev mX12_begins : Mt := (yX12_begins, cX12_begins, 1, none)
theorem iX12_begins : MI mX12_begins 0 := ⟨iT_6 102 (by rfl) (by decide +kernel), iS 41 (by rfl) (by decide +kernel), iT_1 19 (by rfl) (by decide +kernel), iT_6 103 (by rfl) (by decide +kernel), ⟨by decide +kernel, by decide +kernel, by decide +kernel⟩, by decide⟩
abbrev mX12_copies : Mt := (yX12_copies, cX12_copies, 4, none)
theorem iX12_copies : MI mX12_copies 2 := ⟨iT_8 98 (by rfl) (by decide +kernel), iS 86 (by rfl) (by decide +kernel), iT_1 19 (by rfl) (by decide +kernel), iT_8 99 (by rfl) (by decide +kernel), ⟨by decide +kernel, by decide +kernel, by decide +kernel⟩, by decide⟩
abbrev mX12_isMark : Mt := (yX12_isMark, cX12_isMark, 2, some FieldType.boolean)
theorem iX12_isMark : MI mX12_isMark 1 := ⟨iT_8 5 (by rfl) (by decide +kernel), iS 71 (by rfl) (by decide +kernel), iT_1 19 (by rfl) (by decide +kernel), iT_8 6 (by rfl) (by decide +kernel), ⟨by decide +kernel, by decide +kernel, by decide +kernel⟩, by decide⟩
abbrev mX12_isShot : Mt := (yX12_isShot, cX12_isShot, 2, some FieldType.boolean)
theorem iX12_isShot : MI mX12_isShot 1 := ⟨iT_8 25 (by rfl) (by decide +kernel), iS 75 (by rfl) (by decide +kernel), iT_1 19 (by rfl) (by decide +kernel), iT_8 26 (by rfl) (by decide +kernel), ⟨by decide +kernel, by decide +kernel, by decide +kernel⟩, by decide⟩
abbrev mX12_isParty : Mt := (yX12_isParty, cX12_isParty, 2, some FieldType.boolean)
theorem iX12_isParty : MI mX12_isParty 1 := ⟨iT_8 45 (by rfl) (by decide +kernel), iS 78 (by rfl) (by decide +kernel), iT_1 19 (by rfl) (by decide +kernel), iT_8 46 (by rfl) (by decide +kernel), ⟨by decide +kernel, by decide +kernel, by decide +kernel⟩, by decide⟩
abbrev mX12_isDone : Mt := (yX12_isDone, cX12_isDone, 3, some FieldType.boolean)
theorem iX12_isDone : MI mX12_isDone 2 := ⟨iT_8 13 (by rfl) (by decide +kernel), iS 73 (by rfl) (by decide +kernel), iT_1 19 (by rfl) (by decide +kernel), iT_8 14 (by rfl) (by decide +kernel), ⟨by decide +kernel, by decide +kernel, by decide +kernel⟩, by decide⟩
abbrev mX12_wayIn : Mt := (yX12_wayIn, cX12_wayIn, 4, some FieldType.int)
theorem iX12_wayIn : MI mX12_wayIn 3 := ⟨iT_8 17 (by rfl) (by decide +kernel), iS 74 (by rfl) (by decide +kernel), iT_1 19 (by rfl) (by decide +kernel), iT_8 18 (by rfl) (by decide +kernel), ⟨by decide +kernel, by decide +kernel, by decide +kernel⟩, by decide⟩
abbrev mX12_strikeOf : Mt := (yX12_strikeOf, cX12_strikeOf, 2, some FieldType.int)
theorem iX12_strikeOf : MI mX12_strikeOf 1 := ⟨iT_8 66 (by rfl) (by decide +kernel), iS 81 (by rfl) (by decide +kernel), iT_1 19 (by rfl) (by decide +kernel), iT_8 67 (by rfl) (by decide +kernel), ⟨by decide +kernel, by decide +kernel, by decide +kernel⟩, by decide⟩
abbrev mX12_timesOf : Mt := (yX12_timesOf, cX12_timesOf, 6, some FieldType.int)
theorem iX12_timesOf : MI mX12_timesOf 3 := ⟨iT_8 9 (by rfl) (by decide +kernel), iS 72 (by rfl) (by decide +kernel), iT_1 19 (by rfl) (by decide +kernel), iT_8 10 (by rfl) (by decide +kernel), ⟨by decide +kernel, by decide +kernel, by decide +kernel⟩, by decide⟩
abbrev mX12_callsMark : Mt := (yX12_callsMark, cX12_callsMark, 6, none)
theorem iX12_callsMark : MI mX12_callsMark 5 := ⟨iT_8 62 (by rfl) (by decide +kernel), iS 80 (by rfl) (by decide +kernel), iT_1 19 (by rfl) (by decide +kernel), iT_8 63 (by rfl) (by decide +kernel), ⟨by decide +kernel, by decide +kernel, by decide +kernel⟩, by decide⟩
abbrev mX12_doesClash : Mt := (yX12_doesClash, cX12_doesClash, 5, some FieldType.boolean)
theorem iX12_doesClash : MI mX12_doesClash 3 := ⟨iT_8 33 (by rfl) (by decide +kernel), iS 77 (by rfl) (by decide +kernel), iT_1 19 (by rfl) (by decide +kernel), iT_8 34 (by rfl) (by decide +kernel), ⟨by decide +kernel, by decide +kernel, by decide +kernel⟩, by decide⟩
abbrev mX12_clashesOf : Mt := (yX12_clashesOf, cX12_clashesOf, 5, some FieldType.int)
theorem iX12_clashesOf : MI mX12_clashesOf 2 := ⟨iT_8 29 (by rfl) (by decide +kernel), iS 76 (by rfl) (by decide +kernel), iT_1 19 (by rfl) (by decide +kernel), iT_8 30 (by rfl) (by decide +kernel), ⟨by decide +kernel, by decide +kernel, by decide +kernel⟩, by decide⟩
abbrev mX12_clashesAll : Mt := (yX12_clashesAll, cX12_clashesAll, 4, some FieldType.int)
theorem iX12_clashesAll : MI mX12_clashesAll 1 := ⟨iT_8 171 (by rfl) (by decide +kernel), iS 98 (by rfl) (by decide +kernel), iT_1 19 (by rfl) (by decide +kernel), iT_8 172 (by rfl) (by decide +kernel), ⟨by decide +kernel, by decide +kernel, by decide +kernel⟩, by decide⟩
abbrev mX12_callsShot : Mt := (yX12_callsShot, cX12_callsShot, 6, none)
theorem iX12_callsShot : MI mX12_callsShot 2 := ⟨iT_8 70 (by rfl) (by decide +kernel), iS 82 (by rfl) (by decide +kernel), iT_1 19 (by rfl) (by decide +kernel), iT_8 71 (by rfl) (by decide +kernel), ⟨by decide +kernel, by decide +kernel, by decide +kernel⟩, by decide⟩
abbrev mX12_isSo : Mt := (yX12_isSo, cX12_isSo, 3, some FieldType.boolean)
theorem iX12_isSo : MI mX12_isSo 2 := ⟨iT_8 136 (by rfl) (by decide +kernel), iS 91 (by rfl) (by decide +kernel), iT_1 19 (by rfl) (by decide +kernel), iT_8 137 (by rfl) (by decide +kernel), ⟨by decide +kernel, by decide +kernel, by decide +kernel⟩, by decide⟩
abbrev mX12_isCold : Mt := (yX12_isCold, cX12_isCold, 3, some FieldType.boolean)
theorem iX12_isCold : MI mX12_isCold 1 := ⟨iT_8 126 (by rfl) (by decide +kernel), iS 89 (by rfl) (by decide +kernel), iT_1 19 (by rfl) (by decide +kernel), iT_8 127 (by rfl) (by decide +kernel), ⟨by decide +kernel, by decide +kernel, by decide +kernel⟩, by decide⟩
abbrev mX12_isAway : Mt := (yX12_isAway, cX12_isAway, 4, some FieldType.boolean)
theorem iX12_isAway : MI mX12_isAway 2 := ⟨iT_8 122 (by rfl) (by decide +kernel), iS 88 (by rfl) (by decide +kernel), iT_1 19 (by rfl) (by decide +kernel), iT_8 123 (by rfl) (by decide +kernel), ⟨by decide +kernel, by decide +kernel, by decide +kernel⟩, by decide⟩
abbrev mX12_films : Mt := (yX12_films, cX12_films, 7, none)
theorem iX12_films : MI mX12_films 3 := ⟨iT_8 132 (by rfl) (by decide +kernel), iS 90 (by rfl) (by decide +kernel), iT_1 19 (by rfl) (by decide +kernel), iT_8 133 (by rfl) (by decide +kernel), ⟨by decide +kernel, by decide +kernel, by decide +kernel⟩, by decide⟩
abbrev mX12_gives : Mt := (yX12_gives, cX12_gives, 5, none)
theorem iX12_gives : MI mX12_gives 2 := ⟨iT_8 140 (by rfl) (by decide +kernel), iS 92 (by rfl) (by decide +kernel), iT_1 19 (by rfl) (by decide +kernel), iT_8 141 (by rfl) (by decide +kernel), ⟨by decide +kernel, by decide +kernel, by decide +kernel⟩, by decide⟩
abbrev mX12_priceOf : Mt := (yX12_priceOf, cX12_priceOf, 3, some FieldType.int)
theorem iX12_priceOf : MI mX12_priceOf 2 := ⟨iT_8 148 (by rfl) (by decide +kernel), iS 94 (by rfl) (by decide +kernel), iT_1 19 (by rfl) (by decide +kernel), iT_8 149 (by rfl) (by decide +kernel), ⟨by decide +kernel, by decide +kernel, by decide +kernel⟩, by decide⟩
abbrev mX12_filmsAgain : Mt := (yX12_filmsAgain, cX12_filmsAgain, 5, none)
theorem iX12_filmsAgain : MI mX12_filmsAgain 1 := ⟨iT_8 144 (by rfl) (by decide +kernel), iS 93 (by rfl) (by decide +kernel), iT_1 19 (by rfl) (by decide +kernel), iT_8 145 (by rfl) (by decide +kernel), ⟨by decide +kernel, by decide +kernel, by decide +kernel⟩, by decide⟩
abbrev mX12_passes : Mt := (yX12_passes, cX12_passes, 5, none)
theorem iX12_passes : MI mX12_passes 2 := ⟨iT_8 118 (by rfl) (by decide +kernel), iS 87 (by rfl) (by decide +kernel), iT_1 19 (by rfl) (by decide +kernel), iT_8 119 (by rfl) (by decide +kernel), ⟨by decide +kernel, by decide +kernel, by decide +kernel⟩, by decide⟩
abbrev mX12_goesOn : Mt := (yX12_goesOn, cX12_goesOn, 3, none)
theorem iX12_goesOn : MI mX12_goesOn 1 := ⟨iT_8 163 (by rfl) (by decide +kernel), iS 96 (by rfl) (by decide +kernel), iT_1 19 (by rfl) (by decide +kernel), iT_8 164 (by rfl) (by decide +kernel), ⟨by decide +kernel, by decide +kernel, by decide +kernel⟩, by decide⟩
abbrev mX12_runs : Mt := (yX12_runs, cX12_runs, 2, none)
theorem iX12_runs : MI mX12_runs 1 := ⟨iT_8 159 (by rfl) (by decide +kernel), iS 95 (by rfl) (by decide +kernel), iT_1 19 (by rfl) (by decide +kernel), iT_8 160 (by rfl) (by decide +kernel), ⟨by decide +kernel, by decide +kernel, by decide +kernel⟩, by decide⟩
abbrev mX12_sumOf : Mt := (yX12_sumOf, cX12_sumOf, 5, some FieldType.int)
theorem iX12_sumOf : MI mX12_sumOf 2 := ⟨iT_8 167 (by rfl) (by decide +kernel), iS 97 (by rfl) (by decide +kernel), iT_1 19 (by rfl) (by decide +kernel), iT_8 168 (by rfl) (by decide +kernel), ⟨by decide +kernel, by decide +kernel, by decide +kernel⟩, by decide⟩
abbrev mX12_mark : Mt := (yX12_mark, cX12_mark, 3, some FieldType.int)
theorem iX12_mark : MI mX12_mark 2 := ⟨iT_8 0 (by rfl) (by decide +kernel), iT_8 1 (by rfl) (by decide +kernel), iT_1 19 (by rfl) (by decide +kernel), iT_8 2 (by rfl) (by decide +kernel), ⟨by decide +kernel, by decide +kernel, by decide +kernel⟩, by decide⟩
abbrev mX12_shot : Mt := (yX12_shot, cX12_shot, 3, some FieldType.int)
theorem iX12_shot : MI mX12_shot 2 := ⟨iT_8 20 (by rfl) (by decide +kernel), iT_8 21 (by rfl) (by decide +kernel), iT_1 19 (by rfl) (by decide +kernel), iT_8 22 (by rfl) (by decide +kernel), ⟨by decide +kernel, by decide +kernel, by decide +kernel⟩, by decide⟩
abbrev mX12_way : Mt := (yX12_way, cX12_way, 3, some FieldType.int)
theorem iX12_way : MI mX12_way 2 := ⟨iT_8 36 (by rfl) (by decide +kernel), iT_8 37 (by rfl) (by decide +kernel), iT_1 19 (by rfl) (by decide +kernel), iT_8 38 (by rfl) (by decide +kernel), ⟨by decide +kernel, by decide +kernel, by decide +kernel⟩, by decide⟩
abbrev mX12_party : Mt := (yX12_party, cX12_party, 3, some FieldType.int)
theorem iX12_party : MI mX12_party 2 := ⟨iT_8 40 (by rfl) (by decide +kernel), iT_8 41 (by rfl) (by decide +kernel), iT_1 19 (by rfl) (by decide +kernel), iT_8 42 (by rfl) (by decide +kernel), ⟨by decide +kernel, by decide +kernel, by decide +kernel⟩, by decide⟩
abbrev mX12_clerk : Mt := (yX12_clerk, cX12_clerk, 2, some FieldType.int)
theorem iX12_clerk : MI mX12_clerk 1 := ⟨iT_8 48 (by rfl) (by decide +kernel), iT_8 49 (by rfl) (by decide +kernel), iT_1 19 (by rfl) (by decide +kernel), iT_8 50 (by rfl) (by decide +kernel), ⟨by decide +kernel, by decide +kernel, by decide +kernel⟩, by decide⟩
abbrev mX12_law : Mt := (yX12_law, cX12_law, 4, some FieldType.long)
theorem iX12_law : MI mX12_law 3 := ⟨iT_8 52 (by rfl) (by decide +kernel), iT_8 53 (by rfl) (by decide +kernel), iT_1 19 (by rfl) (by decide +kernel), iT_8 54 (by rfl) (by decide +kernel), ⟨by decide +kernel, by decide +kernel, by decide +kernel⟩, by decide⟩
abbrev mX12_keepNow : Mt := (yX12_keepNow, cX12_keepNow, 2, none)
theorem iX12_keepNow : MI mX12_keepNow 0 := ⟨iT_8 94 (by rfl) (by decide +kernel), iS 85 (by rfl) (by decide +kernel), iT_1 19 (by rfl) (by decide +kernel), iT_8 95 (by rfl) (by decide +kernel), ⟨by decide +kernel, by decide +kernel, by decide +kernel⟩, by decide⟩
abbrev mX12_plums : Mt := (yX12_plums, cX12_plums, 3, some FieldType.int)
theorem iX12_plums : MI mX12_plums 2 := ⟨iT_8 89 (by rfl) (by decide +kernel), iT_8 90 (by rfl) (by decide +kernel), iT_1 19 (by rfl) (by decide +kernel), iT_8 91 (by rfl) (by decide +kernel), ⟨by decide +kernel, by decide +kernel, by decide +kernel⟩, by decide⟩
abbrev mX12_move : Mt := (yX12_move, cX12_move, 3, some FieldType.boolean)
theorem iX12_move : MI mX12_move 2 := ⟨iT_8 101 (by rfl) (by decide +kernel), iT_8 102 (by rfl) (by decide +kernel), iT_1 19 (by rfl) (by decide +kernel), iT_8 103 (by rfl) (by decide +kernel), ⟨by decide +kernel, by decide +kernel, by decide +kernel⟩, by decide⟩
abbrev mX12_tell : Mt := (yX12_tell, cX12_tell, 3, some FieldType.boolean)
theorem iX12_tell : MI mX12_tell 2 := ⟨iT_8 105 (by rfl) (by decide +kernel), iT_8 106 (by rfl) (by decide +kernel), iT_1 19 (by rfl) (by decide +kernel), iT_8 107 (by rfl) (by decide +kernel), ⟨by decide +kernel, by decide +kernel, by decide +kernel⟩, by decide⟩
abbrev mX12_forget : Mt := (yX12_forget, cX12_forget, 2, some FieldType.boolean)
theorem iX12_forget : MI mX12_forget 1 := ⟨iT_8 109 (by rfl) (by decide +kernel), iT_8 110 (by rfl) (by decide +kernel), iT_1 19 (by rfl) (by decide +kernel), iT_8 111 (by rfl) (by decide +kernel), ⟨by decide +kernel, by decide +kernel, by decide +kernel⟩, by decide⟩
abbrev mX12_go : Mt := (yX12_go, cX12_go, 3, some FieldType.int)
theorem iX12_go : MI mX12_go 1 := ⟨iT_8 113 (by rfl) (by decide +kernel), iT_8 114 (by rfl) (by decide +kernel), iT_1 19 (by rfl) (by decide +kernel), iT_8 115 (by rfl) (by decide +kernel), ⟨by decide +kernel, by decide +kernel, by decide +kernel⟩, by decide⟩
abbrev mX12_ahead : Mt := (yX12_ahead, cX12_ahead, 3, some FieldType.int)
theorem iX12_ahead : MI mX12_ahead 2 := ⟨iT_8 154 (by rfl) (by decide +kernel), iT_8 155 (by rfl) (by decide +kernel), iT_1 19 (by rfl) (by decide +kernel), iT_8 156 (by rfl) (by decide +kernel), ⟨by decide +kernel, by decide +kernel, by decide +kernel⟩, by decide⟩
abbrev mX12_breaksOf : Mt := (yX12_breaksOf, cX12_breaksOf, 7, some FieldType.int)
theorem iX12_breaksOf : MI mX12_breaksOf 2 := ⟨iT_8 183 (by rfl) (by decide +kernel), iS 100 (by rfl) (by decide +kernel), iT_1 19 (by rfl) (by decide +kernel), iT_8 184 (by rfl) (by decide +kernel), ⟨by decide +kernel, by decide +kernel, by decide +kernel⟩, by decide⟩
abbrev mX12_breaksAll : Mt := (yX12_breaksAll, cX12_breaksAll, 4, some FieldType.int)
theorem iX12_breaksAll : MI mX12_breaksAll 1 := ⟨iT_8 179 (by rfl) (by decide +kernel), iS 99 (by rfl) (by decide +kernel), iT_1 19 (by rfl) (by decide +kernel), iT_8 180 (by rfl) (by decide +kernel), ⟨by decide +kernel, by decide +kernel, by decide +kernel⟩, by decide⟩
abbrev mX12_breaks : Mt := (yX12_breaks, cX12_breaks, 1, some FieldType.int)
theorem iX12_breaks : MI mX12_breaks 0 := ⟨iT_8 174 (by rfl) (by decide +kernel), iT_8 175 (by rfl) (by decide +kernel), iT_1 19 (by rfl) (by decide +kernel), iT_8 176 (by rfl) (by decide +kernel), ⟨by decide +kernel, by decide +kernel, by decide +kernel⟩, by decide⟩
abbrev mX12_agrees : Mt := (yX12_agrees, cX12_agrees, 2, some FieldType.int)
theorem iX12_agrees : MI mX12_agrees 0 := ⟨iT_8 186 (by rfl) (by decide +kernel), iT_8 187 (by rfl) (by decide +kernel), iT_1 19 (by rfl) (by decide +kernel), iT_8 188 (by rfl) (by decide +kernel), ⟨by decide +kernel, by decide +kernel, by decide +kernel⟩, by decide⟩
abbrev mX12_costNow : Mt := (yX12_costNow, cX12_costNow, 6, some FieldType.int)
theorem iX12_costNow : MI mX12_costNow 0 := ⟨iT_8 199 (by rfl) (by decide +kernel), iS 102 (by rfl) (by decide +kernel), iT_1 19 (by rfl) (by decide +kernel), iT_8 200 (by rfl) (by decide +kernel), ⟨by decide +kernel, by decide +kernel, by decide +kernel⟩, by decide⟩
abbrev mX12_sayings : Mt := (yX12_sayings, cX12_sayings, 4, none)
theorem iX12_sayings : MI mX12_sayings 1 := ⟨iT_8 195 (by rfl) (by decide +kernel), iS 101 (by rfl) (by decide +kernel), iT_1 19 (by rfl) (by decide +kernel), iT_8 196 (by rfl) (by decide +kernel), ⟨by decide +kernel, by decide +kernel, by decide +kernel⟩, by decide⟩
abbrev mX12_least : Mt := (yX12_least, cX12_least, 2, some FieldType.int)
theorem iX12_least : MI mX12_least 1 := ⟨iT_8 190 (by rfl) (by decide +kernel), iT_8 191 (by rfl) (by decide +kernel), iT_1 19 (by rfl) (by decide +kernel), iT_8 192 (by rfl) (by decide +kernel), ⟨by decide +kernel, by decide +kernel, by decide +kernel⟩, by decide⟩
abbrev mX12_trouble : Mt := (yX12_trouble, cX12_trouble, 2, some FieldType.int)
theorem iX12_trouble : MI mX12_trouble 1 := ⟨iT_8 211 (by rfl) (by decide +kernel), iS 104 (by rfl) (by decide +kernel), iT_1 19 (by rfl) (by decide +kernel), iT_8 212 (by rfl) (by decide +kernel), ⟨by decide +kernel, by decide +kernel, by decide +kernel⟩, by decide⟩
abbrev mX12_rows : Mt := (yX12_rows, cX12_rows, 5, none)
theorem iX12_rows : MI mX12_rows 2 := ⟨iT_8 207 (by rfl) (by decide +kernel), iS 103 (by rfl) (by decide +kernel), iT_1 19 (by rfl) (by decide +kernel), iT_8 208 (by rfl) (by decide +kernel), ⟨by decide +kernel, by decide +kernel, by decide +kernel⟩, by decide⟩
abbrev mX12_order : Mt := (yX12_order, cX12_order, 3, some FieldType.int)
theorem iX12_order : MI mX12_order 1 := ⟨iT_8 202 (by rfl) (by decide +kernel), iT_8 203 (by rfl) (by decide +kernel), iT_1 19 (by rfl) (by decide +kernel), iT_8 204 (by rfl) (by decide +kernel), ⟨by decide +kernel, by decide +kernel, by decide +kernel⟩, by decide⟩
abbrev mX12_bitsOf : Mt := (yX12_bitsOf, cX12_bitsOf, 3, some FieldType.int)
theorem iX12_bitsOf : MSt mX12_bitsOf 1 := ⟨iT_8 218 (by rfl) (by decide +kernel), iT_1 19 (by rfl) (by decide +kernel), iT_8 219 (by rfl) (by decide +kernel), ⟨by decide +kernel, by decide +kernel, by decide +kernel⟩, by decide⟩
abbrev mX12_noted : Mt := (yX12_noted, cX12_noted, 6, some FieldType.int)
theorem iX12_noted : MI mX12_noted 0 := ⟨iT_8 214 (by rfl) (by decide +kernel), iT_8 215 (by rfl) (by decide +kernel), iT_1 19 (by rfl) (by decide +kernel), iT_8 216 (by rfl) (by decide +kernel), ⟨by decide +kernel, by decide +kernel, by decide +kernel⟩, by decide⟩
abbrev mX12_bribe : Mt := (yX12_bribe, cX12_bribe, 3, some FieldType.int)
theorem iX12_bribe : MI mX12_bribe 1 := ⟨iT_8 221 (by rfl) (by decide +kernel), iT_8 222 (by rfl) (by decide +kernel), iT_1 19 (by rfl) (by decide +kernel), iT_8 223 (by rfl) (by decide +kernel), ⟨by decide +kernel, by decide +kernel, by decide +kernel⟩, by decide⟩
abbrev mX12_hasOf : Mt := (yX12_hasOf, cX12_hasOf, 2, some FieldType.int)
theorem iX12_hasOf : MSt mX12_hasOf 2 := ⟨iT_9 2 (by rfl) (by decide +kernel), iT_1 19 (by rfl) (by decide +kernel), iT_9 3 (by rfl) (by decide +kernel), ⟨by decide +kernel, by decide +kernel, by decide +kernel⟩, by decide⟩
abbrev mX12_isRest : Mt := (yX12_isRest, cX12_isRest, 6, some FieldType.boolean)
theorem iX12_isRest : MI mX12_isRest 4 := ⟨iT_8 239 (by rfl) (by decide +kernel), iS 107 (by rfl) (by decide +kernel), iT_1 19 (by rfl) (by decide +kernel), iT_9 0 (by rfl) (by decide +kernel), ⟨by decide +kernel, by decide +kernel, by decide +kernel⟩, by decide⟩
abbrev mX12_restOf : Mt := (yX12_restOf, cX12_restOf, 7, some FieldType.int)
theorem iX12_restOf : MI mX12_restOf 3 := ⟨iT_8 234 (by rfl) (by decide +kernel), iS 106 (by rfl) (by decide +kernel), iT_1 19 (by rfl) (by decide +kernel), iT_8 235 (by rfl) (by decide +kernel), ⟨by decide +kernel, by decide +kernel, by decide +kernel⟩, by decide⟩
abbrev mX12_areTwo : Mt := (yX12_areTwo, cX12_areTwo, 3, some FieldType.boolean)
theorem iX12_areTwo : MI mX12_areTwo 2 := ⟨iT_8 230 (by rfl) (by decide +kernel), iS 105 (by rfl) (by decide +kernel), iT_1 19 (by rfl) (by decide +kernel), iT_8 231 (by rfl) (by decide +kernel), ⟨by decide +kernel, by decide +kernel, by decide +kernel⟩, by decide⟩
abbrev mX12_rests : Mt := (yX12_rests, cX12_rests, 3, some FieldType.int)
theorem iX12_rests : MI mX12_rests 2 := ⟨iT_8 225 (by rfl) (by decide +kernel), iT_8 226 (by rfl) (by decide +kernel), iT_1 19 (by rfl) (by decide +kernel), iT_8 227 (by rfl) (by decide +kernel), ⟨by decide +kernel, by decide +kernel, by decide +kernel⟩, by decide⟩
abbrev mX12_rest : Mt := (yX12_rest, cX12_rest, 4, some FieldType.int)
theorem iX12_rest : MI mX12_rest 3 := ⟨iT_9 5 (by rfl) (by decide +kernel), iT_9 6 (by rfl) (by decide +kernel), iT_1 19 (by rfl) (by decide +kernel), iT_9 7 (by rfl) (by decide +kernel), ⟨by decide +kernel, by decide +kernel, by decide +kernel⟩, by decide⟩
abbrev mX12_common : Mt := (yX12_common, cX12_common, 10, some FieldType.long)
theorem iX12_common : MSt mX12_common 2 := ⟨iT_9 15 (by rfl) (by decide +kernel), iT_1 19 (by rfl) (by decide +kernel), iT_9 16 (by rfl) (by decide +kernel), ⟨by decide +kernel, by decide +kernel, by decide +kernel⟩, by decide⟩
abbrev mX12_there : Mt := (yX12_there, cX12_there, 9, some FieldType.long)
theorem iX12_there : MI mX12_there 2 := ⟨iT_9 9 (by rfl) (by decide +kernel), iT_9 10 (by rfl) (by decide +kernel), iT_1 19 (by rfl) (by decide +kernel), iT_9 11 (by rfl) (by decide +kernel), ⟨by decide +kernel, by decide +kernel, by decide +kernel⟩, by decide⟩
abbrev mX12_without : Mt := (yX12_without, cX12_without, 2, some FieldType.int)
theorem iX12_without : MI mX12_without 1 := ⟨iT_9 18 (by rfl) (by decide +kernel), iT_9 19 (by rfl) (by decide +kernel), iT_1 19 (by rfl) (by decide +kernel), iT_9 20 (by rfl) (by decide +kernel), ⟨by decide +kernel, by decide +kernel, by decide +kernel⟩, by decide⟩
abbrev mX12_run : Mt := (yX12_run, cX12_run, 5, some FieldType.int)
theorem iX12_run : MI mX12_run 0 := ⟨iT_9 22 (by rfl) (by decide +kernel), iT_9 23 (by rfl) (by decide +kernel), iT_1 19 (by rfl) (by decide +kernel), iT_9 24 (by rfl) (by decide +kernel), ⟨by decide +kernel, by decide +kernel, by decide +kernel⟩, by decide⟩
abbrev mX12_believed : Mt := (yX12_believed, cX12_believed, 3, some FieldType.int)
theorem iX12_believed : MI mX12_believed 0 := ⟨iT_9 27 (by rfl) (by decide +kernel), iT_9 28 (by rfl) (by decide +kernel), iT_1 19 (by rfl) (by decide +kernel), iT_9 29 (by rfl) (by decide +kernel), ⟨by decide +kernel, by decide +kernel, by decide +kernel⟩, by decide⟩
abbrev mX12_see : Mt := (yX12_see, cX12_see, 4, some FieldType.int)
theorem iX12_see : MI mX12_see 3 := ⟨iT_9 31 (by rfl) (by decide +kernel), iT_9 32 (by rfl) (by decide +kernel), iT_1 19 (by rfl) (by decide +kernel), iT_9 33 (by rfl) (by decide +kernel), ⟨by decide +kernel, by decide +kernel, by decide +kernel⟩, by decide⟩
abbrev mX12_out : Mt := (yX12_out, cX12_out, 2, some FieldType.int)
theorem iX12_out : MI mX12_out 1 := ⟨iT_9 35 (by rfl) (by decide +kernel), iT_9 36 (by rfl) (by decide +kernel), iT_1 19 (by rfl) (by decide +kernel), iT_9 37 (by rfl) (by decide +kernel), ⟨by decide +kernel, by decide +kernel, by decide +kernel⟩, by decide⟩
abbrev mX12_known : Mt := (yX12_known, cX12_known, 2, some FieldType.boolean)
theorem iX12_known : MI mX12_known 1 := ⟨iT_9 39 (by rfl) (by decide +kernel), iT_9 40 (by rfl) (by decide +kernel), iT_1 19 (by rfl) (by decide +kernel), iT_9 41 (by rfl) (by decide +kernel), ⟨by decide +kernel, by decide +kernel, by decide +kernel⟩, by decide⟩
abbrev mX12_knownMany : Mt := (yX12_knownMany, cX12_knownMany, 1, some FieldType.int)
theorem iX12_knownMany : MI mX12_knownMany 0 := ⟨iT_9 48 (by rfl) (by decide +kernel), iS 108 (by rfl) (by decide +kernel), iT_1 19 (by rfl) (by decide +kernel), iT_9 49 (by rfl) (by decide +kernel), ⟨by decide +kernel, by decide +kernel, by decide +kernel⟩, by decide⟩
abbrev mX12_fits : Mt := (yX12_fits, cX12_fits, 3, some FieldType.boolean)
theorem iX12_fits : MI mX12_fits 1 := ⟨iT_9 56 (by rfl) (by decide +kernel), iS 110 (by rfl) (by decide +kernel), iT_1 19 (by rfl) (by decide +kernel), iT_9 57 (by rfl) (by decide +kernel), ⟨by decide +kernel, by decide +kernel, by decide +kernel⟩, by decide⟩
abbrev mX12_fitsStrike : Mt := (yX12_fitsStrike, cX12_fitsStrike, 3, some FieldType.boolean)
theorem iX12_fitsStrike : MI mX12_fitsStrike 1 := ⟨iT_9 52 (by rfl) (by decide +kernel), iS 109 (by rfl) (by decide +kernel), iT_1 19 (by rfl) (by decide +kernel), iT_9 53 (by rfl) (by decide +kernel), ⟨by decide +kernel, by decide +kernel, by decide +kernel⟩, by decide⟩
abbrev mX12_struckHow : Mt := (yX12_struckHow, cX12_struckHow, 5, some FieldType.int)
theorem iX12_struckHow : MI mX12_struckHow 1 := ⟨iT_9 43 (by rfl) (by decide +kernel), iT_9 44 (by rfl) (by decide +kernel), iT_1 19 (by rfl) (by decide +kernel), iT_9 45 (by rfl) (by decide +kernel), ⟨by decide +kernel, by decide +kernel, by decide +kernel⟩, by decide⟩
abbrev mX12_chance : Mt := (yX12_chance, cX12_chance, 8, some FieldType.int)
theorem iX12_chance : MI mX12_chance 3 := ⟨iT_9 59 (by rfl) (by decide +kernel), iT_9 60 (by rfl) (by decide +kernel), iT_1 19 (by rfl) (by decide +kernel), iT_9 61 (by rfl) (by decide +kernel), ⟨by decide +kernel, by decide +kernel, by decide +kernel⟩, by decide⟩
abbrev mX12_tried : Mt := (yX12_tried, cX12_tried, 5, some FieldType.int)
theorem iX12_tried : MI mX12_tried 3 := ⟨iT_9 63 (by rfl) (by decide +kernel), iT_9 64 (by rfl) (by decide +kernel), iT_1 19 (by rfl) (by decide +kernel), iT_9 65 (by rfl) (by decide +kernel), ⟨by decide +kernel, by decide +kernel, by decide +kernel⟩, by decide⟩
abbrev mX12_undo : Mt := (yX12_undo, cX12_undo, 1, some FieldType.int)
theorem iX12_undo : MI mX12_undo 0 := ⟨iT_9 67 (by rfl) (by decide +kernel), iT_9 68 (by rfl) (by decide +kernel), iT_1 19 (by rfl) (by decide +kernel), iT_9 69 (by rfl) (by decide +kernel), ⟨by decide +kernel, by decide +kernel, by decide +kernel⟩, by decide⟩
abbrev mX12_keep : Mt := (yX12_keep, cX12_keep, 1, some FieldType.int)
theorem iX12_keep : MI mX12_keep 0 := ⟨iT_9 71 (by rfl) (by decide +kernel), iT_9 72 (by rfl) (by decide +kernel), iT_1 19 (by rfl) (by decide +kernel), iT_9 73 (by rfl) (by decide +kernel), ⟨by decide +kernel, by decide +kernel, by decide +kernel⟩, by decide⟩
abbrev mX12_back : Mt := (yX12_back, cX12_back, 1, some FieldType.int)
theorem iX12_back : MI mX12_back 0 := ⟨iT_9 75 (by rfl) (by decide +kernel), iT_9 76 (by rfl) (by decide +kernel), iT_1 19 (by rfl) (by decide +kernel), iT_9 77 (by rfl) (by decide +kernel), ⟨by decide +kernel, by decide +kernel, by decide +kernel⟩, by decide⟩
abbrev mX12_count : Mt := (yX12_count, cX12_count, 2, some FieldType.int)
theorem iX12_count : MI mX12_count 1 := ⟨iT_9 79 (by rfl) (by decide +kernel), iT_9 80 (by rfl) (by decide +kernel), iT_1 19 (by rfl) (by decide +kernel), iT_9 81 (by rfl) (by decide +kernel), ⟨by decide +kernel, by decide +kernel, by decide +kernel⟩, by decide⟩
abbrev mJ6_bitCount_0f7a4 : Mt := (yJ6_bitCount_0f7a4, cJ6_bitCount_0f7a4, 1, some FieldType.int)
theorem iJ6_bitCount_0f7a4 : MSt mJ6_bitCount_0f7a4 1 := ⟨iT_5 109 (by rfl) (by decide +kernel), iT_1 25 (by rfl) (by decide +kernel), iT_5 110 (by rfl) (by decide +kernel), ⟨by decide +kernel, by decide +kernel, by decide +kernel⟩, by decide⟩
abbrev mJ9_abs_067f4 : Mt := (yJ9_abs_067f4, cJ9_abs_067f4, 2, some FieldType.long)
theorem iJ9_abs_067f4 : MSt mJ9_abs_067f4 1 := ⟨iT_8 84 (by rfl) (by decide +kernel), iT_1 4 (by rfl) (by decide +kernel), iT_8 85 (by rfl) (by decide +kernel), ⟨by decide +kernel, by decide +kernel, by decide +kernel⟩, by decide⟩
abbrev mJ9_max_7cf53 : Mt := (yJ9_max_7cf53, cJ9_max_7cf53, 2, some FieldType.int)
theorem iJ9_max_7cf53 : MSt mJ9_max_7cf53 2 := ⟨iT_5 162 (by rfl) (by decide +kernel), iT_1 4 (by rfl) (by decide +kernel), iT_5 163 (by rfl) (by decide +kernel), ⟨by decide +kernel, by decide +kernel, by decide +kernel⟩, by decide⟩
abbrev mJ9_max_f86c9 : Mt := (yJ9_max_f86c9, cJ9_max_f86c9, 4, some FieldType.long)
theorem iJ9_max_f86c9 : MSt mJ9_max_f86c9 2 := ⟨iT_5 11 (by rfl) (by decide +kernel), iT_1 4 (by rfl) (by decide +kernel), iT_5 12 (by rfl) (by decide +kernel), ⟨by decide +kernel, by decide +kernel, by decide +kernel⟩, by decide⟩
abbrev mJ9_min_7cf53 : Mt := (yJ9_min_7cf53, cJ9_min_7cf53, 2, some FieldType.int)
theorem iJ9_min_7cf53 : MSt mJ9_min_7cf53 2 := ⟨iT_1 47 (by rfl) (by decide +kernel), iT_1 4 (by rfl) (by decide +kernel), iT_1 48 (by rfl) (by decide +kernel), ⟨by decide +kernel, by decide +kernel, by decide +kernel⟩, by decide⟩
abbrev mJ9_min_f86c9 : Mt := (yJ9_min_f86c9, cJ9_min_f86c9, 4, some FieldType.long)
theorem iJ9_min_f86c9 : MSt mJ9_min_f86c9 2 := ⟨iT_5 8 (by rfl) (by decide +kernel), iT_1 4 (by rfl) (by decide +kernel), iT_5 9 (by rfl) (by decide +kernel), ⟨by decide +kernel, by decide +kernel, by decide +kernel⟩, by decide⟩
abbrev mJ0_length_8abf5 : Mt := (yJ0_length_8abf5, cJ0_length_8abf5, 1, some FieldType.int)
theorem iJ0_length_8abf5 : MI mJ0_length_8abf5 0 := ⟨iT_1 211 (by rfl) (by decide +kernel), iT_1 212 (by rfl) (by decide +kernel), iT_1 8 (by rfl) (by decide +kernel), iT_1 213 (by rfl) (by decide +kernel), ⟨by decide +kernel, by decide +kernel, by decide +kernel⟩, by decide⟩
abbrev mJ0_charAt_5068e : Mt := (yJ0_charAt_5068e, cJ0_charAt_5068e, 2, some FieldType.char)
theorem iJ0_charAt_5068e : MI mJ0_charAt_5068e 1 := ⟨iT_1 221 (by rfl) (by decide +kernel), iT_1 222 (by rfl) (by decide +kernel), iT_1 8 (by rfl) (by decide +kernel), iT_1 223 (by rfl) (by decide +kernel), ⟨by decide +kernel, by decide +kernel, by decide +kernel⟩, by decide⟩
abbrev mJ0_coder_7d493 : Mt := (yJ0_coder_7d493, cJ0_coder_7d493, 1, some FieldType.byte)
theorem iJ0_coder_7d493 : MI mJ0_coder_7d493 0 := ⟨iT_1 215 (by rfl) (by decide +kernel), iT_1 216 (by rfl) (by decide +kernel), iT_1 8 (by rfl) (by decide +kernel), iT_1 217 (by rfl) (by decide +kernel), ⟨by decide +kernel, by decide +kernel, by decide +kernel⟩, by decide⟩
abbrev mJ0_isLatin1_aae02 : Mt := (yJ0_isLatin1_aae02, cJ0_isLatin1_aae02, 1, some FieldType.boolean)
theorem iJ0_isLatin1_aae02 : MI mJ0_isLatin1_aae02 0 := ⟨iT_1 225 (by rfl) (by decide +kernel), iT_1 226 (by rfl) (by decide +kernel), iT_1 8 (by rfl) (by decide +kernel), iT_1 227 (by rfl) (by decide +kernel), ⟨by decide +kernel, by decide +kernel, by decide +kernel⟩, by decide⟩
abbrev mJ0_checkIndex_df160 : Mt := (yJ0_checkIndex_df160, cJ0_checkIndex_df160, 2, none)
theorem iJ0_checkIndex_df160 : MSt mJ0_checkIndex_df160 2 := ⟨iT_1 232 (by rfl) (by decide +kernel), iT_1 8 (by rfl) (by decide +kernel), iT_1 233 (by rfl) (by decide +kernel), ⟨by decide +kernel, by decide +kernel, by decide +kernel⟩, by decide⟩
abbrev mJ1_charAt_3b067 : Mt := (yJ1_charAt_3b067, cJ1_charAt_3b067, 2, some FieldType.char)
theorem iJ1_charAt_3b067 : MSt mJ1_charAt_3b067 2 := ⟨iT_1 229 (by rfl) (by decide +kernel), iT_1 9 (by rfl) (by decide +kernel), iT_1 230 (by rfl) (by decide +kernel), ⟨by decide +kernel, by decide +kernel, by decide +kernel⟩, by decide⟩
abbrev mJ2_getChar_3b067 : Mt := (yJ2_getChar_3b067, cJ2_getChar_3b067, 2, some FieldType.char)
theorem iJ2_getChar_3b067 : MSt mJ2_getChar_3b067 2 := ⟨iT_2 10 (by rfl) (by decide +kernel), iT_1 11 (by rfl) (by decide +kernel), iT_2 11 (by rfl) (by decide +kernel), ⟨by decide +kernel, by decide +kernel, by decide +kernel⟩, by decide⟩
abbrev mJ2_length_9d52b : Mt := (yJ2_length_9d52b, cJ2_length_9d52b, 1, some FieldType.int)
theorem iJ2_length_9d52b : MSt mJ2_length_9d52b 1 := ⟨iT_2 6 (by rfl) (by decide +kernel), iT_1 11 (by rfl) (by decide +kernel), iT_2 7 (by rfl) (by decide +kernel), ⟨by decide +kernel, by decide +kernel, by decide +kernel⟩, by decide⟩
abbrev mJ2_charAt_3b067 : Mt := (yJ2_charAt_3b067, cJ2_charAt_3b067, 2, some FieldType.char)
theorem iJ2_charAt_3b067 : MSt mJ2_charAt_3b067 2 := ⟨iT_2 0 (by rfl) (by decide +kernel), iT_1 11 (by rfl) (by decide +kernel), iT_2 1 (by rfl) (by decide +kernel), ⟨by decide +kernel, by decide +kernel, by decide +kernel⟩, by decide⟩
abbrev mJ2_checkIndex_2214a : Mt := (yJ2_checkIndex_2214a, cJ2_checkIndex_2214a, 2, none)
theorem iJ2_checkIndex_2214a : MSt mJ2_checkIndex_2214a 2 := ⟨iT_2 3 (by rfl) (by decide +kernel), iT_1 11 (by rfl) (by decide +kernel), iT_2 4 (by rfl) (by decide +kernel), ⟨by decide +kernel, by decide +kernel, by decide +kernel⟩, by decide⟩
abbrev mJ3_checkIndex_8e157 : Mt := (yJ3_checkIndex_8e157, cJ3_checkIndex_8e157, 3, some FieldType.int)
theorem iJ3_checkIndex_8e157 : MSt mJ3_checkIndex_8e157 3 := ⟨iT_1 237 (by rfl) (by decide +kernel), iT_1 10 (by rfl) (by decide +kernel), iT_1 238 (by rfl) (by decide +kernel), ⟨by decide +kernel, by decide +kernel, by decide +kernel⟩, by decide⟩
theorem lL_17 {M : Mt} (h : M.1.cls = RL) : LK M 17 mX11_init := Or.inl (by rw [h]; exact iT_1 28 (by rfl) (by decide +kernel))
theorem lX11_19 {M : Mt} (h : M.1.cls = RX11) : LK M 19 mX9_init := Or.inl (by rw [h]; exact iT_1 36 (by rfl) (by decide +kernel))
theorem lX9_11 {M : Mt} (h : M.1.cls = RX9) : LK M 11 mX7_init := Or.inl (by rw [h]; exact iT_1 42 (by rfl) (by decide +kernel))
theorem lX7_28 {M : Mt} (h : M.1.cls = RX7) : LK M 28 mJ9_min_7cf53 := Or.inl (by rw [h]; exact iT_1 46 (by rfl) (by decide +kernel))
theorem fX7_34 {M : Mt} (h : M.1.cls = RX7) : FL M 34 7 0 := ⟨RX7, TX7, 6, cls7, by decide, Or.inl (by rw [h]; exact iT_1 49 (by first | rfl | decide +kernel) (by decide +kernel))⟩
theorem ffX7_34 {M : Mt} (h : M.1.cls = RX7) (hn : M.1.name = "<init>") : FLF M 34 7 0 := ⟨hn, RX7, TX7, 6, cls7, by decide, by decide +kernel, by rw [h]; decide +kernel, by rw [h]; exact iT_1 49 (by first | rfl | decide +kernel) (by decide +kernel)⟩
theorem fX7_9 {M : Mt} (h : M.1.cls = RX7) : FL M 9 7 1 := ⟨RX7, TX7, 6, cls7, by decide, Or.inl (by rw [h]; exact iT_1 50 (by first | rfl | decide +kernel) (by decide +kernel))⟩
theorem fwX7_9 {M : Mt} (h : M.1.cls = RX7) : FLW M 9 7 1 := ⟨RX7, TX7, 6, cls7, by decide, by decide +kernel, Or.inl (by rw [h]; exact iT_1 50 (by first | rfl | decide +kernel) (by decide +kernel))⟩
theorem fX2_65 {M : Mt} (h : M.1.cls = RX2) : FL M 65 7 1 := ⟨RX7, TX7, 6, cls7, by decide, Or.inl (by rw [h]; exact iT_1 51 (by first | rfl | decide +kernel) (by decide +kernel))⟩
theorem fwX2_65 {M : Mt} (h : M.1.cls = RX2) : FLW M 65 7 1 := ⟨RX7, TX7, 6, cls7, by decide, by decide +kernel, Or.inl (by rw [h]; exact iT_1 51 (by first | rfl | decide +kernel) (by decide +kernel))⟩
theorem fX0_80 {M : Mt} (h : M.1.cls = RX0) : FL M 80 7 1 := ⟨RX7, TX7, 6, cls7, by decide, Or.inl (by rw [h]; exact iT_1 52 (by first | rfl | decide +kernel) (by decide +kernel))⟩
theorem fwX0_80 {M : Mt} (h : M.1.cls = RX0) : FLW M 80 7 1 := ⟨RX7, TX7, 6, cls7, by decide, by decide +kernel, Or.inl (by rw [h]; exact iT_1 52 (by first | rfl | decide +kernel) (by decide +kernel))⟩
theorem fX9_87 {M : Mt} (h : M.1.cls = RX9) : FL M 87 7 1 := ⟨RX7, TX7, 6, cls7, by decide, Or.inl (by rw [h]; exact iT_1 53 (by first | rfl | decide +kernel) (by decide +kernel))⟩
theorem fwX9_87 {M : Mt} (h : M.1.cls = RX9) : FLW M 87 7 1 := ⟨RX7, TX7, 6, cls7, by decide, by decide +kernel, Or.inl (by rw [h]; exact iT_1 53 (by first | rfl | decide +kernel) (by decide +kernel))⟩
theorem fX11_256 {M : Mt} (h : M.1.cls = RX11) : FL M 256 7 1 := ⟨RX7, TX7, 6, cls7, by decide, Or.inl (by rw [h]; exact iT_1 54 (by first | rfl | decide +kernel) (by decide +kernel))⟩
theorem fwX11_256 {M : Mt} (h : M.1.cls = RX11) : FLW M 256 7 1 := ⟨RX7, TX7, 6, cls7, by decide, by decide +kernel, Or.inl (by rw [h]; exact iT_1 54 (by first | rfl | decide +kernel) (by decide +kernel))⟩
theorem fX7_15 {M : Mt} (h : M.1.cls = RX7) : FL M 15 7 2 := ⟨RX7, TX7, 6, cls7, by decide, Or.inl (by rw [h]; exact iT_1 55 (by first | rfl | decide +kernel) (by decide +kernel))⟩
theorem ffX7_15 {M : Mt} (h : M.1.cls = RX7) (hn : M.1.name = "<init>") : FLF M 15 7 2 := ⟨hn, RX7, TX7, 6, cls7, by decide, by decide +kernel, by rw [h]; decide +kernel, by rw [h]; exact iT_1 55 (by first | rfl | decide +kernel) (by decide +kernel)⟩
theorem fX7_19 {M : Mt} (h : M.1.cls = RX7) : FL M 19 7 3 := ⟨RX7, TX7, 6, cls7, by decide, Or.inl (by rw [h]; exact iT_1 56 (by first | rfl | decide +kernel) (by decide +kernel))⟩
theorem ffX7_19 {M : Mt} (h : M.1.cls = RX7) (hn : M.1.name = "<init>") : FLF M 19 7 3 := ⟨hn, RX7, TX7, 6, cls7, by decide, by decide +kernel, by rw [h]; decide +kernel, by rw [h]; exact iT_1 56 (by first | rfl | decide +kernel) (by decide +kernel)⟩
theorem fX0_54 {M : Mt} (h : M.1.cls = RX0) : FL M 54 7 3 := ⟨RX7, TX7, 6, cls7, by decide, Or.inl (by rw [h]; exact iT_1 57 (by first | rfl | decide +kernel) (by decide +kernel))⟩
theorem fX9_90 {M : Mt} (h : M.1.cls = RX9) : FL M 90 7 3 := ⟨RX7, TX7, 6, cls7, by decide, Or.inl (by rw [h]; exact iT_1 58 (by first | rfl | decide +kernel) (by decide +kernel))⟩
theorem fX2_88 {M : Mt} (h : M.1.cls = RX2) : FL M 88 7 3 := ⟨RX7, TX7, 6, cls7, by decide, Or.inl (by rw [h]; exact iT_1 59 (by first | rfl | decide +kernel) (by decide +kernel))⟩
theorem fX11_142 {M : Mt} (h : M.1.cls = RX11) : FL M 142 7 3 := ⟨RX7, TX7, 6, cls7, by decide, Or.inl (by rw [h]; exact iT_1 60 (by first | rfl | decide +kernel) (by decide +kernel))⟩
theorem fX7_22 {M : Mt} (h : M.1.cls = RX7) : FL M 22 7 4 := ⟨RX7, TX7, 6, cls7, by decide, Or.inl (by rw [h]; exact iT_1 61 (by first | rfl | decide +kernel) (by decide +kernel))⟩
theorem ffX7_22 {M : Mt} (h : M.1.cls = RX7) (hn : M.1.name = "<init>") : FLF M 22 7 4 := ⟨hn, RX7, TX7, 6, cls7, by decide, by decide +kernel, by rw [h]; decide +kernel, by rw [h]; exact iT_1 61 (by first | rfl | decide +kernel) (by decide +kernel)⟩
theorem fX5_69 {M : Mt} (h : M.1.cls = RX5) : FL M 69 7 4 := ⟨RX7, TX7, 6, cls7, by decide, Or.inl (by rw [h]; exact iT_1 62 (by first | rfl | decide +kernel) (by decide +kernel))⟩
theorem fX2_74 {M : Mt} (h : M.1.cls = RX2) : FL M 74 7 4 := ⟨RX7, TX7, 6, cls7, by decide, Or.inl (by rw [h]; exact iT_1 63 (by first | rfl | decide +kernel) (by decide +kernel))⟩
theorem fX9_97 {M : Mt} (h : M.1.cls = RX9) : FL M 97 7 4 := ⟨RX7, TX7, 6, cls7, by decide, Or.inl (by rw [h]; exact iT_1 64 (by first | rfl | decide +kernel) (by decide +kernel))⟩
theorem fX0_156 {M : Mt} (h : M.1.cls = RX0) : FL M 156 7 4 := ⟨RX7, TX7, 6, cls7, by decide, Or.inl (by rw [h]; exact iT_1 65 (by first | rfl | decide +kernel) (by decide +kernel))⟩
theorem fX11_150 {M : Mt} (h : M.1.cls = RX11) : FL M 150 7 4 := ⟨RX7, TX7, 6, cls7, by decide, Or.inl (by rw [h]; exact iT_1 66 (by first | rfl | decide +kernel) (by decide +kernel))⟩
theorem fX4_151 {M : Mt} (h : M.1.cls = RX4) : FL M 151 7 4 := ⟨RX7, TX7, 6, cls7, by decide, Or.inl (by rw [h]; exact iT_1 67 (by first | rfl | decide +kernel) (by decide +kernel))⟩
theorem fX7_25 {M : Mt} (h : M.1.cls = RX7) : FL M 25 7 5 := ⟨RX7, TX7, 6, cls7, by decide, Or.inl (by rw [h]; exact iT_1 68 (by first | rfl | decide +kernel) (by decide +kernel))⟩
theorem ffX7_25 {M : Mt} (h : M.1.cls = RX7) (hn : M.1.name = "<init>") : FLF M 25 7 5 := ⟨hn, RX7, TX7, 6, cls7, by decide, by decide +kernel, by rw [h]; decide +kernel, by rw [h]; exact iT_1 68 (by first | rfl | decide +kernel) (by decide +kernel)⟩
theorem fX5_86 {M : Mt} (h : M.1.cls = RX5) : FL M 86 7 5 := ⟨RX7, TX7, 6, cls7, by decide, Or.inl (by rw [h]; exact iT_1 69 (by first | rfl | decide +kernel) (by decide +kernel))⟩
theorem lX9_57 {M : Mt} (h : M.1.cls = RX9) : LK M 57 mX1_init := Or.inr ⟨"GirlShots", by rw [h]; exact iTN_1 87 (by rfl) (by decide +kernel)⟩
theorem fX1_9 {M : Mt} (h : M.1.cls = RX1) : FL M 9 1 0 := ⟨RX1, TX1, 5, cls1, by decide, Or.inl (by rw [h]; exact iT_1 91 (by first | rfl | decide +kernel) (by decide +kernel))⟩
theorem fwX1_9 {M : Mt} (h : M.1.cls = RX1) : FLW M 9 1 0 := ⟨RX1, TX1, 5, cls1, by decide, by decide +kernel, Or.inl (by rw [h]; exact iT_1 91 (by first | rfl | decide +kernel) (by decide +kernel))⟩
theorem fX0_233 {M : Mt} (h : M.1.cls = RX0) : FL M 233 1 0 := ⟨RX1, TX1, 5, cls1, by decide, Or.inl (by rw [h]; exact iT_1 92 (by first | rfl | decide +kernel) (by decide +kernel))⟩
theorem fwX0_233 {M : Mt} (h : M.1.cls = RX0) : FLW M 233 1 0 := ⟨RX1, TX1, 5, cls1, by decide, by decide +kernel, Or.inl (by rw [h]; exact iT_1 92 (by first | rfl | decide +kernel) (by decide +kernel))⟩
theorem fX4_183 {M : Mt} (h : M.1.cls = RX4) : FL M 183 1 0 := ⟨RX1, TX1, 5, cls1, by decide, Or.inl (by rw [h]; exact iT_1 93 (by first | rfl | decide +kernel) (by decide +kernel))⟩
theorem fwX4_183 {M : Mt} (h : M.1.cls = RX4) : FLW M 183 1 0 := ⟨RX1, TX1, 5, cls1, by decide, by decide +kernel, Or.inl (by rw [h]; exact iT_1 93 (by first | rfl | decide +kernel) (by decide +kernel))⟩
theorem fX1_15 {M : Mt} (h : M.1.cls = RX1) : FL M 15 1 1 := ⟨RX1, TX1, 5, cls1, by decide, Or.inl (by rw [h]; exact iT_1 94 (by first | rfl | decide +kernel) (by decide +kernel))⟩
theorem fwX1_15 {M : Mt} (h : M.1.cls = RX1) : FLW M 15 1 1 := ⟨RX1, TX1, 5, cls1, by decide, by decide +kernel, Or.inl (by rw [h]; exact iT_1 94 (by first | rfl | decide +kernel) (by decide +kernel))⟩
theorem fX1_19 {M : Mt} (h : M.1.cls = RX1) : FL M 19 1 2 := ⟨RX1, TX1, 5, cls1, by decide, Or.inl (by rw [h]; exact iT_1 95 (by first | rfl | decide +kernel) (by decide +kernel))⟩
theorem ffX1_19 {M : Mt} (h : M.1.cls = RX1) (hn : M.1.name = "<init>") : FLF M 19 1 2 := ⟨hn, RX1, TX1, 5, cls1, by decide, by decide +kernel, by rw [h]; decide +kernel, by rw [h]; exact iT_1 95 (by first | rfl | decide +kernel) (by decide +kernel)⟩
theorem fX1_23 {M : Mt} (h : M.1.cls = RX1) : FL M 23 1 3 := ⟨RX1, TX1, 5, cls1, by decide, Or.inl (by rw [h]; exact iT_1 96 (by first | rfl | decide +kernel) (by decide +kernel))⟩
theorem ffX1_23 {M : Mt} (h : M.1.cls = RX1) (hn : M.1.name = "<init>") : FLF M 23 1 3 := ⟨hn, RX1, TX1, 5, cls1, by decide, by decide +kernel, by rw [h]; decide +kernel, by rw [h]; exact iT_1 96 (by first | rfl | decide +kernel) (by decide +kernel)⟩
theorem fX1_26 {M : Mt} (h : M.1.cls = RX1) : FL M 26 1 4 := ⟨RX1, TX1, 5, cls1, by decide, Or.inl (by rw [h]; exact iT_1 97 (by first | rfl | decide +kernel) (by decide +kernel))⟩
theorem ffX1_26 {M : Mt} (h : M.1.cls = RX1) (hn : M.1.name = "<init>") : FLF M 26 1 4 := ⟨hn, RX1, TX1, 5, cls1, by decide, by decide +kernel, by rw [h]; decide +kernel, by rw [h]; exact iT_1 97 (by first | rfl | decide +kernel) (by decide +kernel)⟩
theorem lX9_68 {M : Mt} (h : M.1.cls = RX9) : LK M 68 mX11_fill := Or.inr ⟨"GirlShots", by rw [h]; exact iTN_1 110 (by rfl) (by decide +kernel)⟩
theorem fX9_14 {M : Mt} (h : M.1.cls = RX9) : FL M 14 9 0 := ⟨RX9, TX9, 15, cls9, by decide, Or.inl (by rw [h]; exact iT_1 113 (by first | rfl | decide +kernel) (by decide +kernel))⟩
theorem ffX9_14 {M : Mt} (h : M.1.cls = RX9) (hn : M.1.name = "<init>") : FLF M 14 9 0 := ⟨hn, RX9, TX9, 15, cls9, by decide, by decide +kernel, by rw [h]; decide +kernel, by rw [h]; exact iT_1 113 (by first | rfl | decide +kernel) (by decide +kernel)⟩
theorem fX0_48 {M : Mt} (h : M.1.cls = RX0) : FL M 48 9 0 := ⟨RX9, TX9, 15, cls9, by decide, Or.inl (by rw [h]; exact iT_1 114 (by first | rfl | decide +kernel) (by decide +kernel))⟩
theorem fX2_59 {M : Mt} (h : M.1.cls = RX2) : FL M 59 9 0 := ⟨RX9, TX9, 15, cls9, by decide, Or.inl (by rw [h]; exact iT_1 115 (by first | rfl | decide +kernel) (by decide +kernel))⟩
theorem fX4_111 {M : Mt} (h : M.1.cls = RX4) : FL M 111 9 0 := ⟨RX9, TX9, 15, cls9, by decide, Or.inl (by rw [h]; exact iT_1 116 (by first | rfl | decide +kernel) (by decide +kernel))⟩
theorem fX11_112 {M : Mt} (h : M.1.cls = RX11) : FL M 112 9 0 := ⟨RX9, TX9, 15, cls9, by decide, Or.inl (by rw [h]; exact iT_1 117 (by first | rfl | decide +kernel) (by decide +kernel))⟩
theorem fX9_20 {M : Mt} (h : M.1.cls = RX9) : FL M 20 9 1 := ⟨RX9, TX9, 15, cls9, by decide, Or.inl (by rw [h]; exact iT_1 118 (by first | rfl | decide +kernel) (by decide +kernel))⟩
theorem ffX9_20 {M : Mt} (h : M.1.cls = RX9) (hn : M.1.name = "<init>") : FLF M 20 9 1 := ⟨hn, RX9, TX9, 15, cls9, by decide, by decide +kernel, by rw [h]; decide +kernel, by rw [h]; exact iT_1 118 (by first | rfl | decide +kernel) (by decide +kernel)⟩
theorem fX5_65 {M : Mt} (h : M.1.cls = RX5) : FL M 65 9 1 := ⟨RX9, TX9, 15, cls9, by decide, Or.inl (by rw [h]; exact iT_1 119 (by first | rfl | decide +kernel) (by decide +kernel))⟩
theorem fX0_77 {M : Mt} (h : M.1.cls = RX0) : FL M 77 9 1 := ⟨RX9, TX9, 15, cls9, by decide, Or.inl (by rw [h]; exact iT_1 120 (by first | rfl | decide +kernel) (by decide +kernel))⟩
theorem fX4_135 {M : Mt} (h : M.1.cls = RX4) : FL M 135 9 1 := ⟨RX9, TX9, 15, cls9, by decide, Or.inl (by rw [h]; exact iT_1 121 (by first | rfl | decide +kernel) (by decide +kernel))⟩
theorem fX2_85 {M : Mt} (h : M.1.cls = RX2) : FL M 85 9 1 := ⟨RX9, TX9, 15, cls9, by decide, Or.inl (by rw [h]; exact iT_1 122 (by first | rfl | decide +kernel) (by decide +kernel))⟩
theorem fX11_122 {M : Mt} (h : M.1.cls = RX11) : FL M 122 9 1 := ⟨RX9, TX9, 15, cls9, by decide, Or.inl (by rw [h]; exact iT_1 123 (by first | rfl | decide +kernel) (by decide +kernel))⟩
theorem fX9_23 {M : Mt} (h : M.1.cls = RX9) : FL M 23 9 2 := ⟨RX9, TX9, 15, cls9, by decide, Or.inl (by rw [h]; exact iT_1 124 (by first | rfl | decide +kernel) (by decide +kernel))⟩
theorem ffX9_23 {M : Mt} (h : M.1.cls = RX9) (hn : M.1.name = "<init>") : FLF M 23 9 2 := ⟨hn, RX9, TX9, 15, cls9, by decide, by decide +kernel, by rw [h]; decide +kernel, by rw [h]; exact iT_1 124 (by first | rfl | decide +kernel) (by decide +kernel)⟩
theorem fX5_83 {M : Mt} (h : M.1.cls = RX5) : FL M 83 9 2 := ⟨RX9, TX9, 15, cls9, by decide, Or.inl (by rw [h]; exact iT_1 125 (by first | rfl | decide +kernel) (by decide +kernel))⟩
theorem fX0_100 {M : Mt} (h : M.1.cls = RX0) : FL M 100 9 2 := ⟨RX9, TX9, 15, cls9, by decide, Or.inl (by rw [h]; exact iT_1 126 (by first | rfl | decide +kernel) (by decide +kernel))⟩
theorem fX11_125 {M : Mt} (h : M.1.cls = RX11) : FL M 125 9 2 := ⟨RX9, TX9, 15, cls9, by decide, Or.inl (by rw [h]; exact iT_1 127 (by first | rfl | decide +kernel) (by decide +kernel))⟩
theorem fX4_158 {M : Mt} (h : M.1.cls = RX4) : FL M 158 9 2 := ⟨RX9, TX9, 15, cls9, by decide, Or.inl (by rw [h]; exact iT_1 128 (by first | rfl | decide +kernel) (by decide +kernel))⟩
theorem fX9_26 {M : Mt} (h : M.1.cls = RX9) : FL M 26 9 3 := ⟨RX9, TX9, 15, cls9, by decide, Or.inl (by rw [h]; exact iT_1 129 (by first | rfl | decide +kernel) (by decide +kernel))⟩
theorem ffX9_26 {M : Mt} (h : M.1.cls = RX9) (hn : M.1.name = "<init>") : FLF M 26 9 3 := ⟨hn, RX9, TX9, 15, cls9, by decide, by decide +kernel, by rw [h]; decide +kernel, by rw [h]; exact iT_1 129 (by first | rfl | decide +kernel) (by decide +kernel)⟩
theorem fX11_128 {M : Mt} (h : M.1.cls = RX11) : FL M 128 9 3 := ⟨RX9, TX9, 15, cls9, by decide, Or.inl (by rw [h]; exact iT_1 130 (by first | rfl | decide +kernel) (by decide +kernel))⟩
theorem fX4_161 {M : Mt} (h : M.1.cls = RX4) : FL M 161 9 3 := ⟨RX9, TX9, 15, cls9, by decide, Or.inl (by rw [h]; exact iT_1 131 (by first | rfl | decide +kernel) (by decide +kernel))⟩
theorem fX9_29 {M : Mt} (h : M.1.cls = RX9) : FL M 29 9 4 := ⟨RX9, TX9, 15, cls9, by decide, Or.inl (by rw [h]; exact iT_1 132 (by first | rfl | decide +kernel) (by decide +kernel))⟩
theorem ffX9_29 {M : Mt} (h : M.1.cls = RX9) (hn : M.1.name = "<init>") : FLF M 29 9 4 := ⟨hn, RX9, TX9, 15, cls9, by decide, by decide +kernel, by rw [h]; decide +kernel, by rw [h]; exact iT_1 132 (by first | rfl | decide +kernel) (by decide +kernel)⟩
theorem fX4_164 {M : Mt} (h : M.1.cls = RX4) : FL M 164 9 4 := ⟨RX9, TX9, 15, cls9, by decide, Or.inl (by rw [h]; exact iT_1 133 (by first | rfl | decide +kernel) (by decide +kernel))⟩
theorem fX9_32 {M : Mt} (h : M.1.cls = RX9) : FL M 32 9 5 := ⟨RX9, TX9, 15, cls9, by decide, Or.inl (by rw [h]; exact iT_1 134 (by first | rfl | decide +kernel) (by decide +kernel))⟩
theorem ffX9_32 {M : Mt} (h : M.1.cls = RX9) (hn : M.1.name = "<init>") : FLF M 32 9 5 := ⟨hn, RX9, TX9, 15, cls9, by decide, by decide +kernel, by rw [h]; decide +kernel, by rw [h]; exact iT_1 134 (by first | rfl | decide +kernel) (by decide +kernel)⟩
theorem fX5_82 {M : Mt} (h : M.1.cls = RX5) : FL M 82 9 5 := ⟨RX9, TX9, 15, cls9, by decide, Or.inl (by rw [h]; exact iT_1 135 (by first | rfl | decide +kernel) (by decide +kernel))⟩
theorem fX4_144 {M : Mt} (h : M.1.cls = RX4) : FL M 144 9 5 := ⟨RX9, TX9, 15, cls9, by decide, Or.inl (by rw [h]; exact iT_1 136 (by first | rfl | decide +kernel) (by decide +kernel))⟩
theorem fX9_36 {M : Mt} (h : M.1.cls = RX9) : FL M 36 9 6 := ⟨RX9, TX9, 15, cls9, by decide, Or.inl (by rw [h]; exact iT_1 137 (by first | rfl | decide +kernel) (by decide +kernel))⟩
theorem fwX9_36 {M : Mt} (h : M.1.cls = RX9) : FLW M 36 9 6 := ⟨RX9, TX9, 15, cls9, by decide, by decide +kernel, Or.inl (by rw [h]; exact iT_1 137 (by first | rfl | decide +kernel) (by decide +kernel))⟩
theorem fX4_138 {M : Mt} (h : M.1.cls = RX4) : FL M 138 9 6 := ⟨RX9, TX9, 15, cls9, by decide, Or.inl (by rw [h]; exact iT_1 138 (by first | rfl | decide +kernel) (by decide +kernel))⟩
theorem fwX4_138 {M : Mt} (h : M.1.cls = RX4) : FLW M 138 9 6 := ⟨RX9, TX9, 15, cls9, by decide, by decide +kernel, Or.inl (by rw [h]; exact iT_1 138 (by first | rfl | decide +kernel) (by decide +kernel))⟩
theorem fX9_40 {M : Mt} (h : M.1.cls = RX9) : FL M 40 9 7 := ⟨RX9, TX9, 15, cls9, by decide, Or.inl (by rw [h]; exact iT_1 139 (by first | rfl | decide +kernel) (by decide +kernel))⟩
theorem fwX9_40 {M : Mt} (h : M.1.cls = RX9) : FLW M 40 9 7 := ⟨RX9, TX9, 15, cls9, by decide, by decide +kernel, Or.inl (by rw [h]; exact iT_1 139 (by first | rfl | decide +kernel) (by decide +kernel))⟩
theorem fX4_94 {M : Mt} (h : M.1.cls = RX4) : FL M 94 9 7 := ⟨RX9, TX9, 15, cls9, by decide, Or.inl (by rw [h]; exact iT_1 140 (by first | rfl | decide +kernel) (by decide +kernel))⟩
theorem fwX4_94 {M : Mt} (h : M.1.cls = RX4) : FLW M 94 9 7 := ⟨RX9, TX9, 15, cls9, by decide, by decide +kernel, Or.inl (by rw [h]; exact iT_1 140 (by first | rfl | decide +kernel) (by decide +kernel))⟩
theorem fX0_114 {M : Mt} (h : M.1.cls = RX0) : FL M 114 9 7 := ⟨RX9, TX9, 15, cls9, by decide, Or.inl (by rw [h]; exact iT_1 141 (by first | rfl | decide +kernel) (by decide +kernel))⟩
theorem fwX0_114 {M : Mt} (h : M.1.cls = RX0) : FLW M 114 9 7 := ⟨RX9, TX9, 15, cls9, by decide, by decide +kernel, Or.inl (by rw [h]; exact iT_1 141 (by first | rfl | decide +kernel) (by decide +kernel))⟩
theorem fX11_316 {M : Mt} (h : M.1.cls = RX11) : FL M 316 9 7 := ⟨RX9, TX9, 15, cls9, by decide, Or.inl (by rw [h]; exact iT_1 142 (by first | rfl | decide +kernel) (by decide +kernel))⟩
theorem fwX11_316 {M : Mt} (h : M.1.cls = RX11) : FLW M 316 9 7 := ⟨RX9, TX9, 15, cls9, by decide, by decide +kernel, Or.inl (by rw [h]; exact iT_1 142 (by first | rfl | decide +kernel) (by decide +kernel))⟩
theorem fX9_43 {M : Mt} (h : M.1.cls = RX9) : FL M 43 9 8 := ⟨RX9, TX9, 15, cls9, by decide, Or.inl (by rw [h]; exact iT_1 143 (by first | rfl | decide +kernel) (by decide +kernel))⟩
theorem fwX9_43 {M : Mt} (h : M.1.cls = RX9) : FLW M 43 9 8 := ⟨RX9, TX9, 15, cls9, by decide, by decide +kernel, Or.inl (by rw [h]; exact iT_1 143 (by first | rfl | decide +kernel) (by decide +kernel))⟩
theorem fX5_59 {M : Mt} (h : M.1.cls = RX5) : FL M 59 9 8 := ⟨RX9, TX9, 15, cls9, by decide, Or.inl (by rw [h]; exact iT_1 144 (by first | rfl | decide +kernel) (by decide +kernel))⟩
theorem fwX5_59 {M : Mt} (h : M.1.cls = RX5) : FLW M 59 9 8 := ⟨RX9, TX9, 15, cls9, by decide, by decide +kernel, Or.inl (by rw [h]; exact iT_1 144 (by first | rfl | decide +kernel) (by decide +kernel))⟩
theorem fX4_101 {M : Mt} (h : M.1.cls = RX4) : FL M 101 9 8 := ⟨RX9, TX9, 15, cls9, by decide, Or.inl (by rw [h]; exact iT_1 145 (by first | rfl | decide +kernel) (by decide +kernel))⟩
theorem fwX4_101 {M : Mt} (h : M.1.cls = RX4) : FLW M 101 9 8 := ⟨RX9, TX9, 15, cls9, by decide, by decide +kernel, Or.inl (by rw [h]; exact iT_1 145 (by first | rfl | decide +kernel) (by decide +kernel))⟩
theorem fX9_46 {M : Mt} (h : M.1.cls = RX9) : FL M 46 9 9 := ⟨RX9, TX9, 15, cls9, by decide, Or.inl (by rw [h]; exact iT_1 146 (by first | rfl | decide +kernel) (by decide +kernel))⟩
theorem fwX9_46 {M : Mt} (h : M.1.cls = RX9) : FLW M 46 9 9 := ⟨RX9, TX9, 15, cls9, by decide, by decide +kernel, Or.inl (by rw [h]; exact iT_1 146 (by first | rfl | decide +kernel) (by decide +kernel))⟩
theorem fX5_62 {M : Mt} (h : M.1.cls = RX5) : FL M 62 9 9 := ⟨RX9, TX9, 15, cls9, by decide, Or.inl (by rw [h]; exact iT_1 147 (by first | rfl | decide +kernel) (by decide +kernel))⟩
theorem fwX5_62 {M : Mt} (h : M.1.cls = RX5) : FLW M 62 9 9 := ⟨RX9, TX9, 15, cls9, by decide, by decide +kernel, Or.inl (by rw [h]; exact iT_1 147 (by first | rfl | decide +kernel) (by decide +kernel))⟩
theorem fX4_104 {M : Mt} (h : M.1.cls = RX4) : FL M 104 9 9 := ⟨RX9, TX9, 15, cls9, by decide, Or.inl (by rw [h]; exact iT_1 148 (by first | rfl | decide +kernel) (by decide +kernel))⟩
theorem fwX4_104 {M : Mt} (h : M.1.cls = RX4) : FLW M 104 9 9 := ⟨RX9, TX9, 15, cls9, by decide, by decide +kernel, Or.inl (by rw [h]; exact iT_1 148 (by first | rfl | decide +kernel) (by decide +kernel))⟩
theorem fX9_49 {M : Mt} (h : M.1.cls = RX9) : FL M 49 9 10 := ⟨RX9, TX9, 15, cls9, by decide, Or.inl (by rw [h]; exact iT_1 149 (by first | rfl | decide +kernel) (by decide +kernel))⟩
theorem fwX9_49 {M : Mt} (h : M.1.cls = RX9) : FLW M 49 9 10 := ⟨RX9, TX9, 15, cls9, by decide, by decide +kernel, Or.inl (by rw [h]; exact iT_1 149 (by first | rfl | decide +kernel) (by decide +kernel))⟩
theorem fX4_62 {M : Mt} (h : M.1.cls = RX4) : FL M 62 9 10 := ⟨RX9, TX9, 15, cls9, by decide, Or.inl (by rw [h]; exact iT_1 150 (by first | rfl | decide +kernel) (by decide +kernel))⟩
theorem fwX4_62 {M : Mt} (h : M.1.cls = RX4) : FLW M 62 9 10 := ⟨RX9, TX9, 15, cls9, by decide, by decide +kernel, Or.inl (by rw [h]; exact iT_1 150 (by first | rfl | decide +kernel) (by decide +kernel))⟩
theorem fX11_103 {M : Mt} (h : M.1.cls = RX11) : FL M 103 9 10 := ⟨RX9, TX9, 15, cls9, by decide, Or.inl (by rw [h]; exact iT_1 151 (by first | rfl | decide +kernel) (by decide +kernel))⟩
theorem fwX11_103 {M : Mt} (h : M.1.cls = RX11) : FLW M 103 9 10 := ⟨RX9, TX9, 15, cls9, by decide, by decide +kernel, Or.inl (by rw [h]; exact iT_1 151 (by first | rfl | decide +kernel) (by decide +kernel))⟩
theorem fX9_52 {M : Mt} (h : M.1.cls = RX9) : FL M 52 9 11 := ⟨RX9, TX9, 15, cls9, by decide, Or.inl (by rw [h]; exact iT_1 152 (by first | rfl | decide +kernel) (by decide +kernel))⟩
theorem fwX9_52 {M : Mt} (h : M.1.cls = RX9) : FLW M 52 9 11 := ⟨RX9, TX9, 15, cls9, by decide, by decide +kernel, Or.inl (by rw [h]; exact iT_1 152 (by first | rfl | decide +kernel) (by decide +kernel))⟩
theorem fX4_219 {M : Mt} (h : M.1.cls = RX4) : FL M 219 9 11 := ⟨RX9, TX9, 15, cls9, by decide, Or.inl (by rw [h]; exact iT_1 153 (by first | rfl | decide +kernel) (by decide +kernel))⟩
theorem fwX4_219 {M : Mt} (h : M.1.cls = RX4) : FLW M 219 9 11 := ⟨RX9, TX9, 15, cls9, by decide, by decide +kernel, Or.inl (by rw [h]; exact iT_1 153 (by first | rfl | decide +kernel) (by decide +kernel))⟩
theorem fX11_360 {M : Mt} (h : M.1.cls = RX11) : FL M 360 9 11 := ⟨RX9, TX9, 15, cls9, by decide, Or.inl (by rw [h]; exact iT_1 154 (by first | rfl | decide +kernel) (by decide +kernel))⟩
theorem fwX11_360 {M : Mt} (h : M.1.cls = RX11) : FLW M 360 9 11 := ⟨RX9, TX9, 15, cls9, by decide, by decide +kernel, Or.inl (by rw [h]; exact iT_1 154 (by first | rfl | decide +kernel) (by decide +kernel))⟩
theorem fX9_58 {M : Mt} (h : M.1.cls = RX9) : FL M 58 9 12 := ⟨RX9, TX9, 15, cls9, by decide, Or.inl (by rw [h]; exact iT_1 155 (by first | rfl | decide +kernel) (by decide +kernel))⟩
theorem ffX9_58 {M : Mt} (h : M.1.cls = RX9) (hn : M.1.name = "<init>") : FLF M 58 9 12 := ⟨hn, RX9, TX9, 15, cls9, by decide, by decide +kernel, by rw [h]; decide +kernel, by rw [h]; exact iT_1 155 (by first | rfl | decide +kernel) (by decide +kernel)⟩
theorem fX0_206 {M : Mt} (h : M.1.cls = RX0) : FL M 206 9 12 := ⟨RX9, TX9, 15, cls9, by decide, Or.inl (by rw [h]; exact iT_1 156 (by first | rfl | decide +kernel) (by decide +kernel))⟩
theorem fX4_173 {M : Mt} (h : M.1.cls = RX4) : FL M 173 9 12 := ⟨RX9, TX9, 15, cls9, by decide, Or.inl (by rw [h]; exact iT_1 157 (by first | rfl | decide +kernel) (by decide +kernel))⟩
theorem fX9_62 {M : Mt} (h : M.1.cls = RX9) : FL M 62 9 13 := ⟨RX9, TX9, 15, cls9, by decide, Or.inl (by rw [h]; exact iT_1 158 (by first | rfl | decide +kernel) (by decide +kernel))⟩
theorem ffX9_62 {M : Mt} (h : M.1.cls = RX9) (hn : M.1.name = "<init>") : FLF M 62 9 13 := ⟨hn, RX9, TX9, 15, cls9, by decide, by decide +kernel, by rw [h]; decide +kernel, by rw [h]; exact iT_1 158 (by first | rfl | decide +kernel) (by decide +kernel)⟩
theorem fX0_220 {M : Mt} (h : M.1.cls = RX0) : FL M 220 9 13 := ⟨RX9, TX9, 15, cls9, by decide, Or.inl (by rw [h]; exact iT_1 159 (by first | rfl | decide +kernel) (by decide +kernel))⟩
theorem fX4_177 {M : Mt} (h : M.1.cls = RX4) : FL M 177 9 13 := ⟨RX9, TX9, 15, cls9, by decide, Or.inl (by rw [h]; exact iT_1 160 (by first | rfl | decide +kernel) (by decide +kernel))⟩
theorem fX9_65 {M : Mt} (h : M.1.cls = RX9) : FL M 65 9 14 := ⟨RX9, TX9, 15, cls9, by decide, Or.inl (by rw [h]; exact iT_1 161 (by first | rfl | decide +kernel) (by decide +kernel))⟩
theorem ffX9_65 {M : Mt} (h : M.1.cls = RX9) (hn : M.1.name = "<init>") : FLF M 65 9 14 := ⟨hn, RX9, TX9, 15, cls9, by decide, by decide +kernel, by rw [h]; decide +kernel, by rw [h]; exact iT_1 161 (by first | rfl | decide +kernel) (by decide +kernel)⟩
theorem fX0_223 {M : Mt} (h : M.1.cls = RX0) : FL M 223 9 14 := ⟨RX9, TX9, 15, cls9, by decide, Or.inl (by rw [h]; exact iT_1 162 (by first | rfl | decide +kernel) (by decide +kernel))⟩
theorem fX4_180 {M : Mt} (h : M.1.cls = RX4) : FL M 180 9 14 := ⟨RX9, TX9, 15, cls9, by decide, Or.inl (by rw [h]; exact iT_1 163 (by first | rfl | decide +kernel) (by decide +kernel))⟩
theorem lX11_26 {M : Mt} (h : M.1.cls = RX11) : LK M 26 mX4_init := Or.inr ⟨"GirlShots", by rw [h]; exact iTN_1 197 (by rfl) (by decide +kernel)⟩
theorem lX4_11 {M : Mt} (h : M.1.cls = RX4) : LK M 11 mX9_init := Or.inl (by rw [h]; exact iT_1 202 (by rfl) (by decide +kernel))
theorem lX4_27 {M : Mt} (h : M.1.cls = RX4) : LK M 27 mX8_init := Or.inl (by rw [h]; exact iT_1 205 (by rfl) (by decide +kernel))
theorem lX8_41 {M : Mt} (h : M.1.cls = RX8) : LK M 41 mJ0_length_8abf5 := Or.inl (by rw [h]; exact iT_1 210 (by rfl) (by decide +kernel))
theorem lJ0_335 {M : Mt} (h : M.1.cls = RJ0) : LK M 335 mJ0_coder_7d493 := Or.inl (by rw [h]; exact iT_1 214 (by rfl) (by decide +kernel))
theorem lX8_47 {M : Mt} (h : M.1.cls = RX8) : LK M 47 mJ0_charAt_5068e := Or.inl (by rw [h]; exact iT_1 220 (by rfl) (by decide +kernel))
theorem lJ0_492 {M : Mt} (h : M.1.cls = RJ0) : LK M 492 mJ0_isLatin1_aae02 := Or.inl (by rw [h]; exact iT_1 224 (by rfl) (by decide +kernel))
theorem lJ0_495 {M : Mt} (h : M.1.cls = RJ0) : LK M 495 mJ1_charAt_3b067 := Or.inl (by rw [h]; exact iT_1 228 (by rfl) (by decide +kernel))
theorem lJ1_9 {M : Mt} (h : M.1.cls = RJ1) : LK M 9 mJ0_checkIndex_df160 := Or.inl (by rw [h]; exact iT_1 231 (by rfl) (by decide +kernel))
theorem lJ0_1059 {M : Mt} (h : M.1.cls = RJ0) : LK M 1059 mJ3_checkIndex_8e157 := Or.inl (by rw [h]; exact iT_1 236 (by rfl) (by decide +kernel))
theorem lJ0_498 {M : Mt} (h : M.1.cls = RJ0) : LK M 498 mJ2_charAt_3b067 := Or.inl (by rw [h]; exact iT_1 239 (by rfl) (by decide +kernel))
theorem lJ2_67 {M : Mt} (h : M.1.cls = RJ2) : LK M 67 mJ2_checkIndex_2214a := Or.inl (by rw [h]; exact iT_2 2 (by rfl) (by decide +kernel))
theorem lJ2_48 {M : Mt} (h : M.1.cls = RJ2) : LK M 48 mJ2_length_9d52b := Or.inl (by rw [h]; exact iT_2 5 (by rfl) (by decide +kernel))
theorem lJ2_414 {M : Mt} (h : M.1.cls = RJ2) : LK M 414 mJ0_checkIndex_df160 := Or.inl (by rw [h]; exact iT_2 8 (by rfl) (by decide +kernel))
theorem lJ2_71 {M : Mt} (h : M.1.cls = RJ2) : LK M 71 mJ2_getChar_3b067 := Or.inl (by rw [h]; exact iT_2 9 (by rfl) (by decide +kernel))
theorem lX8_51 {M : Mt} (h : M.1.cls = RX8) : LK M 51 mX11_at := Or.inr ⟨"GirlShots", by rw [h]; exact iTN_2 18 (by rfl) (by decide +kernel)⟩
theorem lX8_55 {M : Mt} (h : M.1.cls = RX8) : LK M 55 mX8_packed := Or.inl (by rw [h]; exact iT_2 21 (by rfl) (by decide +kernel))
theorem lX8_59 {M : Mt} (h : M.1.cls = RX8) : LK M 59 mX11_put := Or.inr ⟨"GirlShots", by rw [h]; exact iTN_2 24 (by rfl) (by decide +kernel)⟩
theorem fX8_11 {M : Mt} (h : M.1.cls = RX8) : FL M 11 8 0 := ⟨RX8, TX8, 8, cls8, by decide, Or.inl (by rw [h]; exact iT_2 27 (by first | rfl | decide +kernel) (by decide +kernel))⟩
theorem ffX8_11 {M : Mt} (h : M.1.cls = RX8) (hn : M.1.name = "<init>") : FLF M 11 8 0 := ⟨hn, RX8, TX8, 8, cls8, by decide, by decide +kernel, by rw [h]; decide +kernel, by rw [h]; exact iT_2 27 (by first | rfl | decide +kernel) (by decide +kernel)⟩
theorem fX8_15 {M : Mt} (h : M.1.cls = RX8) : FL M 15 8 1 := ⟨RX8, TX8, 8, cls8, by decide, Or.inl (by rw [h]; exact iT_2 28 (by first | rfl | decide +kernel) (by decide +kernel))⟩
theorem fwX8_15 {M : Mt} (h : M.1.cls = RX8) : FLW M 15 8 1 := ⟨RX8, TX8, 8, cls8, by decide, by decide +kernel, Or.inl (by rw [h]; exact iT_2 28 (by first | rfl | decide +kernel) (by decide +kernel))⟩
theorem fX8_19 {M : Mt} (h : M.1.cls = RX8) : FL M 19 8 2 := ⟨RX8, TX8, 8, cls8, by decide, Or.inl (by rw [h]; exact iT_2 29 (by first | rfl | decide +kernel) (by decide +kernel))⟩
theorem fwX8_19 {M : Mt} (h : M.1.cls = RX8) : FLW M 19 8 2 := ⟨RX8, TX8, 8, cls8, by decide, by decide +kernel, Or.inl (by rw [h]; exact iT_2 29 (by first | rfl | decide +kernel) (by decide +kernel))⟩
theorem fX8_23 {M : Mt} (h : M.1.cls = RX8) : FL M 23 8 3 := ⟨RX8, TX8, 8, cls8, by decide, Or.inl (by rw [h]; exact iT_2 30 (by first | rfl | decide +kernel) (by decide +kernel))⟩
theorem fwX8_23 {M : Mt} (h : M.1.cls = RX8) : FLW M 23 8 3 := ⟨RX8, TX8, 8, cls8, by decide, by decide +kernel, Or.inl (by rw [h]; exact iT_2 30 (by first | rfl | decide +kernel) (by decide +kernel))⟩
theorem fX8_26 {M : Mt} (h : M.1.cls = RX8) : FL M 26 8 4 := ⟨RX8, TX8, 8, cls8, by decide, Or.inl (by rw [h]; exact iT_2 31 (by first | rfl | decide +kernel) (by decide +kernel))⟩
theorem fwX8_26 {M : Mt} (h : M.1.cls = RX8) : FLW M 26 8 4 := ⟨RX8, TX8, 8, cls8, by decide, by decide +kernel, Or.inl (by rw [h]; exact iT_2 31 (by first | rfl | decide +kernel) (by decide +kernel))⟩
theorem fX4_72 {M : Mt} (h : M.1.cls = RX4) : FL M 72 8 4 := ⟨RX8, TX8, 8, cls8, by decide, Or.inl (by rw [h]; exact iT_2 32 (by first | rfl | decide +kernel) (by decide +kernel))⟩
theorem fwX4_72 {M : Mt} (h : M.1.cls = RX4) : FLW M 72 8 4 := ⟨RX8, TX8, 8, cls8, by decide, by decide +kernel, Or.inl (by rw [h]; exact iT_2 32 (by first | rfl | decide +kernel) (by decide +kernel))⟩
theorem fX8_30 {M : Mt} (h : M.1.cls = RX8) : FL M 30 8 5 := ⟨RX8, TX8, 8, cls8, by decide, Or.inl (by rw [h]; exact iT_2 33 (by first | rfl | decide +kernel) (by decide +kernel))⟩
theorem fwX8_30 {M : Mt} (h : M.1.cls = RX8) : FLW M 30 8 5 := ⟨RX8, TX8, 8, cls8, by decide, by decide +kernel, Or.inl (by rw [h]; exact iT_2 33 (by first | rfl | decide +kernel) (by decide +kernel))⟩
theorem fX4_52 {M : Mt} (h : M.1.cls = RX4) : FL M 52 8 5 := ⟨RX8, TX8, 8, cls8, by decide, Or.inl (by rw [h]; exact iT_2 34 (by first | rfl | decide +kernel) (by decide +kernel))⟩
theorem fwX4_52 {M : Mt} (h : M.1.cls = RX4) : FLW M 52 8 5 := ⟨RX8, TX8, 8, cls8, by decide, by decide +kernel, Or.inl (by rw [h]; exact iT_2 34 (by first | rfl | decide +kernel) (by decide +kernel))⟩
theorem fX8_33 {M : Mt} (h : M.1.cls = RX8) : FL M 33 8 6 := ⟨RX8, TX8, 8, cls8, by decide, Or.inl (by rw [h]; exact iT_2 35 (by first | rfl | decide +kernel) (by decide +kernel))⟩
theorem fwX8_33 {M : Mt} (h : M.1.cls = RX8) : FLW M 33 8 6 := ⟨RX8, TX8, 8, cls8, by decide, by decide +kernel, Or.inl (by rw [h]; exact iT_2 35 (by first | rfl | decide +kernel) (by decide +kernel))⟩
theorem fX4_167 {M : Mt} (h : M.1.cls = RX4) : FL M 167 8 6 := ⟨RX8, TX8, 8, cls8, by decide, Or.inl (by rw [h]; exact iT_2 36 (by first | rfl | decide +kernel) (by decide +kernel))⟩
theorem fwX4_167 {M : Mt} (h : M.1.cls = RX4) : FLW M 167 8 6 := ⟨RX8, TX8, 8, cls8, by decide, by decide +kernel, Or.inl (by rw [h]; exact iT_2 36 (by first | rfl | decide +kernel) (by decide +kernel))⟩
theorem fX8_36 {M : Mt} (h : M.1.cls = RX8) : FL M 36 8 7 := ⟨RX8, TX8, 8, cls8, by decide, Or.inl (by rw [h]; exact iT_2 37 (by first | rfl | decide +kernel) (by decide +kernel))⟩
theorem fwX8_36 {M : Mt} (h : M.1.cls = RX8) : FLW M 36 8 7 := ⟨RX8, TX8, 8, cls8, by decide, by decide +kernel, Or.inl (by rw [h]; exact iT_2 37 (by first | rfl | decide +kernel) (by decide +kernel))⟩
theorem fX4_71 {M : Mt} (h : M.1.cls = RX4) : FL M 71 8 7 := ⟨RX8, TX8, 8, cls8, by decide, Or.inl (by rw [h]; exact iT_2 38 (by first | rfl | decide +kernel) (by decide +kernel))⟩
theorem fwX4_71 {M : Mt} (h : M.1.cls = RX4) : FLW M 71 8 7 := ⟨RX8, TX8, 8, cls8, by decide, by decide +kernel, Or.inl (by rw [h]; exact iT_2 38 (by first | rfl | decide +kernel) (by decide +kernel))⟩
theorem fX4_12 {M : Mt} (h : M.1.cls = RX4) : FL M 12 4 0 := ⟨RX4, TX4, 8, cls4, by decide, Or.inl (by rw [h]; exact iT_2 56 (by first | rfl | decide +kernel) (by decide +kernel))⟩
theorem ffX4_12 {M : Mt} (h : M.1.cls = RX4) (hn : M.1.name = "<init>") : FLF M 12 4 0 := ⟨hn, RX4, TX4, 8, cls4, by decide, by decide +kernel, by rw [h]; decide +kernel, by rw [h]; exact iT_2 56 (by first | rfl | decide +kernel) (by decide +kernel)⟩
theorem fX11_93 {M : Mt} (h : M.1.cls = RX11) : FL M 93 4 0 := ⟨RX4, TX4, 8, cls4, by decide, Or.inl (by rw [h]; exact iT_2 57 (by first | rfl | decide +kernel) (by decide +kernel))⟩
theorem fX4_18 {M : Mt} (h : M.1.cls = RX4) : FL M 18 4 1 := ⟨RX4, TX4, 8, cls4, by decide, Or.inl (by rw [h]; exact iT_2 58 (by first | rfl | decide +kernel) (by decide +kernel))⟩
theorem fwX4_18 {M : Mt} (h : M.1.cls = RX4) : FLW M 18 4 1 := ⟨RX4, TX4, 8, cls4, by decide, by decide +kernel, Or.inl (by rw [h]; exact iT_2 58 (by first | rfl | decide +kernel) (by decide +kernel))⟩
theorem fX11_106 {M : Mt} (h : M.1.cls = RX11) : FL M 106 4 1 := ⟨RX4, TX4, 8, cls4, by decide, Or.inl (by rw [h]; exact iT_2 59 (by first | rfl | decide +kernel) (by decide +kernel))⟩
theorem fwX11_106 {M : Mt} (h : M.1.cls = RX11) : FLW M 106 4 1 := ⟨RX4, TX4, 8, cls4, by decide, by decide +kernel, Or.inl (by rw [h]; exact iT_2 59 (by first | rfl | decide +kernel) (by decide +kernel))⟩
theorem fX4_22 {M : Mt} (h : M.1.cls = RX4) : FL M 22 4 2 := ⟨RX4, TX4, 8, cls4, by decide, Or.inl (by rw [h]; exact iT_2 60 (by first | rfl | decide +kernel) (by decide +kernel))⟩
theorem fwX4_22 {M : Mt} (h : M.1.cls = RX4) : FLW M 22 4 2 := ⟨RX4, TX4, 8, cls4, by decide, by decide +kernel, Or.inl (by rw [h]; exact iT_2 60 (by first | rfl | decide +kernel) (by decide +kernel))⟩
theorem fX11_109 {M : Mt} (h : M.1.cls = RX11) : FL M 109 4 2 := ⟨RX4, TX4, 8, cls4, by decide, Or.inl (by rw [h]; exact iT_2 61 (by first | rfl | decide +kernel) (by decide +kernel))⟩
theorem fwX11_109 {M : Mt} (h : M.1.cls = RX11) : FLW M 109 4 2 := ⟨RX4, TX4, 8, cls4, by decide, by decide +kernel, Or.inl (by rw [h]; exact iT_2 61 (by first | rfl | decide +kernel) (by decide +kernel))⟩
theorem fX4_28 {M : Mt} (h : M.1.cls = RX4) : FL M 28 4 3 := ⟨RX4, TX4, 8, cls4, by decide, Or.inl (by rw [h]; exact iT_2 62 (by first | rfl | decide +kernel) (by decide +kernel))⟩
theorem ffX4_28 {M : Mt} (h : M.1.cls = RX4) (hn : M.1.name = "<init>") : FLF M 28 4 3 := ⟨hn, RX4, TX4, 8, cls4, by decide, by decide +kernel, by rw [h]; decide +kernel, by rw [h]; exact iT_2 62 (by first | rfl | decide +kernel) (by decide +kernel)⟩
theorem fX4_32 {M : Mt} (h : M.1.cls = RX4) : FL M 32 4 4 := ⟨RX4, TX4, 8, cls4, by decide, Or.inl (by rw [h]; exact iT_2 63 (by first | rfl | decide +kernel) (by decide +kernel))⟩
theorem ffX4_32 {M : Mt} (h : M.1.cls = RX4) (hn : M.1.name = "<init>") : FLF M 32 4 4 := ⟨hn, RX4, TX4, 8, cls4, by decide, by decide +kernel, by rw [h]; decide +kernel, by rw [h]; exact iT_2 63 (by first | rfl | decide +kernel) (by decide +kernel)⟩
theorem fX4_36 {M : Mt} (h : M.1.cls = RX4) : FL M 36 4 5 := ⟨RX4, TX4, 8, cls4, by decide, Or.inl (by rw [h]; exact iT_2 64 (by first | rfl | decide +kernel) (by decide +kernel))⟩
theorem ffX4_36 {M : Mt} (h : M.1.cls = RX4) (hn : M.1.name = "<init>") : FLF M 36 4 5 := ⟨hn, RX4, TX4, 8, cls4, by decide, by decide +kernel, by rw [h]; decide +kernel, by rw [h]; exact iT_2 64 (by first | rfl | decide +kernel) (by decide +kernel)⟩
theorem fX4_39 {M : Mt} (h : M.1.cls = RX4) : FL M 39 4 6 := ⟨RX4, TX4, 8, cls4, by decide, Or.inl (by rw [h]; exact iT_2 65 (by first | rfl | decide +kernel) (by decide +kernel))⟩
theorem fwX4_39 {M : Mt} (h : M.1.cls = RX4) : FLW M 39 4 6 := ⟨RX4, TX4, 8, cls4, by decide, by decide +kernel, Or.inl (by rw [h]; exact iT_2 65 (by first | rfl | decide +kernel) (by decide +kernel))⟩
theorem fX4_42 {M : Mt} (h : M.1.cls = RX4) : FL M 42 4 7 := ⟨RX4, TX4, 8, cls4, by decide, Or.inl (by rw [h]; exact iT_2 66 (by first | rfl | decide +kernel) (by decide +kernel))⟩
theorem fwX4_42 {M : Mt} (h : M.1.cls = RX4) : FLW M 42 4 7 := ⟨RX4, TX4, 8, cls4, by decide, by decide +kernel, Or.inl (by rw [h]; exact iT_2 66 (by first | rfl | decide +kernel) (by decide +kernel))⟩
theorem lX11_33 {M : Mt} (h : M.1.cls = RX11) : LK M 33 mX5_init := Or.inr ⟨"GirlShots", by rw [h]; exact iTN_2 86 (by rfl) (by decide +kernel)⟩
theorem fX5_9 {M : Mt} (h : M.1.cls = RX5) : FL M 9 5 0 := ⟨RX5, TX5, 15, cls5, by decide, Or.inl (by rw [h]; exact iT_2 90 (by first | rfl | decide +kernel) (by decide +kernel))⟩
theorem fwX5_9 {M : Mt} (h : M.1.cls = RX5) : FLW M 9 5 0 := ⟨RX5, TX5, 15, cls5, by decide, by decide +kernel, Or.inl (by rw [h]; exact iT_2 90 (by first | rfl | decide +kernel) (by decide +kernel))⟩
theorem fX0_93 {M : Mt} (h : M.1.cls = RX0) : FL M 93 5 0 := ⟨RX5, TX5, 15, cls5, by decide, Or.inl (by rw [h]; exact iT_2 91 (by first | rfl | decide +kernel) (by decide +kernel))⟩
theorem fwX0_93 {M : Mt} (h : M.1.cls = RX0) : FLW M 93 5 0 := ⟨RX5, TX5, 15, cls5, by decide, by decide +kernel, Or.inl (by rw [h]; exact iT_2 91 (by first | rfl | decide +kernel) (by decide +kernel))⟩
theorem fX3_45 {M : Mt} (h : M.1.cls = RX3) : FL M 45 5 0 := ⟨RX5, TX5, 15, cls5, by decide, Or.inl (by rw [h]; exact iT_2 92 (by first | rfl | decide +kernel) (by decide +kernel))⟩
theorem fwX3_45 {M : Mt} (h : M.1.cls = RX3) : FLW M 45 5 0 := ⟨RX5, TX5, 15, cls5, by decide, by decide +kernel, Or.inl (by rw [h]; exact iT_2 92 (by first | rfl | decide +kernel) (by decide +kernel))⟩
theorem fX11_219 {M : Mt} (h : M.1.cls = RX11) : FL M 219 5 0 := ⟨RX5, TX5, 15, cls5, by decide, Or.inl (by rw [h]; exact iT_2 93 (by first | rfl | decide +kernel) (by decide +kernel))⟩
theorem fwX11_219 {M : Mt} (h : M.1.cls = RX11) : FLW M 219 5 0 := ⟨RX5, TX5, 15, cls5, by decide, by decide +kernel, Or.inl (by rw [h]; exact iT_2 93 (by first | rfl | decide +kernel) (by decide +kernel))⟩
theorem fX5_15 {M : Mt} (h : M.1.cls = RX5) : FL M 15 5 1 := ⟨RX5, TX5, 15, cls5, by decide, Or.inl (by rw [h]; exact iT_2 94 (by first | rfl | decide +kernel) (by decide +kernel))⟩
theorem fwX5_15 {M : Mt} (h : M.1.cls = RX5) : FLW M 15 5 1 := ⟨RX5, TX5, 15, cls5, by decide, by decide +kernel, Or.inl (by rw [h]; exact iT_2 94 (by first | rfl | decide +kernel) (by decide +kernel))⟩
theorem fX0_194 {M : Mt} (h : M.1.cls = RX0) : FL M 194 5 1 := ⟨RX5, TX5, 15, cls5, by decide, Or.inl (by rw [h]; exact iT_2 95 (by first | rfl | decide +kernel) (by decide +kernel))⟩
theorem fwX0_194 {M : Mt} (h : M.1.cls = RX0) : FLW M 194 5 1 := ⟨RX5, TX5, 15, cls5, by decide, by decide +kernel, Or.inl (by rw [h]; exact iT_2 95 (by first | rfl | decide +kernel) (by decide +kernel))⟩
theorem fX11_247 {M : Mt} (h : M.1.cls = RX11) : FL M 247 5 1 := ⟨RX5, TX5, 15, cls5, by decide, Or.inl (by rw [h]; exact iT_2 96 (by first | rfl | decide +kernel) (by decide +kernel))⟩
theorem fwX11_247 {M : Mt} (h : M.1.cls = RX11) : FLW M 247 5 1 := ⟨RX5, TX5, 15, cls5, by decide, by decide +kernel, Or.inl (by rw [h]; exact iT_2 96 (by first | rfl | decide +kernel) (by decide +kernel))⟩
theorem fX5_18 {M : Mt} (h : M.1.cls = RX5) : FL M 18 5 2 := ⟨RX5, TX5, 15, cls5, by decide, Or.inl (by rw [h]; exact iT_2 97 (by first | rfl | decide +kernel) (by decide +kernel))⟩
theorem fwX5_18 {M : Mt} (h : M.1.cls = RX5) : FLW M 18 5 2 := ⟨RX5, TX5, 15, cls5, by decide, by decide +kernel, Or.inl (by rw [h]; exact iT_2 97 (by first | rfl | decide +kernel) (by decide +kernel))⟩
theorem fX0_145 {M : Mt} (h : M.1.cls = RX0) : FL M 145 5 2 := ⟨RX5, TX5, 15, cls5, by decide, Or.inl (by rw [h]; exact iT_2 98 (by first | rfl | decide +kernel) (by decide +kernel))⟩
theorem fwX0_145 {M : Mt} (h : M.1.cls = RX0) : FLW M 145 5 2 := ⟨RX5, TX5, 15, cls5, by decide, by decide +kernel, Or.inl (by rw [h]; exact iT_2 98 (by first | rfl | decide +kernel) (by decide +kernel))⟩
theorem fX11_241 {M : Mt} (h : M.1.cls = RX11) : FL M 241 5 2 := ⟨RX5, TX5, 15, cls5, by decide, Or.inl (by rw [h]; exact iT_2 99 (by first | rfl | decide +kernel) (by decide +kernel))⟩
theorem fwX11_241 {M : Mt} (h : M.1.cls = RX11) : FLW M 241 5 2 := ⟨RX5, TX5, 15, cls5, by decide, by decide +kernel, Or.inl (by rw [h]; exact iT_2 99 (by first | rfl | decide +kernel) (by decide +kernel))⟩
theorem fX5_21 {M : Mt} (h : M.1.cls = RX5) : FL M 21 5 3 := ⟨RX5, TX5, 15, cls5, by decide, Or.inl (by rw [h]; exact iT_2 100 (by first | rfl | decide +kernel) (by decide +kernel))⟩
theorem fwX5_21 {M : Mt} (h : M.1.cls = RX5) : FLW M 21 5 3 := ⟨RX5, TX5, 15, cls5, by decide, by decide +kernel, Or.inl (by rw [h]; exact iT_2 100 (by first | rfl | decide +kernel) (by decide +kernel))⟩
theorem fX0_200 {M : Mt} (h : M.1.cls = RX0) : FL M 200 5 3 := ⟨RX5, TX5, 15, cls5, by decide, Or.inl (by rw [h]; exact iT_2 101 (by first | rfl | decide +kernel) (by decide +kernel))⟩
theorem fwX0_200 {M : Mt} (h : M.1.cls = RX0) : FLW M 200 5 3 := ⟨RX5, TX5, 15, cls5, by decide, by decide +kernel, Or.inl (by rw [h]; exact iT_2 101 (by first | rfl | decide +kernel) (by decide +kernel))⟩
theorem fX11_244 {M : Mt} (h : M.1.cls = RX11) : FL M 244 5 3 := ⟨RX5, TX5, 15, cls5, by decide, Or.inl (by rw [h]; exact iT_2 102 (by first | rfl | decide +kernel) (by decide +kernel))⟩
theorem fwX11_244 {M : Mt} (h : M.1.cls = RX11) : FLW M 244 5 3 := ⟨RX5, TX5, 15, cls5, by decide, by decide +kernel, Or.inl (by rw [h]; exact iT_2 102 (by first | rfl | decide +kernel) (by decide +kernel))⟩
theorem fX5_24 {M : Mt} (h : M.1.cls = RX5) : FL M 24 5 4 := ⟨RX5, TX5, 15, cls5, by decide, Or.inl (by rw [h]; exact iT_2 103 (by first | rfl | decide +kernel) (by decide +kernel))⟩
theorem fwX5_24 {M : Mt} (h : M.1.cls = RX5) : FLW M 24 5 4 := ⟨RX5, TX5, 15, cls5, by decide, by decide +kernel, Or.inl (by rw [h]; exact iT_2 103 (by first | rfl | decide +kernel) (by decide +kernel))⟩
theorem fX0_71 {M : Mt} (h : M.1.cls = RX0) : FL M 71 5 4 := ⟨RX5, TX5, 15, cls5, by decide, Or.inl (by rw [h]; exact iT_2 104 (by first | rfl | decide +kernel) (by decide +kernel))⟩
theorem fwX0_71 {M : Mt} (h : M.1.cls = RX0) : FLW M 71 5 4 := ⟨RX5, TX5, 15, cls5, by decide, by decide +kernel, Or.inl (by rw [h]; exact iT_2 104 (by first | rfl | decide +kernel) (by decide +kernel))⟩
theorem fX11_363 {M : Mt} (h : M.1.cls = RX11) : FL M 363 5 4 := ⟨RX5, TX5, 15, cls5, by decide, Or.inl (by rw [h]; exact iT_2 105 (by first | rfl | decide +kernel) (by decide +kernel))⟩
theorem fwX11_363 {M : Mt} (h : M.1.cls = RX11) : FLW M 363 5 4 := ⟨RX5, TX5, 15, cls5, by decide, by decide +kernel, Or.inl (by rw [h]; exact iT_2 105 (by first | rfl | decide +kernel) (by decide +kernel))⟩
theorem fX5_27 {M : Mt} (h : M.1.cls = RX5) : FL M 27 5 5 := ⟨RX5, TX5, 15, cls5, by decide, Or.inl (by rw [h]; exact iT_2 106 (by first | rfl | decide +kernel) (by decide +kernel))⟩
theorem fwX5_27 {M : Mt} (h : M.1.cls = RX5) : FLW M 27 5 5 := ⟨RX5, TX5, 15, cls5, by decide, by decide +kernel, Or.inl (by rw [h]; exact iT_2 106 (by first | rfl | decide +kernel) (by decide +kernel))⟩
theorem fX0_74 {M : Mt} (h : M.1.cls = RX0) : FL M 74 5 5 := ⟨RX5, TX5, 15, cls5, by decide, Or.inl (by rw [h]; exact iT_2 107 (by first | rfl | decide +kernel) (by decide +kernel))⟩
theorem fwX0_74 {M : Mt} (h : M.1.cls = RX0) : FLW M 74 5 5 := ⟨RX5, TX5, 15, cls5, by decide, by decide +kernel, Or.inl (by rw [h]; exact iT_2 107 (by first | rfl | decide +kernel) (by decide +kernel))⟩
theorem fX5_30 {M : Mt} (h : M.1.cls = RX5) : FL M 30 5 6 := ⟨RX5, TX5, 15, cls5, by decide, Or.inl (by rw [h]; exact iT_2 108 (by first | rfl | decide +kernel) (by decide +kernel))⟩
theorem fwX5_30 {M : Mt} (h : M.1.cls = RX5) : FLW M 30 5 6 := ⟨RX5, TX5, 15, cls5, by decide, by decide +kernel, Or.inl (by rw [h]; exact iT_2 108 (by first | rfl | decide +kernel) (by decide +kernel))⟩
theorem fX0_117 {M : Mt} (h : M.1.cls = RX0) : FL M 117 5 6 := ⟨RX5, TX5, 15, cls5, by decide, Or.inl (by rw [h]; exact iT_2 109 (by first | rfl | decide +kernel) (by decide +kernel))⟩
theorem fwX0_117 {M : Mt} (h : M.1.cls = RX0) : FLW M 117 5 6 := ⟨RX5, TX5, 15, cls5, by decide, by decide +kernel, Or.inl (by rw [h]; exact iT_2 109 (by first | rfl | decide +kernel) (by decide +kernel))⟩
theorem fX11_348 {M : Mt} (h : M.1.cls = RX11) : FL M 348 5 6 := ⟨RX5, TX5, 15, cls5, by decide, Or.inl (by rw [h]; exact iT_2 110 (by first | rfl | decide +kernel) (by decide +kernel))⟩
theorem fwX11_348 {M : Mt} (h : M.1.cls = RX11) : FLW M 348 5 6 := ⟨RX5, TX5, 15, cls5, by decide, by decide +kernel, Or.inl (by rw [h]; exact iT_2 110 (by first | rfl | decide +kernel) (by decide +kernel))⟩
theorem fX5_34 {M : Mt} (h : M.1.cls = RX5) : FL M 34 5 7 := ⟨RX5, TX5, 15, cls5, by decide, Or.inl (by rw [h]; exact iT_2 111 (by first | rfl | decide +kernel) (by decide +kernel))⟩
theorem ffX5_34 {M : Mt} (h : M.1.cls = RX5) (hn : M.1.name = "<init>") : FLF M 34 5 7 := ⟨hn, RX5, TX5, 15, cls5, by decide, by decide +kernel, by rw [h]; decide +kernel, by rw [h]; exact iT_2 111 (by first | rfl | decide +kernel) (by decide +kernel)⟩
theorem fX10_44 {M : Mt} (h : M.1.cls = RX10) : FL M 44 5 7 := ⟨RX5, TX5, 15, cls5, by decide, Or.inl (by rw [h]; exact iT_2 112 (by first | rfl | decide +kernel) (by decide +kernel))⟩
theorem fX0_90 {M : Mt} (h : M.1.cls = RX0) : FL M 90 5 7 := ⟨RX5, TX5, 15, cls5, by decide, Or.inl (by rw [h]; exact iT_2 113 (by first | rfl | decide +kernel) (by decide +kernel))⟩
theorem fX3_42 {M : Mt} (h : M.1.cls = RX3) : FL M 42 5 7 := ⟨RX5, TX5, 15, cls5, by decide, Or.inl (by rw [h]; exact iT_2 114 (by first | rfl | decide +kernel) (by decide +kernel))⟩
theorem fX11_168 {M : Mt} (h : M.1.cls = RX11) : FL M 168 5 7 := ⟨RX5, TX5, 15, cls5, by decide, Or.inl (by rw [h]; exact iT_2 115 (by first | rfl | decide +kernel) (by decide +kernel))⟩
theorem fX5_38 {M : Mt} (h : M.1.cls = RX5) : FL M 38 5 8 := ⟨RX5, TX5, 15, cls5, by decide, Or.inl (by rw [h]; exact iT_2 116 (by first | rfl | decide +kernel) (by decide +kernel))⟩
theorem ffX5_38 {M : Mt} (h : M.1.cls = RX5) (hn : M.1.name = "<init>") : FLF M 38 5 8 := ⟨hn, RX5, TX5, 15, cls5, by decide, by decide +kernel, by rw [h]; decide +kernel, by rw [h]; exact iT_2 116 (by first | rfl | decide +kernel) (by decide +kernel)⟩
theorem fX3_25 {M : Mt} (h : M.1.cls = RX3) : FL M 25 5 8 := ⟨RX5, TX5, 15, cls5, by decide, Or.inl (by rw [h]; exact iT_2 117 (by first | rfl | decide +kernel) (by decide +kernel))⟩
theorem fX2_52 {M : Mt} (h : M.1.cls = RX2) : FL M 52 5 8 := ⟨RX5, TX5, 15, cls5, by decide, Or.inl (by rw [h]; exact iT_2 118 (by first | rfl | decide +kernel) (by decide +kernel))⟩
theorem fX0_83 {M : Mt} (h : M.1.cls = RX0) : FL M 83 5 8 := ⟨RX5, TX5, 15, cls5, by decide, Or.inl (by rw [h]; exact iT_2 119 (by first | rfl | decide +kernel) (by decide +kernel))⟩
theorem fX11_171 {M : Mt} (h : M.1.cls = RX11) : FL M 171 5 8 := ⟨RX5, TX5, 15, cls5, by decide, Or.inl (by rw [h]; exact iT_2 120 (by first | rfl | decide +kernel) (by decide +kernel))⟩
theorem fX5_41 {M : Mt} (h : M.1.cls = RX5) : FL M 41 5 9 := ⟨RX5, TX5, 15, cls5, by decide, Or.inl (by rw [h]; exact iT_2 121 (by first | rfl | decide +kernel) (by decide +kernel))⟩
theorem ffX5_41 {M : Mt} (h : M.1.cls = RX5) (hn : M.1.name = "<init>") : FLF M 41 5 9 := ⟨hn, RX5, TX5, 15, cls5, by decide, by decide +kernel, by rw [h]; decide +kernel, by rw [h]; exact iT_2 121 (by first | rfl | decide +kernel) (by decide +kernel)⟩
theorem fX11_177 {M : Mt} (h : M.1.cls = RX11) : FL M 177 5 9 := ⟨RX5, TX5, 15, cls5, by decide, Or.inl (by rw [h]; exact iT_2 122 (by first | rfl | decide +kernel) (by decide +kernel))⟩
theorem fX0_203 {M : Mt} (h : M.1.cls = RX0) : FL M 203 5 9 := ⟨RX5, TX5, 15, cls5, by decide, Or.inl (by rw [h]; exact iT_2 123 (by first | rfl | decide +kernel) (by decide +kernel))⟩
theorem fX5_44 {M : Mt} (h : M.1.cls = RX5) : FL M 44 5 10 := ⟨RX5, TX5, 15, cls5, by decide, Or.inl (by rw [h]; exact iT_2 124 (by first | rfl | decide +kernel) (by decide +kernel))⟩
theorem ffX5_44 {M : Mt} (h : M.1.cls = RX5) (hn : M.1.name = "<init>") : FLF M 44 5 10 := ⟨hn, RX5, TX5, 15, cls5, by decide, by decide +kernel, by rw [h]; decide +kernel, by rw [h]; exact iT_2 124 (by first | rfl | decide +kernel) (by decide +kernel)⟩
theorem fX0_142 {M : Mt} (h : M.1.cls = RX0) : FL M 142 5 10 := ⟨RX5, TX5, 15, cls5, by decide, Or.inl (by rw [h]; exact iT_2 125 (by first | rfl | decide +kernel) (by decide +kernel))⟩
theorem fX5_47 {M : Mt} (h : M.1.cls = RX5) : FL M 47 5 11 := ⟨RX5, TX5, 15, cls5, by decide, Or.inl (by rw [h]; exact iT_2 126 (by first | rfl | decide +kernel) (by decide +kernel))⟩
theorem ffX5_47 {M : Mt} (h : M.1.cls = RX5) (hn : M.1.name = "<init>") : FLF M 47 5 11 := ⟨hn, RX5, TX5, 15, cls5, by decide, by decide +kernel, by rw [h]; decide +kernel, by rw [h]; exact iT_2 126 (by first | rfl | decide +kernel) (by decide +kernel)⟩
theorem fX10_47 {M : Mt} (h : M.1.cls = RX10) : FL M 47 5 11 := ⟨RX5, TX5, 15, cls5, by decide, Or.inl (by rw [h]; exact iT_2 127 (by first | rfl | decide +kernel) (by decide +kernel))⟩
theorem fX0_139 {M : Mt} (h : M.1.cls = RX0) : FL M 139 5 11 := ⟨RX5, TX5, 15, cls5, by decide, Or.inl (by rw [h]; exact iT_2 128 (by first | rfl | decide +kernel) (by decide +kernel))⟩
theorem fX11_153 {M : Mt} (h : M.1.cls = RX11) : FL M 153 5 11 := ⟨RX5, TX5, 15, cls5, by decide, Or.inl (by rw [h]; exact iT_2 129 (by first | rfl | decide +kernel) (by decide +kernel))⟩
theorem fX5_50 {M : Mt} (h : M.1.cls = RX5) : FL M 50 5 12 := ⟨RX5, TX5, 15, cls5, by decide, Or.inl (by rw [h]; exact iT_2 130 (by first | rfl | decide +kernel) (by decide +kernel))⟩
theorem ffX5_50 {M : Mt} (h : M.1.cls = RX5) (hn : M.1.name = "<init>") : FLF M 50 5 12 := ⟨hn, RX5, TX5, 15, cls5, by decide, by decide +kernel, by rw [h]; decide +kernel, by rw [h]; exact iT_2 130 (by first | rfl | decide +kernel) (by decide +kernel)⟩
theorem fX0_162 {M : Mt} (h : M.1.cls = RX0) : FL M 162 5 12 := ⟨RX5, TX5, 15, cls5, by decide, Or.inl (by rw [h]; exact iT_2 131 (by first | rfl | decide +kernel) (by decide +kernel))⟩
theorem fX11_156 {M : Mt} (h : M.1.cls = RX11) : FL M 156 5 12 := ⟨RX5, TX5, 15, cls5, by decide, Or.inl (by rw [h]; exact iT_2 132 (by first | rfl | decide +kernel) (by decide +kernel))⟩
theorem fX5_53 {M : Mt} (h : M.1.cls = RX5) : FL M 53 5 13 := ⟨RX5, TX5, 15, cls5, by decide, Or.inl (by rw [h]; exact iT_2 133 (by first | rfl | decide +kernel) (by decide +kernel))⟩
theorem ffX5_53 {M : Mt} (h : M.1.cls = RX5) (hn : M.1.name = "<init>") : FLF M 53 5 13 := ⟨hn, RX5, TX5, 15, cls5, by decide, by decide +kernel, by rw [h]; decide +kernel, by rw [h]; exact iT_2 133 (by first | rfl | decide +kernel) (by decide +kernel)⟩
theorem fX10_39 {M : Mt} (h : M.1.cls = RX10) : FL M 39 5 13 := ⟨RX5, TX5, 15, cls5, by decide, Or.inl (by rw [h]; exact iT_2 134 (by first | rfl | decide +kernel) (by decide +kernel))⟩
theorem fX0_159 {M : Mt} (h : M.1.cls = RX0) : FL M 159 5 13 := ⟨RX5, TX5, 15, cls5, by decide, Or.inl (by rw [h]; exact iT_2 135 (by first | rfl | decide +kernel) (by decide +kernel))⟩
theorem fX11_183 {M : Mt} (h : M.1.cls = RX11) : FL M 183 5 13 := ⟨RX5, TX5, 15, cls5, by decide, Or.inl (by rw [h]; exact iT_2 136 (by first | rfl | decide +kernel) (by decide +kernel))⟩
theorem fX5_56 {M : Mt} (h : M.1.cls = RX5) : FL M 56 5 14 := ⟨RX5, TX5, 15, cls5, by decide, Or.inl (by rw [h]; exact iT_2 137 (by first | rfl | decide +kernel) (by decide +kernel))⟩
theorem ffX5_56 {M : Mt} (h : M.1.cls = RX5) (hn : M.1.name = "<init>") : FLF M 56 5 14 := ⟨hn, RX5, TX5, 15, cls5, by decide, by decide +kernel, by rw [h]; decide +kernel, by rw [h]; exact iT_2 137 (by first | rfl | decide +kernel) (by decide +kernel)⟩
theorem fX0_165 {M : Mt} (h : M.1.cls = RX0) : FL M 165 5 14 := ⟨RX5, TX5, 15, cls5, by decide, Or.inl (by rw [h]; exact iT_2 138 (by first | rfl | decide +kernel) (by decide +kernel))⟩
theorem fX11_186 {M : Mt} (h : M.1.cls = RX11) : FL M 186 5 14 := ⟨RX5, TX5, 15, cls5, by decide, Or.inl (by rw [h]; exact iT_2 139 (by first | rfl | decide +kernel) (by decide +kernel))⟩
theorem lX11_47 {M : Mt} (h : M.1.cls = RX11) : LK M 47 mX0_init := Or.inl (by rw [h]; exact iT_2 173 (by rfl) (by decide +kernel))
theorem lX0_11 {M : Mt} (h : M.1.cls = RX0) : LK M 11 mX5_init := Or.inr ⟨"GirlShots", by rw [h]; exact iTN_2 178 (by rfl) (by decide +kernel)⟩
theorem fX0_12 {M : Mt} (h : M.1.cls = RX0) : FL M 12 0 0 := ⟨RX0, TX0, 8, cls0, by decide, Or.inl (by rw [h]; exact iT_2 179 (by first | rfl | decide +kernel) (by decide +kernel))⟩
theorem ffX0_12 {M : Mt} (h : M.1.cls = RX0) (hn : M.1.name = "<init>") : FLF M 12 0 0 := ⟨hn, RX0, TX0, 8, cls0, by decide, by decide +kernel, by rw [h]; decide +kernel, by rw [h]; exact iT_2 179 (by first | rfl | decide +kernel) (by decide +kernel)⟩
theorem fX11_232 {M : Mt} (h : M.1.cls = RX11) : FL M 232 0 0 := ⟨RX0, TX0, 8, cls0, by decide, Or.inl (by rw [h]; exact iT_2 180 (by first | rfl | decide +kernel) (by decide +kernel))⟩
theorem fX0_18 {M : Mt} (h : M.1.cls = RX0) : FL M 18 0 1 := ⟨RX0, TX0, 8, cls0, by decide, Or.inl (by rw [h]; exact iT_2 181 (by first | rfl | decide +kernel) (by decide +kernel))⟩
theorem ffX0_18 {M : Mt} (h : M.1.cls = RX0) (hn : M.1.name = "<init>") : FLF M 18 0 1 := ⟨hn, RX0, TX0, 8, cls0, by decide, by decide +kernel, by rw [h]; decide +kernel, by rw [h]; exact iT_2 181 (by first | rfl | decide +kernel) (by decide +kernel)⟩
theorem fX11_341 {M : Mt} (h : M.1.cls = RX11) : FL M 341 0 1 := ⟨RX0, TX0, 8, cls0, by decide, Or.inl (by rw [h]; exact iT_2 182 (by first | rfl | decide +kernel) (by decide +kernel))⟩
theorem fX0_22 {M : Mt} (h : M.1.cls = RX0) : FL M 22 0 2 := ⟨RX0, TX0, 8, cls0, by decide, Or.inl (by rw [h]; exact iT_2 183 (by first | rfl | decide +kernel) (by decide +kernel))⟩
theorem fwX0_22 {M : Mt} (h : M.1.cls = RX0) : FLW M 22 0 2 := ⟨RX0, TX0, 8, cls0, by decide, by decide +kernel, Or.inl (by rw [h]; exact iT_2 183 (by first | rfl | decide +kernel) (by decide +kernel))⟩
theorem fX11_226 {M : Mt} (h : M.1.cls = RX11) : FL M 226 0 2 := ⟨RX0, TX0, 8, cls0, by decide, Or.inl (by rw [h]; exact iT_2 184 (by first | rfl | decide +kernel) (by decide +kernel))⟩
theorem fwX11_226 {M : Mt} (h : M.1.cls = RX11) : FLW M 226 0 2 := ⟨RX0, TX0, 8, cls0, by decide, by decide +kernel, Or.inl (by rw [h]; exact iT_2 184 (by first | rfl | decide +kernel) (by decide +kernel))⟩
theorem fX0_40 {M : Mt} (h : M.1.cls = RX0) : FL M 40 0 3 := ⟨RX0, TX0, 8, cls0, by decide, Or.inl (by rw [h]; exact iT_2 185 (by first | rfl | decide +kernel) (by decide +kernel))⟩
theorem ffX0_40 {M : Mt} (h : M.1.cls = RX0) (hn : M.1.name = "<init>") : FLF M 40 0 3 := ⟨hn, RX0, TX0, 8, cls0, by decide, by decide +kernel, by rw [h]; decide +kernel, by rw [h]; exact iT_2 185 (by first | rfl | decide +kernel) (by decide +kernel)⟩
theorem fX0_26 {M : Mt} (h : M.1.cls = RX0) : FL M 26 0 4 := ⟨RX0, TX0, 8, cls0, by decide, Or.inl (by rw [h]; exact iT_2 186 (by first | rfl | decide +kernel) (by decide +kernel))⟩
theorem ffX0_26 {M : Mt} (h : M.1.cls = RX0) (hn : M.1.name = "<init>") : FLF M 26 0 4 := ⟨hn, RX0, TX0, 8, cls0, by decide, by decide +kernel, by rw [h]; decide +kernel, by rw [h]; exact iT_2 186 (by first | rfl | decide +kernel) (by decide +kernel)⟩
theorem fX0_30 {M : Mt} (h : M.1.cls = RX0) : FL M 30 0 5 := ⟨RX0, TX0, 8, cls0, by decide, Or.inl (by rw [h]; exact iT_2 187 (by first | rfl | decide +kernel) (by decide +kernel))⟩
theorem fwX0_30 {M : Mt} (h : M.1.cls = RX0) : FLW M 30 0 5 := ⟨RX0, TX0, 8, cls0, by decide, by decide +kernel, Or.inl (by rw [h]; exact iT_2 187 (by first | rfl | decide +kernel) (by decide +kernel))⟩
theorem fX0_33 {M : Mt} (h : M.1.cls = RX0) : FL M 33 0 6 := ⟨RX0, TX0, 8, cls0, by decide, Or.inl (by rw [h]; exact iT_2 188 (by first | rfl | decide +kernel) (by decide +kernel))⟩
theorem fwX0_33 {M : Mt} (h : M.1.cls = RX0) : FLW M 33 0 6 := ⟨RX0, TX0, 8, cls0, by decide, by decide +kernel, Or.inl (by rw [h]; exact iT_2 188 (by first | rfl | decide +kernel) (by decide +kernel))⟩
theorem fX0_37 {M : Mt} (h : M.1.cls = RX0) : FL M 37 0 7 := ⟨RX0, TX0, 8, cls0, by decide, Or.inl (by rw [h]; exact iT_2 189 (by first | rfl | decide +kernel) (by decide +kernel))⟩
theorem fwX0_37 {M : Mt} (h : M.1.cls = RX0) : FLW M 37 0 7 := ⟨RX0, TX0, 8, cls0, by decide, by decide +kernel, Or.inl (by rw [h]; exact iT_2 189 (by first | rfl | decide +kernel) (by decide +kernel))⟩
theorem lX11_56 {M : Mt} (h : M.1.cls = RX11) : LK M 56 mX6_init := Or.inr ⟨"GirlShots", by rw [h]; exact iTN_2 209 (by rfl) (by decide +kernel)⟩
theorem fX6_9 {M : Mt} (h : M.1.cls = RX6) : FL M 9 6 0 := ⟨RX6, TX6, 5, cls6, by decide, Or.inl (by rw [h]; exact iT_2 213 (by first | rfl | decide +kernel) (by decide +kernel))⟩
theorem fwX6_9 {M : Mt} (h : M.1.cls = RX6) : FLW M 9 6 0 := ⟨RX6, TX6, 5, cls6, by decide, by decide +kernel, Or.inl (by rw [h]; exact iT_2 213 (by first | rfl | decide +kernel) (by decide +kernel))⟩
theorem fX11_331 {M : Mt} (h : M.1.cls = RX11) : FL M 331 6 0 := ⟨RX6, TX6, 5, cls6, by decide, Or.inl (by rw [h]; exact iT_2 214 (by first | rfl | decide +kernel) (by decide +kernel))⟩
theorem fwX11_331 {M : Mt} (h : M.1.cls = RX11) : FLW M 331 6 0 := ⟨RX6, TX6, 5, cls6, by decide, by decide +kernel, Or.inl (by rw [h]; exact iT_2 214 (by first | rfl | decide +kernel) (by decide +kernel))⟩
theorem fX6_15 {M : Mt} (h : M.1.cls = RX6) : FL M 15 6 1 := ⟨RX6, TX6, 5, cls6, by decide, Or.inl (by rw [h]; exact iT_2 215 (by first | rfl | decide +kernel) (by decide +kernel))⟩
theorem fwX6_15 {M : Mt} (h : M.1.cls = RX6) : FLW M 15 6 1 := ⟨RX6, TX6, 5, cls6, by decide, by decide +kernel, Or.inl (by rw [h]; exact iT_2 215 (by first | rfl | decide +kernel) (by decide +kernel))⟩
theorem fX11_332 {M : Mt} (h : M.1.cls = RX11) : FL M 332 6 1 := ⟨RX6, TX6, 5, cls6, by decide, Or.inl (by rw [h]; exact iT_2 216 (by first | rfl | decide +kernel) (by decide +kernel))⟩
theorem fwX11_332 {M : Mt} (h : M.1.cls = RX11) : FLW M 332 6 1 := ⟨RX6, TX6, 5, cls6, by decide, by decide +kernel, Or.inl (by rw [h]; exact iT_2 216 (by first | rfl | decide +kernel) (by decide +kernel))⟩
theorem fX6_18 {M : Mt} (h : M.1.cls = RX6) : FL M 18 6 2 := ⟨RX6, TX6, 5, cls6, by decide, Or.inl (by rw [h]; exact iT_2 217 (by first | rfl | decide +kernel) (by decide +kernel))⟩
theorem ffX6_18 {M : Mt} (h : M.1.cls = RX6) (hn : M.1.name = "<init>") : FLF M 18 6 2 := ⟨hn, RX6, TX6, 5, cls6, by decide, by decide +kernel, by rw [h]; decide +kernel, by rw [h]; exact iT_2 217 (by first | rfl | decide +kernel) (by decide +kernel)⟩
theorem fX6_22 {M : Mt} (h : M.1.cls = RX6) : FL M 22 6 3 := ⟨RX6, TX6, 5, cls6, by decide, Or.inl (by rw [h]; exact iT_2 218 (by first | rfl | decide +kernel) (by decide +kernel))⟩
theorem ffX6_22 {M : Mt} (h : M.1.cls = RX6) (hn : M.1.name = "<init>") : FLF M 22 6 3 := ⟨hn, RX6, TX6, 5, cls6, by decide, by decide +kernel, by rw [h]; decide +kernel, by rw [h]; exact iT_2 218 (by first | rfl | decide +kernel) (by decide +kernel)⟩
theorem fX6_25 {M : Mt} (h : M.1.cls = RX6) : FL M 25 6 4 := ⟨RX6, TX6, 5, cls6, by decide, Or.inl (by rw [h]; exact iT_2 219 (by first | rfl | decide +kernel) (by decide +kernel))⟩
theorem ffX6_25 {M : Mt} (h : M.1.cls = RX6) (hn : M.1.name = "<init>") : FLF M 25 6 4 := ⟨hn, RX6, TX6, 5, cls6, by decide, by decide +kernel, by rw [h]; decide +kernel, by rw [h]; exact iT_2 219 (by first | rfl | decide +kernel) (by decide +kernel)⟩
theorem lX11_63 {M : Mt} (h : M.1.cls = RX11) : LK M 63 mX10_init := Or.inr ⟨"GirlShots", by rw [h]; exact iTN_2 233 (by rfl) (by decide +kernel)⟩
theorem fX10_7 {M : Mt} (h : M.1.cls = RX10) : FL M 7 10 0 := ⟨RX10, TX10, 4, cls10, by decide, Or.inl (by rw [h]; exact iT_2 237 (by first | rfl | decide +kernel) (by decide +kernel))⟩
theorem fwX10_7 {M : Mt} (h : M.1.cls = RX10) : FLW M 7 10 0 := ⟨RX10, TX10, 4, cls10, by decide, by decide +kernel, Or.inl (by rw [h]; exact iT_2 237 (by first | rfl | decide +kernel) (by decide +kernel))⟩
theorem fX11_359 {M : Mt} (h : M.1.cls = RX11) : FL M 359 10 0 := ⟨RX10, TX10, 4, cls10, by decide, Or.inl (by rw [h]; exact iT_2 238 (by first | rfl | decide +kernel) (by decide +kernel))⟩
theorem fwX11_359 {M : Mt} (h : M.1.cls = RX11) : FLW M 359 10 0 := ⟨RX10, TX10, 4, cls10, by decide, by decide +kernel, Or.inl (by rw [h]; exact iT_2 238 (by first | rfl | decide +kernel) (by decide +kernel))⟩
theorem fX10_13 {M : Mt} (h : M.1.cls = RX10) : FL M 13 10 1 := ⟨RX10, TX10, 4, cls10, by decide, Or.inl (by rw [h]; exact iT_2 239 (by first | rfl | decide +kernel) (by decide +kernel))⟩
theorem ffX10_13 {M : Mt} (h : M.1.cls = RX10) (hn : M.1.name = "<init>") : FLF M 13 10 1 := ⟨hn, RX10, TX10, 4, cls10, by decide, by decide +kernel, by rw [h]; decide +kernel, by rw [h]; exact iT_2 239 (by first | rfl | decide +kernel) (by decide +kernel)⟩
theorem fX10_17 {M : Mt} (h : M.1.cls = RX10) : FL M 17 10 2 := ⟨RX10, TX10, 4, cls10, by decide, Or.inl (by rw [h]; exact iT_3 0 (by first | rfl | decide +kernel) (by decide +kernel))⟩
theorem ffX10_17 {M : Mt} (h : M.1.cls = RX10) (hn : M.1.name = "<init>") : FLF M 17 10 2 := ⟨hn, RX10, TX10, 4, cls10, by decide, by decide +kernel, by rw [h]; decide +kernel, by rw [h]; exact iT_3 0 (by first | rfl | decide +kernel) (by decide +kernel)⟩
theorem fX10_20 {M : Mt} (h : M.1.cls = RX10) : FL M 20 10 3 := ⟨RX10, TX10, 4, cls10, by decide, Or.inl (by rw [h]; exact iT_3 1 (by first | rfl | decide +kernel) (by decide +kernel))⟩
theorem ffX10_20 {M : Mt} (h : M.1.cls = RX10) (hn : M.1.name = "<init>") : FLF M 20 10 3 := ⟨hn, RX10, TX10, 4, cls10, by decide, by decide +kernel, by rw [h]; decide +kernel, by rw [h]; exact iT_3 1 (by first | rfl | decide +kernel) (by decide +kernel)⟩
theorem lX11_70 {M : Mt} (h : M.1.cls = RX11) : LK M 70 mX2_init := Or.inl (by rw [h]; exact iT_3 13 (by rfl) (by decide +kernel))
theorem fX2_9 {M : Mt} (h : M.1.cls = RX2) : FL M 9 2 0 := ⟨RX2, TX2, 5, cls2, by decide, Or.inl (by rw [h]; exact iT_3 17 (by first | rfl | decide +kernel) (by decide +kernel))⟩
theorem ffX2_9 {M : Mt} (h : M.1.cls = RX2) (hn : M.1.name = "<init>") : FLF M 9 2 0 := ⟨hn, RX2, TX2, 5, cls2, by decide, by decide +kernel, by rw [h]; decide +kernel, by rw [h]; exact iT_3 17 (by first | rfl | decide +kernel) (by decide +kernel)⟩
theorem fX11_265 {M : Mt} (h : M.1.cls = RX11) : FL M 265 2 0 := ⟨RX2, TX2, 5, cls2, by decide, Or.inl (by rw [h]; exact iT_3 18 (by first | rfl | decide +kernel) (by decide +kernel))⟩
theorem fX2_15 {M : Mt} (h : M.1.cls = RX2) : FL M 15 2 1 := ⟨RX2, TX2, 5, cls2, by decide, Or.inl (by rw [h]; exact iT_3 19 (by first | rfl | decide +kernel) (by decide +kernel))⟩
theorem fwX2_15 {M : Mt} (h : M.1.cls = RX2) : FLW M 15 2 1 := ⟨RX2, TX2, 5, cls2, by decide, by decide +kernel, Or.inl (by rw [h]; exact iT_3 19 (by first | rfl | decide +kernel) (by decide +kernel))⟩
theorem fX11_262 {M : Mt} (h : M.1.cls = RX11) : FL M 262 2 1 := ⟨RX2, TX2, 5, cls2, by decide, Or.inl (by rw [h]; exact iT_3 20 (by first | rfl | decide +kernel) (by decide +kernel))⟩
theorem fwX11_262 {M : Mt} (h : M.1.cls = RX11) : FLW M 262 2 1 := ⟨RX2, TX2, 5, cls2, by decide, by decide +kernel, Or.inl (by rw [h]; exact iT_3 20 (by first | rfl | decide +kernel) (by decide +kernel))⟩
theorem fX2_25 {M : Mt} (h : M.1.cls = RX2) : FL M 25 2 2 := ⟨RX2, TX2, 5, cls2, by decide, Or.inl (by rw [h]; exact iT_3 21 (by first | rfl | decide +kernel) (by decide +kernel))⟩
theorem ffX2_25 {M : Mt} (h : M.1.cls = RX2) (hn : M.1.name = "<init>") : FLF M 25 2 2 := ⟨hn, RX2, TX2, 5, cls2, by decide, by decide +kernel, by rw [h]; decide +kernel, by rw [h]; exact iT_3 21 (by first | rfl | decide +kernel) (by decide +kernel)⟩
theorem fX2_19 {M : Mt} (h : M.1.cls = RX2) : FL M 19 2 3 := ⟨RX2, TX2, 5, cls2, by decide, Or.inl (by rw [h]; exact iT_3 22 (by first | rfl | decide +kernel) (by decide +kernel))⟩
theorem ffX2_19 {M : Mt} (h : M.1.cls = RX2) (hn : M.1.name = "<init>") : FLF M 19 2 3 := ⟨hn, RX2, TX2, 5, cls2, by decide, by decide +kernel, by rw [h]; decide +kernel, by rw [h]; exact iT_3 22 (by first | rfl | decide +kernel) (by decide +kernel)⟩
theorem fX2_22 {M : Mt} (h : M.1.cls = RX2) : FL M 22 2 4 := ⟨RX2, TX2, 5, cls2, by decide, Or.inl (by rw [h]; exact iT_3 23 (by first | rfl | decide +kernel) (by decide +kernel))⟩
theorem ffX2_22 {M : Mt} (h : M.1.cls = RX2) (hn : M.1.name = "<init>") : FLF M 22 2 4 := ⟨hn, RX2, TX2, 5, cls2, by decide, by decide +kernel, by rw [h]; decide +kernel, by rw [h]; exact iT_3 23 (by first | rfl | decide +kernel) (by decide +kernel)⟩
theorem lX11_77 {M : Mt} (h : M.1.cls = RX11) : LK M 77 mX3_init := Or.inr ⟨"GirlShots", by rw [h]; exact iTN_3 37 (by rfl) (by decide +kernel)⟩
theorem fX3_9 {M : Mt} (h : M.1.cls = RX3) : FL M 9 3 0 := ⟨RX3, TX3, 4, cls3, by decide, Or.inl (by rw [h]; exact iT_3 41 (by first | rfl | decide +kernel) (by decide +kernel))⟩
theorem fwX3_9 {M : Mt} (h : M.1.cls = RX3) : FLW M 9 3 0 := ⟨RX3, TX3, 4, cls3, by decide, by decide +kernel, Or.inl (by rw [h]; exact iT_3 41 (by first | rfl | decide +kernel) (by decide +kernel))⟩
theorem fX11_282 {M : Mt} (h : M.1.cls = RX11) : FL M 282 3 0 := ⟨RX3, TX3, 4, cls3, by decide, Or.inl (by rw [h]; exact iT_3 42 (by first | rfl | decide +kernel) (by decide +kernel))⟩
theorem fwX11_282 {M : Mt} (h : M.1.cls = RX11) : FLW M 282 3 0 := ⟨RX3, TX3, 4, cls3, by decide, by decide +kernel, Or.inl (by rw [h]; exact iT_3 42 (by first | rfl | decide +kernel) (by decide +kernel))⟩
theorem fX3_15 {M : Mt} (h : M.1.cls = RX3) : FL M 15 3 1 := ⟨RX3, TX3, 4, cls3, by decide, Or.inl (by rw [h]; exact iT_3 43 (by first | rfl | decide +kernel) (by decide +kernel))⟩
theorem fwX3_15 {M : Mt} (h : M.1.cls = RX3) : FLW M 15 3 1 := ⟨RX3, TX3, 4, cls3, by decide, by decide +kernel, Or.inl (by rw [h]; exact iT_3 43 (by first | rfl | decide +kernel) (by decide +kernel))⟩
theorem fX3_18 {M : Mt} (h : M.1.cls = RX3) : FL M 18 3 2 := ⟨RX3, TX3, 4, cls3, by decide, Or.inl (by rw [h]; exact iT_3 44 (by first | rfl | decide +kernel) (by decide +kernel))⟩
theorem fwX3_18 {M : Mt} (h : M.1.cls = RX3) : FLW M 18 3 2 := ⟨RX3, TX3, 4, cls3, by decide, by decide +kernel, Or.inl (by rw [h]; exact iT_3 44 (by first | rfl | decide +kernel) (by decide +kernel))⟩
theorem fX3_21 {M : Mt} (h : M.1.cls = RX3) : FL M 21 3 3 := ⟨RX3, TX3, 4, cls3, by decide, Or.inl (by rw [h]; exact iT_3 45 (by first | rfl | decide +kernel) (by decide +kernel))⟩
theorem ffX3_21 {M : Mt} (h : M.1.cls = RX3) (hn : M.1.name = "<init>") : FLF M 21 3 3 := ⟨hn, RX3, TX3, 4, cls3, by decide, by decide +kernel, by rw [h]; decide +kernel, by rw [h]; exact iT_3 45 (by first | rfl | decide +kernel) (by decide +kernel)⟩
theorem lX11_82 {M : Mt} (h : M.1.cls = RX11) : LK M 82 mX5_open := Or.inl (by rw [h]; exact iT_3 55 (by rfl) (by decide +kernel))
theorem lX5_74 {M : Mt} (h : M.1.cls = RX5) : LK M 74 mX11_copyRow := Or.inr ⟨"GirlShots", by rw [h]; exact iTN_3 59 (by rfl) (by decide +kernel)⟩
theorem lX11_303 {M : Mt} (h : M.1.cls = RX11) : LK M 303 mJ9_min_7cf53 := Or.inl (by rw [h]; exact iT_3 62 (by rfl) (by decide +kernel))
theorem lX5_78 {M : Mt} (h : M.1.cls = RX5) : LK M 78 mX11_fill := Or.inr ⟨"GirlShots", by rw [h]; exact iTN_3 66 (by rfl) (by decide +kernel)⟩
theorem fX11_9 {M : Mt} (h : M.1.cls = RX11) : FL M 9 11 0 := ⟨RX11, TX11, 12, cls11, by decide, Or.inl (by rw [h]; exact iT_3 67 (by first | rfl | decide +kernel) (by decide +kernel))⟩
theorem ffX11_9 {M : Mt} (h : M.1.cls = RX11) (hn : M.1.name = "<init>") : FLF M 9 11 0 := ⟨hn, RX11, TX11, 12, cls11, by decide, by decide +kernel, by rw [h]; decide +kernel, by rw [h]; exact iT_3 67 (by first | rfl | decide +kernel) (by decide +kernel)⟩
theorem fX11_13 {M : Mt} (h : M.1.cls = RX11) : FL M 13 11 1 := ⟨RX11, TX11, 12, cls11, by decide, Or.inl (by rw [h]; exact iT_3 68 (by first | rfl | decide +kernel) (by decide +kernel))⟩
theorem fwX11_13 {M : Mt} (h : M.1.cls = RX11) : FLW M 13 11 1 := ⟨RX11, TX11, 12, cls11, by decide, by decide +kernel, Or.inl (by rw [h]; exact iT_3 68 (by first | rfl | decide +kernel) (by decide +kernel))⟩
theorem fX11_20 {M : Mt} (h : M.1.cls = RX11) : FL M 20 11 2 := ⟨RX11, TX11, 12, cls11, by decide, Or.inl (by rw [h]; exact iT_3 69 (by first | rfl | decide +kernel) (by decide +kernel))⟩
theorem ffX11_20 {M : Mt} (h : M.1.cls = RX11) (hn : M.1.name = "<init>") : FLF M 20 11 2 := ⟨hn, RX11, TX11, 12, cls11, by decide, by decide +kernel, by rw [h]; decide +kernel, by rw [h]; exact iT_3 69 (by first | rfl | decide +kernel) (by decide +kernel)⟩
theorem fX11_27 {M : Mt} (h : M.1.cls = RX11) : FL M 27 11 3 := ⟨RX11, TX11, 12, cls11, by decide, Or.inl (by rw [h]; exact iT_3 70 (by first | rfl | decide +kernel) (by decide +kernel))⟩
theorem ffX11_27 {M : Mt} (h : M.1.cls = RX11) (hn : M.1.name = "<init>") : FLF M 27 11 3 := ⟨hn, RX11, TX11, 12, cls11, by decide, by decide +kernel, by rw [h]; decide +kernel, by rw [h]; exact iT_3 70 (by first | rfl | decide +kernel) (by decide +kernel)⟩
theorem fX11_34 {M : Mt} (h : M.1.cls = RX11) : FL M 34 11 4 := ⟨RX11, TX11, 12, cls11, by decide, Or.inl (by rw [h]; exact iT_3 71 (by first | rfl | decide +kernel) (by decide +kernel))⟩
theorem ffX11_34 {M : Mt} (h : M.1.cls = RX11) (hn : M.1.name = "<init>") : FLF M 34 11 4 := ⟨hn, RX11, TX11, 12, cls11, by decide, by decide +kernel, by rw [h]; decide +kernel, by rw [h]; exact iT_3 71 (by first | rfl | decide +kernel) (by decide +kernel)⟩
theorem fX11_38 {M : Mt} (h : M.1.cls = RX11) : FL M 38 11 5 := ⟨RX11, TX11, 12, cls11, by decide, Or.inl (by rw [h]; exact iT_3 72 (by first | rfl | decide +kernel) (by decide +kernel))⟩
theorem ffX11_38 {M : Mt} (h : M.1.cls = RX11) (hn : M.1.name = "<init>") : FLF M 38 11 5 := ⟨hn, RX11, TX11, 12, cls11, by decide, by decide +kernel, by rw [h]; decide +kernel, by rw [h]; exact iT_3 72 (by first | rfl | decide +kernel) (by decide +kernel)⟩
theorem fX11_41 {M : Mt} (h : M.1.cls = RX11) : FL M 41 11 6 := ⟨RX11, TX11, 12, cls11, by decide, Or.inl (by rw [h]; exact iT_3 73 (by first | rfl | decide +kernel) (by decide +kernel))⟩
theorem fwX11_41 {M : Mt} (h : M.1.cls = RX11) : FLW M 41 11 6 := ⟨RX11, TX11, 12, cls11, by decide, by decide +kernel, Or.inl (by rw [h]; exact iT_3 73 (by first | rfl | decide +kernel) (by decide +kernel))⟩
theorem fX11_50 {M : Mt} (h : M.1.cls = RX11) : FL M 50 11 7 := ⟨RX11, TX11, 12, cls11, by decide, Or.inl (by rw [h]; exact iT_3 74 (by first | rfl | decide +kernel) (by decide +kernel))⟩
theorem ffX11_50 {M : Mt} (h : M.1.cls = RX11) (hn : M.1.name = "<init>") : FLF M 50 11 7 := ⟨hn, RX11, TX11, 12, cls11, by decide, by decide +kernel, by rw [h]; decide +kernel, by rw [h]; exact iT_3 74 (by first | rfl | decide +kernel) (by decide +kernel)⟩
theorem fX11_57 {M : Mt} (h : M.1.cls = RX11) : FL M 57 11 8 := ⟨RX11, TX11, 12, cls11, by decide, Or.inl (by rw [h]; exact iT_3 75 (by first | rfl | decide +kernel) (by decide +kernel))⟩
theorem ffX11_57 {M : Mt} (h : M.1.cls = RX11) (hn : M.1.name = "<init>") : FLF M 57 11 8 := ⟨hn, RX11, TX11, 12, cls11, by decide, by decide +kernel, by rw [h]; decide +kernel, by rw [h]; exact iT_3 75 (by first | rfl | decide +kernel) (by decide +kernel)⟩
theorem fX11_64 {M : Mt} (h : M.1.cls = RX11) : FL M 64 11 9 := ⟨RX11, TX11, 12, cls11, by decide, Or.inl (by rw [h]; exact iT_3 76 (by first | rfl | decide +kernel) (by decide +kernel))⟩
theorem ffX11_64 {M : Mt} (h : M.1.cls = RX11) (hn : M.1.name = "<init>") : FLF M 64 11 9 := ⟨hn, RX11, TX11, 12, cls11, by decide, by decide +kernel, by rw [h]; decide +kernel, by rw [h]; exact iT_3 76 (by first | rfl | decide +kernel) (by decide +kernel)⟩
theorem fX11_71 {M : Mt} (h : M.1.cls = RX11) : FL M 71 11 10 := ⟨RX11, TX11, 12, cls11, by decide, Or.inl (by rw [h]; exact iT_3 77 (by first | rfl | decide +kernel) (by decide +kernel))⟩
theorem ffX11_71 {M : Mt} (h : M.1.cls = RX11) (hn : M.1.name = "<init>") : FLF M 71 11 10 := ⟨hn, RX11, TX11, 12, cls11, by decide, by decide +kernel, by rw [h]; decide +kernel, by rw [h]; exact iT_3 77 (by first | rfl | decide +kernel) (by decide +kernel)⟩
theorem fX11_78 {M : Mt} (h : M.1.cls = RX11) : FL M 78 11 11 := ⟨RX11, TX11, 12, cls11, by decide, Or.inl (by rw [h]; exact iT_3 78 (by first | rfl | decide +kernel) (by decide +kernel))⟩
theorem ffX11_78 {M : Mt} (h : M.1.cls = RX11) (hn : M.1.name = "<init>") : FLF M 78 11 11 := ⟨hn, RX11, TX11, 12, cls11, by decide, by decide +kernel, by rw [h]; decide +kernel, by rw [h]; exact iT_3 78 (by first | rfl | decide +kernel) (by decide +kernel)⟩
theorem lL_21 {M : Mt} (h : M.1.cls = RL) : LK M 21 mX11_feed := Or.inl (by rw [h]; exact iT_3 104 (by rfl) (by decide +kernel))
theorem lX11_85 {M : Mt} (h : M.1.cls = RX11) : LK M 85 mX11_write := Or.inl (by rw [h]; exact iT_3 108 (by rfl) (by decide +kernel))
theorem lL_26 {M : Mt} (h : M.1.cls = RL) : LK M 26 mX11_text := Or.inl (by rw [h]; exact iT_3 112 (by rfl) (by decide +kernel))
theorem lX11_89 {M : Mt} (h : M.1.cls = RX11) : LK M 89 mX4_read := Or.inl (by rw [h]; exact iT_3 116 (by rfl) (by decide +kernel))
theorem lX4_45 {M : Mt} (h : M.1.cls = RX4) : LK M 45 mX9_clear := Or.inl (by rw [h]; exact iT_3 120 (by rfl) (by decide +kernel))
theorem lX9_72 {M : Mt} (h : M.1.cls = RX9) : LK M 72 mX7_clear := Or.inl (by rw [h]; exact iT_3 124 (by rfl) (by decide +kernel))
theorem lX7_37 {M : Mt} (h : M.1.cls = RX7) : LK M 37 mX11_fill := Or.inr ⟨"GirlShots", by rw [h]; exact iTN_3 128 (by rfl) (by decide +kernel)⟩
theorem lX9_75 {M : Mt} (h : M.1.cls = RX9) : LK M 75 mX1_clear := Or.inl (by rw [h]; exact iT_3 129 (by rfl) (by decide +kernel))
theorem lX4_48 {M : Mt} (h : M.1.cls = RX4) : LK M 48 mX8_begin := Or.inl (by rw [h]; exact iT_3 133 (by rfl) (by decide +kernel))
theorem lX8_63 {M : Mt} (h : M.1.cls = RX8) : LK M 63 mX8_step := Or.inl (by rw [h]; exact iT_3 137 (by rfl) (by decide +kernel))
theorem lX8_66 {M : Mt} (h : M.1.cls = RX8) : LK M 66 mX8_signAt := Or.inl (by rw [h]; exact iT_3 141 (by rfl) (by decide +kernel))
theorem lX8_70 {M : Mt} (h : M.1.cls = RX8) : LK M 70 mX8_isLetter := Or.inl (by rw [h]; exact iT_3 145 (by rfl) (by decide +kernel))
theorem lX8_74 {M : Mt} (h : M.1.cls = RX8) : LK M 74 mX8_word := Or.inl (by rw [h]; exact iT_3 148 (by rfl) (by decide +kernel))
theorem lX8_77 {M : Mt} (h : M.1.cls = RX8) : LK M 77 mX8_isDigit := Or.inl (by rw [h]; exact iT_3 152 (by rfl) (by decide +kernel))
theorem lX8_80 {M : Mt} (h : M.1.cls = RX8) : LK M 80 mX8_number := Or.inl (by rw [h]; exact iT_3 155 (by rfl) (by decide +kernel))
theorem kX8_89 : Cond.constant RX8 89 (1000000) ∈ ALLW := iT_3 159 (by decide +kernel) (by decide +kernel)
theorem lX8_90 {M : Mt} (h : M.1.cls = RX8) : LK M 90 mJ9_min_7cf53 := Or.inl (by rw [h]; exact iT_3 160 (by rfl) (by decide +kernel))
theorem lX8_83 {M : Mt} (h : M.1.cls = RX8) : LK M 83 mX8_kindOf := Or.inl (by rw [h]; exact iT_3 161 (by rfl) (by decide +kernel))
theorem lX8_86 {M : Mt} (h : M.1.cls = RX8) : LK M 86 mX8_isPair := Or.inl (by rw [h]; exact iT_3 164 (by rfl) (by decide +kernel))
theorem lX4_55 {M : Mt} (h : M.1.cls = RX4) : LK M 55 mX4_line := Or.inl (by rw [h]; exact iT_3 167 (by rfl) (by decide +kernel))
theorem lX4_76 {M : Mt} (h : M.1.cls = RX4) : LK M 76 mX4_markLine := Or.inl (by rw [h]; exact iT_3 171 (by rfl) (by decide +kernel))
theorem lX4_115 {M : Mt} (h : M.1.cls = RX4) : LK M 115 mX7_isFull := Or.inl (by rw [h]; exact iT_3 175 (by rfl) (by decide +kernel))
theorem lX4_121 {M : Mt} (h : M.1.cls = RX4) : LK M 121 mX4_begin := Or.inl (by rw [h]; exact iT_3 179 (by rfl) (by decide +kernel))
theorem lX4_58 {M : Mt} (h : M.1.cls = RX4) : LK M 58 mX4_fail := Or.inl (by rw [h]; exact iT_3 183 (by rfl) (by decide +kernel))
theorem lX4_65 {M : Mt} (h : M.1.cls = RX4) : LK M 65 mX8_step := Or.inl (by rw [h]; exact iT_3 187 (by rfl) (by decide +kernel))
theorem lX4_124 {M : Mt} (h : M.1.cls = RX4) : LK M 124 mX4_fresh := Or.inl (by rw [h]; exact iT_3 188 (by rfl) (by decide +kernel))
theorem lX4_170 {M : Mt} (h : M.1.cls = RX4) : LK M 170 mX7_find := Or.inl (by rw [h]; exact iT_3 192 (by rfl) (by decide +kernel))
theorem lX7_45 {M : Mt} (h : M.1.cls = RX7) : LK M 45 mX11_at := Or.inr ⟨"GirlShots", by rw [h]; exact iTN_3 196 (by rfl) (by decide +kernel)⟩
theorem lX4_128 {M : Mt} (h : M.1.cls = RX4) : LK M 128 mX4_number := Or.inl (by rw [h]; exact iT_3 197 (by rfl) (by decide +kernel))
theorem lX4_131 {M : Mt} (h : M.1.cls = RX4) : LK M 131 mX7_add := Or.inl (by rw [h]; exact iT_3 201 (by rfl) (by decide +kernel))
theorem lX7_49 {M : Mt} (h : M.1.cls = RX7) : LK M 49 mX11_put := Or.inr ⟨"GirlShots", by rw [h]; exact iTN_3 205 (by rfl) (by decide +kernel)⟩
theorem lX4_79 {M : Mt} (h : M.1.cls = RX4) : LK M 79 mX4_shotLine := Or.inl (by rw [h]; exact iT_3 206 (by rfl) (by decide +kernel))
theorem lX4_82 {M : Mt} (h : M.1.cls = RX4) : LK M 82 mX4_pairLine := Or.inl (by rw [h]; exact iT_3 210 (by rfl) (by decide +kernel))
theorem lX4_141 {M : Mt} (h : M.1.cls = RX4) : LK M 141 mX4_find := Or.inl (by rw [h]; exact iT_3 214 (by rfl) (by decide +kernel))
theorem lX4_147 {M : Mt} (h : M.1.cls = RX4) : LK M 147 mX11_at := Or.inr ⟨"GirlShots", by rw [h]; exact iTN_3 218 (by rfl) (by decide +kernel)⟩
theorem lX4_154 {M : Mt} (h : M.1.cls = RX4) : LK M 154 mX11_put := Or.inr ⟨"GirlShots", by rw [h]; exact iTN_3 219 (by rfl) (by decide +kernel)⟩
theorem lX4_85 {M : Mt} (h : M.1.cls = RX4) : LK M 85 mX4_partyLine := Or.inl (by rw [h]; exact iT_3 220 (by rfl) (by decide +kernel))
theorem lX4_88 {M : Mt} (h : M.1.cls = RX4) : LK M 88 mX4_clerkLine := Or.inl (by rw [h]; exact iT_3 224 (by rfl) (by decide +kernel))
theorem lX4_91 {M : Mt} (h : M.1.cls = RX4) : LK M 91 mX4_coldLine := Or.inl (by rw [h]; exact iT_3 228 (by rfl) (by decide +kernel))
theorem lX4_97 {M : Mt} (h : M.1.cls = RX4) : LK M 97 mX4_onlyOnce := Or.inl (by rw [h]; exact iT_3 232 (by rfl) (by decide +kernel))
theorem kX4_107 : Cond.constant RX4 107 (99999) ∈ ALLW := iT_3 236 (by decide +kernel) (by decide +kernel)
theorem lX4_108 {M : Mt} (h : M.1.cls = RX4) : LK M 108 mX4_lawLine := Or.inl (by rw [h]; exact iT_3 237 (by rfl) (by decide +kernel))
theorem lX4_188 {M : Mt} (h : M.1.cls = RX4) : LK M 188 mX4_side := Or.inl (by rw [h]; exact iT_4 1 (by rfl) (by decide +kernel))
theorem lX4_192 {M : Mt} (h : M.1.cls = RX4) : LK M 192 mX4_join := Or.inl (by rw [h]; exact iT_4 5 (by rfl) (by decide +kernel))
theorem lX4_212 {M : Mt} (h : M.1.cls = RX4) : LK M 212 mX4_topRank := Or.inl (by rw [h]; exact iT_4 9 (by rfl) (by decide +kernel))
theorem lX4_206 {M : Mt} (h : M.1.cls = RX4) : LK M 206 mX1_add := Or.inl (by rw [h]; exact iT_4 13 (by rfl) (by decide +kernel))
theorem lX4_196 {M : Mt} (h : M.1.cls = RX4) : LK M 196 mX4_operand := Or.inl (by rw [h]; exact iT_4 17 (by rfl) (by decide +kernel))
theorem lX4_203 {M : Mt} (h : M.1.cls = RX4) : LK M 203 mX4_knot := Or.inl (by rw [h]; exact iT_4 21 (by rfl) (by decide +kernel))
theorem lX4_209 {M : Mt} (h : M.1.cls = RX4) : LK M 209 mX4_hold := Or.inl (by rw [h]; exact iT_4 25 (by rfl) (by decide +kernel))
theorem lX4_216 {M : Mt} (h : M.1.cls = RX4) : LK M 216 mX4_rank := Or.inl (by rw [h]; exact iT_4 29 (by rfl) (by decide +kernel))
theorem lX4_200 {M : Mt} (h : M.1.cls = RX4) : LK M 200 mX4_sign := Or.inl (by rw [h]; exact iT_4 32 (by rfl) (by decide +kernel))
theorem lX4_68 {M : Mt} (h : M.1.cls = RX4) : LK M 68 mX9_settle := Or.inl (by rw [h]; exact iT_4 36 (by rfl) (by decide +kernel))
theorem lX11_96 {M : Mt} (h : M.1.cls = RX11) : LK M 96 mX9_copy := Or.inl (by rw [h]; exact iT_4 40 (by rfl) (by decide +kernel))
theorem lX9_76 {M : Mt} (h : M.1.cls = RX9) : LK M 76 mX7_copy := Or.inl (by rw [h]; exact iT_4 44 (by rfl) (by decide +kernel))
theorem lX7_41 {M : Mt} (h : M.1.cls = RX7) : LK M 41 mX11_copyRow := Or.inr ⟨"GirlShots", by rw [h]; exact iTN_4 48 (by rfl) (by decide +kernel)⟩
theorem lX9_80 {M : Mt} (h : M.1.cls = RX9) : LK M 80 mX11_copyRow := Or.inr ⟨"GirlShots", by rw [h]; exact iTN_4 49 (by rfl) (by decide +kernel)⟩
theorem lX9_84 {M : Mt} (h : M.1.cls = RX9) : LK M 84 mX1_copy := Or.inl (by rw [h]; exact iT_4 50 (by rfl) (by decide +kernel))
theorem lX1_30 {M : Mt} (h : M.1.cls = RX1) : LK M 30 mX11_copyRow := Or.inr ⟨"GirlShots", by rw [h]; exact iTN_4 54 (by rfl) (by decide +kernel)⟩
theorem lX11_99 {M : Mt} (h : M.1.cls = RX11) : LK M 99 mX6_clear := Or.inl (by rw [h]; exact iT_4 55 (by rfl) (by decide +kernel))
theorem lX11_102 {M : Mt} (h : M.1.cls = RX11) : LK M 102 mX10_clear := Or.inl (by rw [h]; exact iT_4 59 (by rfl) (by decide +kernel))
theorem lL_31 {M : Mt} (h : M.1.cls = RL) : LK M 31 mX11_fault := Or.inl (by rw [h]; exact iT_4 63 (by rfl) (by decide +kernel))
theorem lL_35 {M : Mt} (h : M.1.cls = RL) : LK M 35 mX11_named := Or.inl (by rw [h]; exact iT_4 67 (by rfl) (by decide +kernel))
theorem lX11_116 {M : Mt} (h : M.1.cls = RX11) : LK M 116 mX7_find := Or.inl (by rw [h]; exact iT_4 71 (by rfl) (by decide +kernel))
theorem lL_45 {M : Mt} (h : M.1.cls = RL) : LK M 45 mX11_shot := Or.inl (by rw [h]; exact iT_4 72 (by rfl) (by decide +kernel))
theorem lX11_131 {M : Mt} (h : M.1.cls = RX11) : LK M 131 mX7_holds := Or.inl (by rw [h]; exact iT_4 76 (by rfl) (by decide +kernel))
theorem lX11_146 {M : Mt} (h : M.1.cls = RX11) : LK M 146 mX11_at := Or.inl (by rw [h]; exact iT_4 80 (by rfl) (by decide +kernel))
theorem lX11_174 {M : Mt} (h : M.1.cls = RX11) : LK M 174 mX5_clashing := Or.inl (by rw [h]; exact iT_4 81 (by rfl) (by decide +kernel))
theorem lX5_93 {M : Mt} (h : M.1.cls = RX5) : LK M 93 mX5_wayIn := Or.inl (by rw [h]; exact iT_4 85 (by rfl) (by decide +kernel))
theorem lX5_89 {M : Mt} (h : M.1.cls = RX5) : LK M 89 mX11_at := Or.inr ⟨"GirlShots", by rw [h]; exact iTN_4 89 (by rfl) (by decide +kernel)⟩
theorem lL_49 {M : Mt} (h : M.1.cls = RL) : LK M 49 mX11_way := Or.inl (by rw [h]; exact iT_4 90 (by rfl) (by decide +kernel))
theorem lX11_180 {M : Mt} (h : M.1.cls = RX11) : LK M 180 mX5_wayIn := Or.inl (by rw [h]; exact iT_4 94 (by rfl) (by decide +kernel))
theorem lL_53 {M : Mt} (h : M.1.cls = RL) : LK M 53 mX11_party := Or.inl (by rw [h]; exact iT_4 95 (by rfl) (by decide +kernel))
theorem lL_57 {M : Mt} (h : M.1.cls = RL) : LK M 57 mX11_clerk := Or.inl (by rw [h]; exact iT_4 99 (by rfl) (by decide +kernel))
theorem lL_61 {M : Mt} (h : M.1.cls = RL) : LK M 61 mX11_law := Or.inl (by rw [h]; exact iT_4 103 (by rfl) (by decide +kernel))
theorem lX11_189 {M : Mt} (h : M.1.cls = RX11) : LK M 189 mX0_begin := Or.inl (by rw [h]; exact iT_4 107 (by rfl) (by decide +kernel))
theorem lX0_44 {M : Mt} (h : M.1.cls = RX0) : LK M 44 mX5_copy := Or.inl (by rw [h]; exact iT_4 111 (by rfl) (by decide +kernel))
theorem lX0_59 {M : Mt} (h : M.1.cls = RX0) : LK M 59 mX11_copyRow := Or.inr ⟨"GirlShots", by rw [h]; exact iTN_4 115 (by rfl) (by decide +kernel)⟩
theorem lX11_193 {M : Mt} (h : M.1.cls = RX11) : LK M 193 mX11_noticeNow := Or.inl (by rw [h]; exact iT_4 116 (by rfl) (by decide +kernel))
theorem kX11_202 : Cond.constantLong RX11 202 (-9223372036854775808) ∈ ALLW := iT_4 120 (by decide +kernel) (by decide +kernel)
theorem lX11_208 {M : Mt} (h : M.1.cls = RX11) : LK M 208 mX0_noticeWorth := Or.inl (by rw [h]; exact iT_4 121 (by rfl) (by decide +kernel))
theorem lX0_86 {M : Mt} (h : M.1.cls = RX0) : LK M 86 mX11_at := Or.inr ⟨"GirlShots", by rw [h]; exact iTN_4 125 (by rfl) (by decide +kernel)⟩
theorem lX0_210 {M : Mt} (h : M.1.cls = RX0) : LK M 210 mX0_isSaid := Or.inl (by rw [h]; exact iT_4 126 (by rfl) (by decide +kernel))
theorem lX0_213 {M : Mt} (h : M.1.cls = RX0) : LK M 213 mX5_filmedWith := Or.inl (by rw [h]; exact iT_4 130 (by rfl) (by decide +kernel))
theorem lX0_216 {M : Mt} (h : M.1.cls = RX0) : LK M 216 mX0_worthOf := Or.inl (by rw [h]; exact iT_4 134 (by rfl) (by decide +kernel))
theorem kX0_181 : Cond.constantLong RX0 181 (-9223372036854775808) ∈ ALLW := iT_4 138 (by decide +kernel) (by decide +kernel)
theorem lX0_235 {M : Mt} (h : M.1.cls = RX0) : LK M 235 mX1_worth := Or.inl (by rw [h]; exact iT_4 139 (by rfl) (by decide +kernel))
theorem lX1_34 {M : Mt} (h : M.1.cls = RX1) : LK M 34 mX11_at := Or.inr ⟨"GirlShots", by rw [h]; exact iTN_4 143 (by rfl) (by decide +kernel)⟩
theorem lX1_38 {M : Mt} (h : M.1.cls = RX1) : LK M 38 mX1_partsOf := Or.inl (by rw [h]; exact iT_4 144 (by rfl) (by decide +kernel))
theorem lX1_42 {M : Mt} (h : M.1.cls = RX1) : LK M 42 mX1_openAt := Or.inl (by rw [h]; exact iT_4 147 (by rfl) (by decide +kernel))
theorem lX1_46 {M : Mt} (h : M.1.cls = RX1) : LK M 46 mX1_join := Or.inl (by rw [h]; exact iT_4 151 (by rfl) (by decide +kernel))
theorem kX1_54 : Cond.constantLong RX1 54 (1000000000000) ∈ ALLW := iT_4 154 (by decide +kernel) (by decide +kernel)
theorem kX1_58 : Cond.constantLong RX1 58 (-9223372036854775808) ∈ ALLW := iT_4 155 (by decide +kernel) (by decide +kernel)
theorem lX1_50 {M : Mt} (h : M.1.cls = RX1) : LK M 50 mX1_leaf := Or.inl (by rw [h]; exact iT_4 156 (by rfl) (by decide +kernel))
theorem kX1_56 : Cond.constantLong RX1 56 (-1000000000000) ∈ ALLW := iT_4 159 (by decide +kernel) (by decide +kernel)
theorem lX11_197 {M : Mt} (h : M.1.cls = RX11) : LK M 197 mX0_yieldWorth := Or.inl (by rw [h]; exact iT_4 160 (by rfl) (by decide +kernel))
theorem lX11_204 {M : Mt} (h : M.1.cls = RX11) : LK M 204 mX0_againWorth := Or.inl (by rw [h]; exact iT_4 164 (by rfl) (by decide +kernel))
theorem lX0_226 {M : Mt} (h : M.1.cls = RX0) : LK M 226 mX5_givenCount := Or.inl (by rw [h]; exact iT_4 168 (by rfl) (by decide +kernel))
theorem lX0_171 {M : Mt} (h : M.1.cls = RX0) : LK M 171 mX5_clashing := Or.inl (by rw [h]; exact iT_4 172 (by rfl) (by decide +kernel))
theorem lX0_230 {M : Mt} (h : M.1.cls = RX0) : LK M 230 mX5_marksIn := Or.inl (by rw [h]; exact iT_4 173 (by rfl) (by decide +kernel))
theorem lL_66 {M : Mt} (h : M.1.cls = RL) : LK M 66 mX11_plums := Or.inl (by rw [h]; exact iT_4 177 (by rfl) (by decide +kernel))
theorem lX11_211 {M : Mt} (h : M.1.cls = RX11) : LK M 211 mX10_add := Or.inl (by rw [h]; exact iT_4 181 (by rfl) (by decide +kernel))
theorem lX10_29 {M : Mt} (h : M.1.cls = RX10) : LK M 29 mX11_put := Or.inr ⟨"GirlShots", by rw [h]; exact iTN_4 186 (by rfl) (by decide +kernel)⟩
theorem lX11_215 {M : Mt} (h : M.1.cls = RX11) : LK M 215 mX11_put := Or.inl (by rw [h]; exact iT_4 187 (by rfl) (by decide +kernel))
theorem lL_70 {M : Mt} (h : M.1.cls = RL) : LK M 70 mX11_move := Or.inl (by rw [h]; exact iT_4 188 (by rfl) (by decide +kernel))
theorem lL_75 {M : Mt} (h : M.1.cls = RL) : LK M 75 mX11_tell := Or.inl (by rw [h]; exact iT_4 192 (by rfl) (by decide +kernel))
theorem lX11_222 {M : Mt} (h : M.1.cls = RX11) : LK M 222 mX11_sayFromNowOn := Or.inl (by rw [h]; exact iT_4 196 (by rfl) (by decide +kernel))
theorem lL_79 {M : Mt} (h : M.1.cls = RL) : LK M 79 mX11_forget := Or.inl (by rw [h]; exact iT_4 200 (by rfl) (by decide +kernel))
theorem lL_84 {M : Mt} (h : M.1.cls = RL) : LK M 84 mX11_go := Or.inl (by rw [h]; exact iT_4 204 (by rfl) (by decide +kernel))
theorem lX11_229 {M : Mt} (h : M.1.cls = RX11) : LK M 229 mX0_pass := Or.inl (by rw [h]; exact iT_4 208 (by rfl) (by decide +kernel))
theorem lX0_67 {M : Mt} (h : M.1.cls = RX0) : LK M 67 mX0_isAway := Or.inl (by rw [h]; exact iT_4 212 (by rfl) (by decide +kernel))
theorem lX0_110 {M : Mt} (h : M.1.cls = RX0) : LK M 110 mX9_isCold := Or.inl (by rw [h]; exact iT_4 216 (by rfl) (by decide +kernel))
theorem lX9_93 {M : Mt} (h : M.1.cls = RX9) : LK M 93 mX11_at := Or.inr ⟨"GirlShots", by rw [h]; exact iTN_4 220 (by rfl) (by decide +kernel)⟩
theorem kX0_121 : Cond.constantLong RX0 121 (1103515245) ∈ ALLW := iT_4 221 (by decide +kernel) (by decide +kernel)
theorem kX0_123 : Cond.constantLong RX0 123 (12345) ∈ ALLW := iT_4 222 (by decide +kernel) (by decide +kernel)
theorem kX0_125 : Cond.constantLong RX0 125 (2147483647) ∈ ALLW := iT_4 223 (by decide +kernel) (by decide +kernel)
theorem kX0_127 : Cond.constantLong RX0 127 (65536) ∈ ALLW := iT_4 224 (by decide +kernel) (by decide +kernel)
theorem kX0_129 : Cond.constantLong RX0 129 (100) ∈ ALLW := iT_4 225 (by decide +kernel) (by decide +kernel)
theorem lX0_96 {M : Mt} (h : M.1.cls = RX0) : LK M 96 mX0_film := Or.inl (by rw [h]; exact iT_4 226 (by rfl) (by decide +kernel))
theorem lX0_131 {M : Mt} (h : M.1.cls = RX0) : LK M 131 mX11_put := Or.inr ⟨"GirlShots", by rw [h]; exact iTN_4 230 (by rfl) (by decide +kernel)⟩
theorem lX0_135 {M : Mt} (h : M.1.cls = RX0) : LK M 135 mX5_wayIn := Or.inl (by rw [h]; exact iT_4 231 (by rfl) (by decide +kernel))
theorem lX0_148 {M : Mt} (h : M.1.cls = RX0) : LK M 148 mX0_noticeWorth := Or.inl (by rw [h]; exact iT_4 232 (by rfl) (by decide +kernel))
theorem lX0_152 {M : Mt} (h : M.1.cls = RX0) : LK M 152 mX0_isSo := Or.inl (by rw [h]; exact iT_4 233 (by rfl) (by decide +kernel))
theorem lX0_103 {M : Mt} (h : M.1.cls = RX0) : LK M 103 mX0_give := Or.inl (by rw [h]; exact iT_4 236 (by rfl) (by decide +kernel))
theorem lX0_168 {M : Mt} (h : M.1.cls = RX0) : LK M 168 mX0_yieldWorth := Or.inl (by rw [h]; exact iT_5 0 (by rfl) (by decide +kernel))
theorem lX0_107 {M : Mt} (h : M.1.cls = RX0) : LK M 107 mX0_filmOneAgain := Or.inl (by rw [h]; exact iT_5 1 (by rfl) (by decide +kernel))
theorem lX0_175 {M : Mt} (h : M.1.cls = RX0) : LK M 175 mX0_againWorth := Or.inl (by rw [h]; exact iT_5 5 (by rfl) (by decide +kernel))
theorem kX0_183 : Cond.constantLong RX0 183 (999) ∈ ALLW := iT_5 6 (by decide +kernel) (by decide +kernel)
theorem lX0_185 {M : Mt} (h : M.1.cls = RX0) : LK M 185 mJ9_min_f86c9 := Or.inl (by rw [h]; exact iT_5 7 (by rfl) (by decide +kernel))
theorem lX0_191 {M : Mt} (h : M.1.cls = RX0) : LK M 191 mJ9_max_f86c9 := Or.inl (by rw [h]; exact iT_5 10 (by rfl) (by decide +kernel))
theorem lX0_197 {M : Mt} (h : M.1.cls = RX0) : LK M 197 mX0_filmAgain := Or.inl (by rw [h]; exact iT_5 13 (by rfl) (by decide +kernel))
theorem lX11_235 {M : Mt} (h : M.1.cls = RX11) : LK M 235 mX5_copy := Or.inl (by rw [h]; exact iT_5 17 (by rfl) (by decide +kernel))
theorem lL_88 {M : Mt} (h : M.1.cls = RL) : LK M 88 mX11_ahead := Or.inl (by rw [h]; exact iT_5 18 (by rfl) (by decide +kernel))
theorem lX11_237 {M : Mt} (h : M.1.cls = RX11) : LK M 237 mX5_filmedCount := Or.inl (by rw [h]; exact iT_5 22 (by rfl) (by decide +kernel))
theorem lX11_250 {M : Mt} (h : M.1.cls = RX11) : LK M 250 mX5_clashCount := Or.inl (by rw [h]; exact iT_5 26 (by rfl) (by decide +kernel))
theorem lX5_97 {M : Mt} (h : M.1.cls = RX5) : LK M 97 mX5_clashing := Or.inl (by rw [h]; exact iT_5 30 (by rfl) (by decide +kernel))
theorem lL_92 {M : Mt} (h : M.1.cls = RL) : LK M 92 mX11_breaks := Or.inl (by rw [h]; exact iT_5 31 (by rfl) (by decide +kernel))
theorem lX11_253 {M : Mt} (h : M.1.cls = RX11) : LK M 253 mX5_breakCount := Or.inl (by rw [h]; exact iT_5 35 (by rfl) (by decide +kernel))
theorem lX5_101 {M : Mt} (h : M.1.cls = RX5) : LK M 101 mX5_breaksBehind := Or.inl (by rw [h]; exact iT_5 39 (by rfl) (by decide +kernel))
theorem lL_97 {M : Mt} (h : M.1.cls = RL) : LK M 97 mX11_agrees := Or.inl (by rw [h]; exact iT_5 43 (by rfl) (by decide +kernel))
theorem lL_101 {M : Mt} (h : M.1.cls = RL) : LK M 101 mX11_least := Or.inl (by rw [h]; exact iT_5 47 (by rfl) (by decide +kernel))
theorem lX11_259 {M : Mt} (h : M.1.cls = RX11) : LK M 259 mX2_work := Or.inl (by rw [h]; exact iT_5 51 (by rfl) (by decide +kernel))
theorem lX2_29 {M : Mt} (h : M.1.cls = RX2) : LK M 29 mX2_clashesBy := Or.inl (by rw [h]; exact iT_5 55 (by rfl) (by decide +kernel))
theorem lX2_46 {M : Mt} (h : M.1.cls = RX2) : LK M 46 mX5_wayIn := Or.inl (by rw [h]; exact iT_5 58 (by rfl) (by decide +kernel))
theorem lX2_55 {M : Mt} (h : M.1.cls = RX2) : LK M 55 mX11_at := Or.inr ⟨"GirlShots", by rw [h]; exact iTN_5 59 (by rfl) (by decide +kernel)⟩
theorem lX2_33 {M : Mt} (h : M.1.cls = RX2) : LK M 33 mX11_put := Or.inr ⟨"GirlShots", by rw [h]; exact iTN_5 60 (by rfl) (by decide +kernel)⟩
theorem lX2_37 {M : Mt} (h : M.1.cls = RX2) : LK M 37 mX11_fill := Or.inr ⟨"GirlShots", by rw [h]; exact iTN_5 61 (by rfl) (by decide +kernel)⟩
theorem kX2_41 : Cond.constant RX2 41 (1000000) ∈ ALLW := iT_5 62 (by decide +kernel) (by decide +kernel)
theorem lX2_42 {M : Mt} (h : M.1.cls = RX2) : LK M 42 mX2_choose := Or.inl (by rw [h]; exact iT_5 63 (by rfl) (by decide +kernel))
theorem lX2_70 {M : Mt} (h : M.1.cls = RX2) : LK M 70 mX11_copyRow := Or.inr ⟨"GirlShots", by rw [h]; exact iTN_5 66 (by rfl) (by decide +kernel)⟩
theorem lX2_77 {M : Mt} (h : M.1.cls = RX2) : LK M 77 mX2_isWorth := Or.inl (by rw [h]; exact iT_5 67 (by rfl) (by decide +kernel))
theorem lX2_81 {M : Mt} (h : M.1.cls = RX2) : LK M 81 mX2_costOf := Or.inl (by rw [h]; exact iT_5 71 (by rfl) (by decide +kernel))
theorem lL_105 {M : Mt} (h : M.1.cls = RL) : LK M 105 mX11_order := Or.inl (by rw [h]; exact iT_5 75 (by rfl) (by decide +kernel))
theorem lX11_268 {M : Mt} (h : M.1.cls = RX11) : LK M 268 mX3_begin := Or.inl (by rw [h]; exact iT_5 79 (by rfl) (by decide +kernel))
theorem lX3_30 {M : Mt} (h : M.1.cls = RX3) : LK M 30 mX11_at := Or.inr ⟨"GirlShots", by rw [h]; exact iTN_5 83 (by rfl) (by decide +kernel)⟩
theorem lX3_34 {M : Mt} (h : M.1.cls = RX3) : LK M 34 mX11_put := Or.inr ⟨"GirlShots", by rw [h]; exact iTN_5 84 (by rfl) (by decide +kernel)⟩
theorem lX11_271 {M : Mt} (h : M.1.cls = RX11) : LK M 271 mX3_isRow := Or.inl (by rw [h]; exact iT_5 85 (by rfl) (by decide +kernel))
theorem lX3_38 {M : Mt} (h : M.1.cls = RX3) : LK M 38 mX3_pick := Or.inl (by rw [h]; exact iT_5 89 (by rfl) (by decide +kernel))
theorem lX11_274 {M : Mt} (h : M.1.cls = RX11) : LK M 274 mX3_putDays := Or.inl (by rw [h]; exact iT_5 92 (by rfl) (by decide +kernel))
theorem lX11_278 {M : Mt} (h : M.1.cls = RX11) : LK M 278 mX3_weigh := Or.inl (by rw [h]; exact iT_5 96 (by rfl) (by decide +kernel))
theorem lX11_285 {M : Mt} (h : M.1.cls = RX11) : LK M 285 mX3_shotAt := Or.inl (by rw [h]; exact iT_5 100 (by rfl) (by decide +kernel))
theorem lL_109 {M : Mt} (h : M.1.cls = RL) : LK M 109 mX11_noted := Or.inl (by rw [h]; exact iT_5 104 (by rfl) (by decide +kernel))
theorem lX11_288 {M : Mt} (h : M.1.cls = RX11) : LK M 288 mJ6_bitCount_0f7a4 := Or.inl (by rw [h]; exact iT_5 108 (by rfl) (by decide +kernel))
theorem kJ6_265 : Cond.constant RJ6 265 (1431655765) ∈ ALLW := iT_5 111 (by decide +kernel) (by decide +kernel)
theorem kJ6_266 : Cond.constant RJ6 266 (858993459) ∈ ALLW := iT_5 112 (by decide +kernel) (by decide +kernel)
theorem kJ6_267 : Cond.constant RJ6 267 (252645135) ∈ ALLW := iT_5 113 (by decide +kernel) (by decide +kernel)
theorem lX11_293 {M : Mt} (h : M.1.cls = RX11) : LK M 293 mX11_notedBy := Or.inl (by rw [h]; exact iT_5 114 (by rfl) (by decide +kernel))
theorem lL_113 {M : Mt} (h : M.1.cls = RL) : LK M 113 mX11_bribe := Or.inl (by rw [h]; exact iT_5 118 (by rfl) (by decide +kernel))
theorem lL_117 {M : Mt} (h : M.1.cls = RL) : LK M 117 mX11_rests := Or.inl (by rw [h]; exact iT_5 122 (by rfl) (by decide +kernel))
theorem lX11_296 {M : Mt} (h : M.1.cls = RX11) : LK M 296 mX11_canBid := Or.inl (by rw [h]; exact iT_5 126 (by rfl) (by decide +kernel))
theorem lX11_299 {M : Mt} (h : M.1.cls = RX11) : LK M 299 mX11_isRest := Or.inl (by rw [h]; exact iT_5 130 (by rfl) (by decide +kernel))
theorem lX11_308 {M : Mt} (h : M.1.cls = RX11) : LK M 308 mX11_isBest := Or.inl (by rw [h]; exact iT_5 134 (by rfl) (by decide +kernel))
theorem lX11_311 {M : Mt} (h : M.1.cls = RX11) : LK M 311 mX11_gain := Or.inl (by rw [h]; exact iT_5 137 (by rfl) (by decide +kernel))
theorem lL_121 {M : Mt} (h : M.1.cls = RL) : LK M 121 mX11_rest := Or.inl (by rw [h]; exact iT_5 140 (by rfl) (by decide +kernel))
theorem lL_126 {M : Mt} (h : M.1.cls = RL) : LK M 126 mX11_there := Or.inl (by rw [h]; exact iT_5 144 (by rfl) (by decide +kernel))
theorem kX11_314 : Cond.constantLong RX11 314 (-1) ∈ ALLW := iT_5 148 (by decide +kernel) (by decide +kernel)
theorem lX11_319 {M : Mt} (h : M.1.cls = RX11) : LK M 319 mX11_commonPart := Or.inl (by rw [h]; exact iT_5 149 (by rfl) (by decide +kernel))
theorem lL_131 {M : Mt} (h : M.1.cls = RL) : LK M 131 mX11_without := Or.inl (by rw [h]; exact iT_5 152 (by rfl) (by decide +kernel))
theorem lL_135 {M : Mt} (h : M.1.cls = RL) : LK M 135 mX11_run := Or.inl (by rw [h]; exact iT_5 156 (by rfl) (by decide +kernel))
theorem lX11_322 {M : Mt} (h : M.1.cls = RX11) : LK M 322 mX5_breaksBehind := Or.inl (by rw [h]; exact iT_5 160 (by rfl) (by decide +kernel))
theorem lX11_325 {M : Mt} (h : M.1.cls = RX11) : LK M 325 mJ9_max_7cf53 := Or.inl (by rw [h]; exact iT_5 161 (by rfl) (by decide +kernel))
theorem lL_139 {M : Mt} (h : M.1.cls = RL) : LK M 139 mX11_believed := Or.inl (by rw [h]; exact iT_5 164 (by rfl) (by decide +kernel))
theorem lL_143 {M : Mt} (h : M.1.cls = RL) : LK M 143 mX11_see := Or.inl (by rw [h]; exact iT_5 168 (by rfl) (by decide +kernel))
theorem lX11_328 {M : Mt} (h : M.1.cls = RX11) : LK M 328 mX6_add := Or.inl (by rw [h]; exact iT_5 172 (by rfl) (by decide +kernel))
theorem lX6_28 {M : Mt} (h : M.1.cls = RX6) : LK M 28 mX11_put := Or.inr ⟨"GirlShots", by rw [h]; exact iTN_5 176 (by rfl) (by decide +kernel)⟩
theorem lL_148 {M : Mt} (h : M.1.cls = RL) : LK M 148 mX11_out := Or.inl (by rw [h]; exact iT_5 177 (by rfl) (by decide +kernel))
theorem lL_152 {M : Mt} (h : M.1.cls = RL) : LK M 152 mX11_known := Or.inl (by rw [h]; exact iT_5 181 (by rfl) (by decide +kernel))
theorem lL_156 {M : Mt} (h : M.1.cls = RL) : LK M 156 mX11_struckHow := Or.inl (by rw [h]; exact iT_5 185 (by rfl) (by decide +kernel))
theorem lX11_335 {M : Mt} (h : M.1.cls = RX11) : LK M 335 mX6_knownOnes := Or.inl (by rw [h]; exact iT_5 189 (by rfl) (by decide +kernel))
theorem lX6_32 {M : Mt} (h : M.1.cls = RX6) : LK M 32 mX6_knownCount := Or.inl (by rw [h]; exact iT_5 193 (by rfl) (by decide +kernel))
theorem lX6_36 {M : Mt} (h : M.1.cls = RX6) : LK M 36 mX11_at := Or.inr ⟨"GirlShots", by rw [h]; exact iTN_5 197 (by rfl) (by decide +kernel)⟩
theorem lX11_338 {M : Mt} (h : M.1.cls = RX11) : LK M 338 mX6_lastDay := Or.inl (by rw [h]; exact iT_5 198 (by rfl) (by decide +kernel))
theorem lX6_40 {M : Mt} (h : M.1.cls = RX6) : LK M 40 mJ9_max_7cf53 := Or.inl (by rw [h]; exact iT_5 202 (by rfl) (by decide +kernel))
theorem lX11_344 {M : Mt} (h : M.1.cls = RX11) : LK M 344 mX6_fits := Or.inl (by rw [h]; exact iT_5 203 (by rfl) (by decide +kernel))
theorem lL_160 {M : Mt} (h : M.1.cls = RL) : LK M 160 mX11_chance := Or.inl (by rw [h]; exact iT_5 207 (by rfl) (by decide +kernel))
theorem lL_164 {M : Mt} (h : M.1.cls = RL) : LK M 164 mX11_tried := Or.inl (by rw [h]; exact iT_5 211 (by rfl) (by decide +kernel))
theorem lX11_352 {M : Mt} (h : M.1.cls = RX11) : LK M 352 mX0_otherwise := Or.inl (by rw [h]; exact iT_5 215 (by rfl) (by decide +kernel))
theorem lX0_63 {M : Mt} (h : M.1.cls = RX0) : LK M 63 mX11_fill := Or.inr ⟨"GirlShots", by rw [h]; exact iTN_5 219 (by rfl) (by decide +kernel)⟩
theorem lL_168 {M : Mt} (h : M.1.cls = RL) : LK M 168 mX11_undo := Or.inl (by rw [h]; exact iT_5 220 (by rfl) (by decide +kernel))
theorem lX11_355 {M : Mt} (h : M.1.cls = RX11) : LK M 355 mX10_takeBack := Or.inl (by rw [h]; exact iT_5 224 (by rfl) (by decide +kernel))
theorem lX10_35 {M : Mt} (h : M.1.cls = RX10) : LK M 35 mX11_at := Or.inr ⟨"GirlShots", by rw [h]; exact iTN_5 228 (by rfl) (by decide +kernel)⟩
theorem lL_172 {M : Mt} (h : M.1.cls = RL) : LK M 172 mX11_keep := Or.inl (by rw [h]; exact iT_5 229 (by rfl) (by decide +kernel))
theorem lL_176 {M : Mt} (h : M.1.cls = RL) : LK M 176 mX11_back := Or.inl (by rw [h]; exact iT_5 233 (by rfl) (by decide +kernel))
theorem lL_180 {M : Mt} (h : M.1.cls = RL) : LK M 180 mX11_count := Or.inl (by rw [h]; exact iT_5 237 (by rfl) (by decide +kernel))
theorem lX11_366 {M : Mt} (h : M.1.cls = RX11) : LK M 366 mX6_knownCount := Or.inl (by rw [h]; exact iT_6 1 (by rfl) (by decide +kernel))
theorem lL_7 {M : Mt} (h : M.1.cls = RL) : LK M 7 mX11_mark := Or.inl (by rw [h]; exact iT_6 7 (by rfl) (by decide +kernel))
theorem lX11_159 {M : Mt} (h : M.1.cls = RX11) : LK M 159 mX5_filmedWith := Or.inl (by rw [h]; exact iT_6 77 (by rfl) (by decide +kernel))
theorem lL_20 {M : Mt} (h : M.1.cls = RL) : LK M 20 mX12_init := Or.inl (by rw [h]; exact iT_6 96 (by rfl) (by decide +kernel))
theorem lX12_166 {M : Mt} (h : M.1.cls = RX12) : LK M 166 mX12_begins := Or.inl (by rw [h]; exact iT_6 100 (by rfl) (by decide +kernel))
theorem lX12_358 {M : Mt} (h : M.1.cls = RX12) : LK M 358 mX12_starts := Or.inl (by rw [h]; exact iT_6 104 (by rfl) (by decide +kernel))
theorem fX12_169 {M : Mt} (h : M.1.cls = RX12) : FL M 169 12 0 := ⟨RX12, TX12, 75, cls12, by decide, Or.inl (by rw [h]; exact iT_6 108 (by first | rfl | decide +kernel) (by decide +kernel))⟩
theorem fwX12_169 {M : Mt} (h : M.1.cls = RX12) : FLW M 169 12 0 := ⟨RX12, TX12, 75, cls12, by decide, by decide +kernel, Or.inl (by rw [h]; exact iT_6 108 (by first | rfl | decide +kernel) (by decide +kernel))⟩
theorem fX12_7 {M : Mt} (h : M.1.cls = RX12) : FL M 7 12 1 := ⟨RX12, TX12, 75, cls12, by decide, Or.inl (by rw [h]; exact iT_6 109 (by first | rfl | decide +kernel) (by decide +kernel))⟩
theorem ffX12_7 {M : Mt} (h : M.1.cls = RX12) (hn : M.1.name = "<init>") : FLF M 7 12 1 := ⟨hn, RX12, TX12, 75, cls12, by decide, by decide +kernel, by rw [h]; decide +kernel, by rw [h]; exact iT_6 109 (by first | rfl | decide +kernel) (by decide +kernel)⟩
theorem fX12_172 {M : Mt} (h : M.1.cls = RX12) : FL M 172 12 2 := ⟨RX12, TX12, 75, cls12, by decide, Or.inl (by rw [h]; exact iT_6 110 (by first | rfl | decide +kernel) (by decide +kernel))⟩
theorem fwX12_172 {M : Mt} (h : M.1.cls = RX12) : FLW M 172 12 2 := ⟨RX12, TX12, 75, cls12, by decide, by decide +kernel, Or.inl (by rw [h]; exact iT_6 110 (by first | rfl | decide +kernel) (by decide +kernel))⟩
theorem fX12_13 {M : Mt} (h : M.1.cls = RX12) : FL M 13 12 3 := ⟨RX12, TX12, 75, cls12, by decide, Or.inl (by rw [h]; exact iT_6 111 (by first | rfl | decide +kernel) (by decide +kernel))⟩
theorem ffX12_13 {M : Mt} (h : M.1.cls = RX12) (hn : M.1.name = "<init>") : FLF M 13 12 3 := ⟨hn, RX12, TX12, 75, cls12, by decide, by decide +kernel, by rw [h]; decide +kernel, by rw [h]; exact iT_6 111 (by first | rfl | decide +kernel) (by decide +kernel)⟩
theorem fX12_16 {M : Mt} (h : M.1.cls = RX12) : FL M 16 12 4 := ⟨RX12, TX12, 75, cls12, by decide, Or.inl (by rw [h]; exact iT_6 112 (by first | rfl | decide +kernel) (by decide +kernel))⟩
theorem ffX12_16 {M : Mt} (h : M.1.cls = RX12) (hn : M.1.name = "<init>") : FLF M 16 12 4 := ⟨hn, RX12, TX12, 75, cls12, by decide, by decide +kernel, by rw [h]; decide +kernel, by rw [h]; exact iT_6 112 (by first | rfl | decide +kernel) (by decide +kernel)⟩
theorem fX12_19 {M : Mt} (h : M.1.cls = RX12) : FL M 19 12 5 := ⟨RX12, TX12, 75, cls12, by decide, Or.inl (by rw [h]; exact iT_6 113 (by first | rfl | decide +kernel) (by decide +kernel))⟩
theorem ffX12_19 {M : Mt} (h : M.1.cls = RX12) (hn : M.1.name = "<init>") : FLF M 19 12 5 := ⟨hn, RX12, TX12, 75, cls12, by decide, by decide +kernel, by rw [h]; decide +kernel, by rw [h]; exact iT_6 113 (by first | rfl | decide +kernel) (by decide +kernel)⟩
theorem fX12_22 {M : Mt} (h : M.1.cls = RX12) : FL M 22 12 6 := ⟨RX12, TX12, 75, cls12, by decide, Or.inl (by rw [h]; exact iT_6 114 (by first | rfl | decide +kernel) (by decide +kernel))⟩
theorem ffX12_22 {M : Mt} (h : M.1.cls = RX12) (hn : M.1.name = "<init>") : FLF M 22 12 6 := ⟨hn, RX12, TX12, 75, cls12, by decide, by decide +kernel, by rw [h]; decide +kernel, by rw [h]; exact iT_6 114 (by first | rfl | decide +kernel) (by decide +kernel)⟩
theorem fX12_25 {M : Mt} (h : M.1.cls = RX12) : FL M 25 12 7 := ⟨RX12, TX12, 75, cls12, by decide, Or.inl (by rw [h]; exact iT_6 115 (by first | rfl | decide +kernel) (by decide +kernel))⟩
theorem ffX12_25 {M : Mt} (h : M.1.cls = RX12) (hn : M.1.name = "<init>") : FLF M 25 12 7 := ⟨hn, RX12, TX12, 75, cls12, by decide, by decide +kernel, by rw [h]; decide +kernel, by rw [h]; exact iT_6 115 (by first | rfl | decide +kernel) (by decide +kernel)⟩
theorem fX12_28 {M : Mt} (h : M.1.cls = RX12) : FL M 28 12 8 := ⟨RX12, TX12, 75, cls12, by decide, Or.inl (by rw [h]; exact iT_6 116 (by first | rfl | decide +kernel) (by decide +kernel))⟩
theorem ffX12_28 {M : Mt} (h : M.1.cls = RX12) (hn : M.1.name = "<init>") : FLF M 28 12 8 := ⟨hn, RX12, TX12, 75, cls12, by decide, by decide +kernel, by rw [h]; decide +kernel, by rw [h]; exact iT_6 116 (by first | rfl | decide +kernel) (by decide +kernel)⟩
theorem fX12_31 {M : Mt} (h : M.1.cls = RX12) : FL M 31 12 9 := ⟨RX12, TX12, 75, cls12, by decide, Or.inl (by rw [h]; exact iT_6 117 (by first | rfl | decide +kernel) (by decide +kernel))⟩
theorem ffX12_31 {M : Mt} (h : M.1.cls = RX12) (hn : M.1.name = "<init>") : FLF M 31 12 9 := ⟨hn, RX12, TX12, 75, cls12, by decide, by decide +kernel, by rw [h]; decide +kernel, by rw [h]; exact iT_6 117 (by first | rfl | decide +kernel) (by decide +kernel)⟩
theorem fX12_34 {M : Mt} (h : M.1.cls = RX12) : FL M 34 12 10 := ⟨RX12, TX12, 75, cls12, by decide, Or.inl (by rw [h]; exact iT_6 118 (by first | rfl | decide +kernel) (by decide +kernel))⟩
theorem ffX12_34 {M : Mt} (h : M.1.cls = RX12) (hn : M.1.name = "<init>") : FLF M 34 12 10 := ⟨hn, RX12, TX12, 75, cls12, by decide, by decide +kernel, by rw [h]; decide +kernel, by rw [h]; exact iT_6 118 (by first | rfl | decide +kernel) (by decide +kernel)⟩
theorem fX12_37 {M : Mt} (h : M.1.cls = RX12) : FL M 37 12 11 := ⟨RX12, TX12, 75, cls12, by decide, Or.inl (by rw [h]; exact iT_6 119 (by first | rfl | decide +kernel) (by decide +kernel))⟩
theorem ffX12_37 {M : Mt} (h : M.1.cls = RX12) (hn : M.1.name = "<init>") : FLF M 37 12 11 := ⟨hn, RX12, TX12, 75, cls12, by decide, by decide +kernel, by rw [h]; decide +kernel, by rw [h]; exact iT_6 119 (by first | rfl | decide +kernel) (by decide +kernel)⟩
theorem fX12_40 {M : Mt} (h : M.1.cls = RX12) : FL M 40 12 12 := ⟨RX12, TX12, 75, cls12, by decide, Or.inl (by rw [h]; exact iT_6 120 (by first | rfl | decide +kernel) (by decide +kernel))⟩
theorem ffX12_40 {M : Mt} (h : M.1.cls = RX12) (hn : M.1.name = "<init>") : FLF M 40 12 12 := ⟨hn, RX12, TX12, 75, cls12, by decide, by decide +kernel, by rw [h]; decide +kernel, by rw [h]; exact iT_6 120 (by first | rfl | decide +kernel) (by decide +kernel)⟩
theorem fX12_43 {M : Mt} (h : M.1.cls = RX12) : FL M 43 12 13 := ⟨RX12, TX12, 75, cls12, by decide, Or.inl (by rw [h]; exact iT_6 121 (by first | rfl | decide +kernel) (by decide +kernel))⟩
theorem ffX12_43 {M : Mt} (h : M.1.cls = RX12) (hn : M.1.name = "<init>") : FLF M 43 12 13 := ⟨hn, RX12, TX12, 75, cls12, by decide, by decide +kernel, by rw [h]; decide +kernel, by rw [h]; exact iT_6 121 (by first | rfl | decide +kernel) (by decide +kernel)⟩
theorem fX12_46 {M : Mt} (h : M.1.cls = RX12) : FL M 46 12 14 := ⟨RX12, TX12, 75, cls12, by decide, Or.inl (by rw [h]; exact iT_6 122 (by first | rfl | decide +kernel) (by decide +kernel))⟩
theorem ffX12_46 {M : Mt} (h : M.1.cls = RX12) (hn : M.1.name = "<init>") : FLF M 46 12 14 := ⟨hn, RX12, TX12, 75, cls12, by decide, by decide +kernel, by rw [h]; decide +kernel, by rw [h]; exact iT_6 122 (by first | rfl | decide +kernel) (by decide +kernel)⟩
theorem fX12_49 {M : Mt} (h : M.1.cls = RX12) : FL M 49 12 15 := ⟨RX12, TX12, 75, cls12, by decide, Or.inl (by rw [h]; exact iT_6 123 (by first | rfl | decide +kernel) (by decide +kernel))⟩
theorem ffX12_49 {M : Mt} (h : M.1.cls = RX12) (hn : M.1.name = "<init>") : FLF M 49 12 15 := ⟨hn, RX12, TX12, 75, cls12, by decide, by decide +kernel, by rw [h]; decide +kernel, by rw [h]; exact iT_6 123 (by first | rfl | decide +kernel) (by decide +kernel)⟩
theorem fX12_52 {M : Mt} (h : M.1.cls = RX12) : FL M 52 12 16 := ⟨RX12, TX12, 75, cls12, by decide, Or.inl (by rw [h]; exact iT_6 124 (by first | rfl | decide +kernel) (by decide +kernel))⟩
theorem ffX12_52 {M : Mt} (h : M.1.cls = RX12) (hn : M.1.name = "<init>") : FLF M 52 12 16 := ⟨hn, RX12, TX12, 75, cls12, by decide, by decide +kernel, by rw [h]; decide +kernel, by rw [h]; exact iT_6 124 (by first | rfl | decide +kernel) (by decide +kernel)⟩
theorem fX12_55 {M : Mt} (h : M.1.cls = RX12) : FL M 55 12 17 := ⟨RX12, TX12, 75, cls12, by decide, Or.inl (by rw [h]; exact iT_6 125 (by first | rfl | decide +kernel) (by decide +kernel))⟩
theorem ffX12_55 {M : Mt} (h : M.1.cls = RX12) (hn : M.1.name = "<init>") : FLF M 55 12 17 := ⟨hn, RX12, TX12, 75, cls12, by decide, by decide +kernel, by rw [h]; decide +kernel, by rw [h]; exact iT_6 125 (by first | rfl | decide +kernel) (by decide +kernel)⟩
theorem fX12_58 {M : Mt} (h : M.1.cls = RX12) : FL M 58 12 18 := ⟨RX12, TX12, 75, cls12, by decide, Or.inl (by rw [h]; exact iT_6 126 (by first | rfl | decide +kernel) (by decide +kernel))⟩
theorem ffX12_58 {M : Mt} (h : M.1.cls = RX12) (hn : M.1.name = "<init>") : FLF M 58 12 18 := ⟨hn, RX12, TX12, 75, cls12, by decide, by decide +kernel, by rw [h]; decide +kernel, by rw [h]; exact iT_6 126 (by first | rfl | decide +kernel) (by decide +kernel)⟩
theorem fX12_61 {M : Mt} (h : M.1.cls = RX12) : FL M 61 12 19 := ⟨RX12, TX12, 75, cls12, by decide, Or.inl (by rw [h]; exact iT_6 127 (by first | rfl | decide +kernel) (by decide +kernel))⟩
theorem ffX12_61 {M : Mt} (h : M.1.cls = RX12) (hn : M.1.name = "<init>") : FLF M 61 12 19 := ⟨hn, RX12, TX12, 75, cls12, by decide, by decide +kernel, by rw [h]; decide +kernel, by rw [h]; exact iT_6 127 (by first | rfl | decide +kernel) (by decide +kernel)⟩
theorem fX12_64 {M : Mt} (h : M.1.cls = RX12) : FL M 64 12 20 := ⟨RX12, TX12, 75, cls12, by decide, Or.inl (by rw [h]; exact iT_6 128 (by first | rfl | decide +kernel) (by decide +kernel))⟩
theorem ffX12_64 {M : Mt} (h : M.1.cls = RX12) (hn : M.1.name = "<init>") : FLF M 64 12 20 := ⟨hn, RX12, TX12, 75, cls12, by decide, by decide +kernel, by rw [h]; decide +kernel, by rw [h]; exact iT_6 128 (by first | rfl | decide +kernel) (by decide +kernel)⟩
theorem fX12_67 {M : Mt} (h : M.1.cls = RX12) : FL M 67 12 21 := ⟨RX12, TX12, 75, cls12, by decide, Or.inl (by rw [h]; exact iT_6 129 (by first | rfl | decide +kernel) (by decide +kernel))⟩
theorem ffX12_67 {M : Mt} (h : M.1.cls = RX12) (hn : M.1.name = "<init>") : FLF M 67 12 21 := ⟨hn, RX12, TX12, 75, cls12, by decide, by decide +kernel, by rw [h]; decide +kernel, by rw [h]; exact iT_6 129 (by first | rfl | decide +kernel) (by decide +kernel)⟩
theorem fX12_70 {M : Mt} (h : M.1.cls = RX12) : FL M 70 12 22 := ⟨RX12, TX12, 75, cls12, by decide, Or.inl (by rw [h]; exact iT_6 130 (by first | rfl | decide +kernel) (by decide +kernel))⟩
theorem ffX12_70 {M : Mt} (h : M.1.cls = RX12) (hn : M.1.name = "<init>") : FLF M 70 12 22 := ⟨hn, RX12, TX12, 75, cls12, by decide, by decide +kernel, by rw [h]; decide +kernel, by rw [h]; exact iT_6 130 (by first | rfl | decide +kernel) (by decide +kernel)⟩
theorem fX12_250 {M : Mt} (h : M.1.cls = RX12) : FL M 250 12 23 := ⟨RX12, TX12, 75, cls12, by decide, Or.inl (by rw [h]; exact iT_6 131 (by first | rfl | decide +kernel) (by decide +kernel))⟩
theorem fwX12_250 {M : Mt} (h : M.1.cls = RX12) : FLW M 250 12 23 := ⟨RX12, TX12, 75, cls12, by decide, by decide +kernel, Or.inl (by rw [h]; exact iT_6 131 (by first | rfl | decide +kernel) (by decide +kernel))⟩
theorem fX12_276 {M : Mt} (h : M.1.cls = RX12) : FL M 276 12 24 := ⟨RX12, TX12, 75, cls12, by decide, Or.inl (by rw [h]; exact iT_6 132 (by first | rfl | decide +kernel) (by decide +kernel))⟩
theorem fwX12_276 {M : Mt} (h : M.1.cls = RX12) : FLW M 276 12 24 := ⟨RX12, TX12, 75, cls12, by decide, by decide +kernel, Or.inl (by rw [h]; exact iT_6 132 (by first | rfl | decide +kernel) (by decide +kernel))⟩
theorem fX12_178 {M : Mt} (h : M.1.cls = RX12) : FL M 178 12 25 := ⟨RX12, TX12, 75, cls12, by decide, Or.inl (by rw [h]; exact iT_6 133 (by first | rfl | decide +kernel) (by decide +kernel))⟩
theorem fwX12_178 {M : Mt} (h : M.1.cls = RX12) : FLW M 178 12 25 := ⟨RX12, TX12, 75, cls12, by decide, by decide +kernel, Or.inl (by rw [h]; exact iT_6 133 (by first | rfl | decide +kernel) (by decide +kernel))⟩
theorem fX12_175 {M : Mt} (h : M.1.cls = RX12) : FL M 175 12 26 := ⟨RX12, TX12, 75, cls12, by decide, Or.inl (by rw [h]; exact iT_6 134 (by first | rfl | decide +kernel) (by decide +kernel))⟩
theorem fwX12_175 {M : Mt} (h : M.1.cls = RX12) : FLW M 175 12 26 := ⟨RX12, TX12, 75, cls12, by decide, by decide +kernel, Or.inl (by rw [h]; exact iT_6 134 (by first | rfl | decide +kernel) (by decide +kernel))⟩
theorem fX12_185 {M : Mt} (h : M.1.cls = RX12) : FL M 185 12 27 := ⟨RX12, TX12, 75, cls12, by decide, Or.inl (by rw [h]; exact iT_6 135 (by first | rfl | decide +kernel) (by decide +kernel))⟩
theorem fwX12_185 {M : Mt} (h : M.1.cls = RX12) : FLW M 185 12 27 := ⟨RX12, TX12, 75, cls12, by decide, by decide +kernel, Or.inl (by rw [h]; exact iT_6 135 (by first | rfl | decide +kernel) (by decide +kernel))⟩
theorem fX12_188 {M : Mt} (h : M.1.cls = RX12) : FL M 188 12 28 := ⟨RX12, TX12, 75, cls12, by decide, Or.inl (by rw [h]; exact iT_6 136 (by first | rfl | decide +kernel) (by decide +kernel))⟩
theorem fwX12_188 {M : Mt} (h : M.1.cls = RX12) : FLW M 188 12 28 := ⟨RX12, TX12, 75, cls12, by decide, by decide +kernel, Or.inl (by rw [h]; exact iT_6 136 (by first | rfl | decide +kernel) (by decide +kernel))⟩
theorem fX12_198 {M : Mt} (h : M.1.cls = RX12) : FL M 198 12 29 := ⟨RX12, TX12, 75, cls12, by decide, Or.inl (by rw [h]; exact iT_6 137 (by first | rfl | decide +kernel) (by decide +kernel))⟩
theorem fwX12_198 {M : Mt} (h : M.1.cls = RX12) : FLW M 198 12 29 := ⟨RX12, TX12, 75, cls12, by decide, by decide +kernel, Or.inl (by rw [h]; exact iT_6 137 (by first | rfl | decide +kernel) (by decide +kernel))⟩
theorem fX12_223 {M : Mt} (h : M.1.cls = RX12) : FL M 223 12 30 := ⟨RX12, TX12, 75, cls12, by decide, Or.inl (by rw [h]; exact iT_6 138 (by first | rfl | decide +kernel) (by decide +kernel))⟩
theorem fwX12_223 {M : Mt} (h : M.1.cls = RX12) : FLW M 223 12 30 := ⟨RX12, TX12, 75, cls12, by decide, by decide +kernel, Or.inl (by rw [h]; exact iT_6 138 (by first | rfl | decide +kernel) (by decide +kernel))⟩
theorem fX12_226 {M : Mt} (h : M.1.cls = RX12) : FL M 226 12 31 := ⟨RX12, TX12, 75, cls12, by decide, Or.inl (by rw [h]; exact iT_6 139 (by first | rfl | decide +kernel) (by decide +kernel))⟩
theorem fwX12_226 {M : Mt} (h : M.1.cls = RX12) : FLW M 226 12 31 := ⟨RX12, TX12, 75, cls12, by decide, by decide +kernel, Or.inl (by rw [h]; exact iT_6 139 (by first | rfl | decide +kernel) (by decide +kernel))⟩
theorem fX12_321 {M : Mt} (h : M.1.cls = RX12) : FL M 321 12 32 := ⟨RX12, TX12, 75, cls12, by decide, Or.inl (by rw [h]; exact iT_6 140 (by first | rfl | decide +kernel) (by decide +kernel))⟩
theorem fwX12_321 {M : Mt} (h : M.1.cls = RX12) : FLW M 321 12 32 := ⟨RX12, TX12, 75, cls12, by decide, by decide +kernel, Or.inl (by rw [h]; exact iT_6 140 (by first | rfl | decide +kernel) (by decide +kernel))⟩
theorem fX12_73 {M : Mt} (h : M.1.cls = RX12) : FL M 73 12 33 := ⟨RX12, TX12, 75, cls12, by decide, Or.inl (by rw [h]; exact iT_6 141 (by first | rfl | decide +kernel) (by decide +kernel))⟩
theorem fwX12_73 {M : Mt} (h : M.1.cls = RX12) : FLW M 73 12 33 := ⟨RX12, TX12, 75, cls12, by decide, by decide +kernel, Or.inl (by rw [h]; exact iT_6 141 (by first | rfl | decide +kernel) (by decide +kernel))⟩
theorem fX12_315 {M : Mt} (h : M.1.cls = RX12) : FL M 315 12 34 := ⟨RX12, TX12, 75, cls12, by decide, Or.inl (by rw [h]; exact iT_6 142 (by first | rfl | decide +kernel) (by decide +kernel))⟩
theorem fwX12_315 {M : Mt} (h : M.1.cls = RX12) : FLW M 315 12 34 := ⟨RX12, TX12, 75, cls12, by decide, by decide +kernel, Or.inl (by rw [h]; exact iT_6 142 (by first | rfl | decide +kernel) (by decide +kernel))⟩
theorem fX12_288 {M : Mt} (h : M.1.cls = RX12) : FL M 288 12 35 := ⟨RX12, TX12, 75, cls12, by decide, Or.inl (by rw [h]; exact iT_6 143 (by first | rfl | decide +kernel) (by decide +kernel))⟩
theorem fwX12_288 {M : Mt} (h : M.1.cls = RX12) : FLW M 288 12 35 := ⟨RX12, TX12, 75, cls12, by decide, by decide +kernel, Or.inl (by rw [h]; exact iT_6 143 (by first | rfl | decide +kernel) (by decide +kernel))⟩
theorem fX12_77 {M : Mt} (h : M.1.cls = RX12) : FL M 77 12 36 := ⟨RX12, TX12, 75, cls12, by decide, Or.inl (by rw [h]; exact iT_6 144 (by first | rfl | decide +kernel) (by decide +kernel))⟩
theorem ffX12_77 {M : Mt} (h : M.1.cls = RX12) (hn : M.1.name = "<init>") : FLF M 77 12 36 := ⟨hn, RX12, TX12, 75, cls12, by decide, by decide +kernel, by rw [h]; decide +kernel, by rw [h]; exact iT_6 144 (by first | rfl | decide +kernel) (by decide +kernel)⟩
theorem fX12_81 {M : Mt} (h : M.1.cls = RX12) : FL M 81 12 37 := ⟨RX12, TX12, 75, cls12, by decide, Or.inl (by rw [h]; exact iT_6 145 (by first | rfl | decide +kernel) (by decide +kernel))⟩
theorem ffX12_81 {M : Mt} (h : M.1.cls = RX12) (hn : M.1.name = "<init>") : FLF M 81 12 37 := ⟨hn, RX12, TX12, 75, cls12, by decide, by decide +kernel, by rw [h]; decide +kernel, by rw [h]; exact iT_6 145 (by first | rfl | decide +kernel) (by decide +kernel)⟩
theorem fX12_338 {M : Mt} (h : M.1.cls = RX12) : FL M 338 12 38 := ⟨RX12, TX12, 75, cls12, by decide, Or.inl (by rw [h]; exact iT_6 146 (by first | rfl | decide +kernel) (by decide +kernel))⟩
theorem fwX12_338 {M : Mt} (h : M.1.cls = RX12) : FLW M 338 12 38 := ⟨RX12, TX12, 75, cls12, by decide, by decide +kernel, Or.inl (by rw [h]; exact iT_6 146 (by first | rfl | decide +kernel) (by decide +kernel))⟩
theorem fX12_84 {M : Mt} (h : M.1.cls = RX12) : FL M 84 12 39 := ⟨RX12, TX12, 75, cls12, by decide, Or.inl (by rw [h]; exact iT_6 147 (by first | rfl | decide +kernel) (by decide +kernel))⟩
theorem ffX12_84 {M : Mt} (h : M.1.cls = RX12) (hn : M.1.name = "<init>") : FLF M 84 12 39 := ⟨hn, RX12, TX12, 75, cls12, by decide, by decide +kernel, by rw [h]; decide +kernel, by rw [h]; exact iT_6 147 (by first | rfl | decide +kernel) (by decide +kernel)⟩
theorem fX12_87 {M : Mt} (h : M.1.cls = RX12) : FL M 87 12 40 := ⟨RX12, TX12, 75, cls12, by decide, Or.inl (by rw [h]; exact iT_6 148 (by first | rfl | decide +kernel) (by decide +kernel))⟩
theorem ffX12_87 {M : Mt} (h : M.1.cls = RX12) (hn : M.1.name = "<init>") : FLF M 87 12 40 := ⟨hn, RX12, TX12, 75, cls12, by decide, by decide +kernel, by rw [h]; decide +kernel, by rw [h]; exact iT_6 148 (by first | rfl | decide +kernel) (by decide +kernel)⟩
theorem fX12_90 {M : Mt} (h : M.1.cls = RX12) : FL M 90 12 41 := ⟨RX12, TX12, 75, cls12, by decide, Or.inl (by rw [h]; exact iT_6 149 (by first | rfl | decide +kernel) (by decide +kernel))⟩
theorem ffX12_90 {M : Mt} (h : M.1.cls = RX12) (hn : M.1.name = "<init>") : FLF M 90 12 41 := ⟨hn, RX12, TX12, 75, cls12, by decide, by decide +kernel, by rw [h]; decide +kernel, by rw [h]; exact iT_6 149 (by first | rfl | decide +kernel) (by decide +kernel)⟩
theorem fX12_93 {M : Mt} (h : M.1.cls = RX12) : FL M 93 12 42 := ⟨RX12, TX12, 75, cls12, by decide, Or.inl (by rw [h]; exact iT_6 150 (by first | rfl | decide +kernel) (by decide +kernel))⟩
theorem ffX12_93 {M : Mt} (h : M.1.cls = RX12) (hn : M.1.name = "<init>") : FLF M 93 12 42 := ⟨hn, RX12, TX12, 75, cls12, by decide, by decide +kernel, by rw [h]; decide +kernel, by rw [h]; exact iT_6 150 (by first | rfl | decide +kernel) (by decide +kernel)⟩
theorem fX12_96 {M : Mt} (h : M.1.cls = RX12) : FL M 96 12 43 := ⟨RX12, TX12, 75, cls12, by decide, Or.inl (by rw [h]; exact iT_6 151 (by first | rfl | decide +kernel) (by decide +kernel))⟩
theorem ffX12_96 {M : Mt} (h : M.1.cls = RX12) (hn : M.1.name = "<init>") : FLF M 96 12 43 := ⟨hn, RX12, TX12, 75, cls12, by decide, by decide +kernel, by rw [h]; decide +kernel, by rw [h]; exact iT_6 151 (by first | rfl | decide +kernel) (by decide +kernel)⟩
theorem fX12_99 {M : Mt} (h : M.1.cls = RX12) : FL M 99 12 44 := ⟨RX12, TX12, 75, cls12, by decide, Or.inl (by rw [h]; exact iT_6 152 (by first | rfl | decide +kernel) (by decide +kernel))⟩
theorem ffX12_99 {M : Mt} (h : M.1.cls = RX12) (hn : M.1.name = "<init>") : FLF M 99 12 44 := ⟨hn, RX12, TX12, 75, cls12, by decide, by decide +kernel, by rw [h]; decide +kernel, by rw [h]; exact iT_6 152 (by first | rfl | decide +kernel) (by decide +kernel)⟩
theorem fX12_102 {M : Mt} (h : M.1.cls = RX12) : FL M 102 12 45 := ⟨RX12, TX12, 75, cls12, by decide, Or.inl (by rw [h]; exact iT_6 153 (by first | rfl | decide +kernel) (by decide +kernel))⟩
theorem ffX12_102 {M : Mt} (h : M.1.cls = RX12) (hn : M.1.name = "<init>") : FLF M 102 12 45 := ⟨hn, RX12, TX12, 75, cls12, by decide, by decide +kernel, by rw [h]; decide +kernel, by rw [h]; exact iT_6 153 (by first | rfl | decide +kernel) (by decide +kernel)⟩
theorem fX12_105 {M : Mt} (h : M.1.cls = RX12) : FL M 105 12 46 := ⟨RX12, TX12, 75, cls12, by decide, Or.inl (by rw [h]; exact iT_6 154 (by first | rfl | decide +kernel) (by decide +kernel))⟩
theorem ffX12_105 {M : Mt} (h : M.1.cls = RX12) (hn : M.1.name = "<init>") : FLF M 105 12 46 := ⟨hn, RX12, TX12, 75, cls12, by decide, by decide +kernel, by rw [h]; decide +kernel, by rw [h]; exact iT_6 154 (by first | rfl | decide +kernel) (by decide +kernel)⟩
theorem fX12_108 {M : Mt} (h : M.1.cls = RX12) : FL M 108 12 47 := ⟨RX12, TX12, 75, cls12, by decide, Or.inl (by rw [h]; exact iT_6 155 (by first | rfl | decide +kernel) (by decide +kernel))⟩
theorem ffX12_108 {M : Mt} (h : M.1.cls = RX12) (hn : M.1.name = "<init>") : FLF M 108 12 47 := ⟨hn, RX12, TX12, 75, cls12, by decide, by decide +kernel, by rw [h]; decide +kernel, by rw [h]; exact iT_6 155 (by first | rfl | decide +kernel) (by decide +kernel)⟩
theorem fX12_111 {M : Mt} (h : M.1.cls = RX12) : FL M 111 12 48 := ⟨RX12, TX12, 75, cls12, by decide, Or.inl (by rw [h]; exact iT_6 156 (by first | rfl | decide +kernel) (by decide +kernel))⟩
theorem ffX12_111 {M : Mt} (h : M.1.cls = RX12) (hn : M.1.name = "<init>") : FLF M 111 12 48 := ⟨hn, RX12, TX12, 75, cls12, by decide, by decide +kernel, by rw [h]; decide +kernel, by rw [h]; exact iT_6 156 (by first | rfl | decide +kernel) (by decide +kernel)⟩
theorem fX12_114 {M : Mt} (h : M.1.cls = RX12) : FL M 114 12 49 := ⟨RX12, TX12, 75, cls12, by decide, Or.inl (by rw [h]; exact iT_6 157 (by first | rfl | decide +kernel) (by decide +kernel))⟩
theorem ffX12_114 {M : Mt} (h : M.1.cls = RX12) (hn : M.1.name = "<init>") : FLF M 114 12 49 := ⟨hn, RX12, TX12, 75, cls12, by decide, by decide +kernel, by rw [h]; decide +kernel, by rw [h]; exact iT_6 157 (by first | rfl | decide +kernel) (by decide +kernel)⟩
theorem fX12_117 {M : Mt} (h : M.1.cls = RX12) : FL M 117 12 50 := ⟨RX12, TX12, 75, cls12, by decide, Or.inl (by rw [h]; exact iT_6 158 (by first | rfl | decide +kernel) (by decide +kernel))⟩
theorem ffX12_117 {M : Mt} (h : M.1.cls = RX12) (hn : M.1.name = "<init>") : FLF M 117 12 50 := ⟨hn, RX12, TX12, 75, cls12, by decide, by decide +kernel, by rw [h]; decide +kernel, by rw [h]; exact iT_6 158 (by first | rfl | decide +kernel) (by decide +kernel)⟩
theorem fX12_120 {M : Mt} (h : M.1.cls = RX12) : FL M 120 12 51 := ⟨RX12, TX12, 75, cls12, by decide, Or.inl (by rw [h]; exact iT_6 159 (by first | rfl | decide +kernel) (by decide +kernel))⟩
theorem ffX12_120 {M : Mt} (h : M.1.cls = RX12) (hn : M.1.name = "<init>") : FLF M 120 12 51 := ⟨hn, RX12, TX12, 75, cls12, by decide, by decide +kernel, by rw [h]; decide +kernel, by rw [h]; exact iT_6 159 (by first | rfl | decide +kernel) (by decide +kernel)⟩
theorem fX12_123 {M : Mt} (h : M.1.cls = RX12) : FL M 123 12 52 := ⟨RX12, TX12, 75, cls12, by decide, Or.inl (by rw [h]; exact iT_6 160 (by first | rfl | decide +kernel) (by decide +kernel))⟩
theorem ffX12_123 {M : Mt} (h : M.1.cls = RX12) (hn : M.1.name = "<init>") : FLF M 123 12 52 := ⟨hn, RX12, TX12, 75, cls12, by decide, by decide +kernel, by rw [h]; decide +kernel, by rw [h]; exact iT_6 160 (by first | rfl | decide +kernel) (by decide +kernel)⟩
theorem fX12_331 {M : Mt} (h : M.1.cls = RX12) : FL M 331 12 53 := ⟨RX12, TX12, 75, cls12, by decide, Or.inl (by rw [h]; exact iT_6 161 (by first | rfl | decide +kernel) (by decide +kernel))⟩
theorem fwX12_331 {M : Mt} (h : M.1.cls = RX12) : FLW M 331 12 53 := ⟨RX12, TX12, 75, cls12, by decide, by decide +kernel, Or.inl (by rw [h]; exact iT_6 161 (by first | rfl | decide +kernel) (by decide +kernel))⟩
theorem fX12_335 {M : Mt} (h : M.1.cls = RX12) : FL M 335 12 54 := ⟨RX12, TX12, 75, cls12, by decide, Or.inl (by rw [h]; exact iT_6 162 (by first | rfl | decide +kernel) (by decide +kernel))⟩
theorem fwX12_335 {M : Mt} (h : M.1.cls = RX12) : FLW M 335 12 54 := ⟨RX12, TX12, 75, cls12, by decide, by decide +kernel, Or.inl (by rw [h]; exact iT_6 162 (by first | rfl | decide +kernel) (by decide +kernel))⟩
theorem fX12_361 {M : Mt} (h : M.1.cls = RX12) : FL M 361 12 55 := ⟨RX12, TX12, 75, cls12, by decide, Or.inl (by rw [h]; exact iT_6 163 (by first | rfl | decide +kernel) (by decide +kernel))⟩
theorem fwX12_361 {M : Mt} (h : M.1.cls = RX12) : FLW M 361 12 55 := ⟨RX12, TX12, 75, cls12, by decide, by decide +kernel, Or.inl (by rw [h]; exact iT_6 163 (by first | rfl | decide +kernel) (by decide +kernel))⟩
theorem fX12_126 {M : Mt} (h : M.1.cls = RX12) : FL M 126 12 56 := ⟨RX12, TX12, 75, cls12, by decide, Or.inl (by rw [h]; exact iT_6 164 (by first | rfl | decide +kernel) (by decide +kernel))⟩
theorem fwX12_126 {M : Mt} (h : M.1.cls = RX12) : FLW M 126 12 56 := ⟨RX12, TX12, 75, cls12, by decide, by decide +kernel, Or.inl (by rw [h]; exact iT_6 164 (by first | rfl | decide +kernel) (by decide +kernel))⟩
theorem fX12_129 {M : Mt} (h : M.1.cls = RX12) : FL M 129 12 57 := ⟨RX12, TX12, 75, cls12, by decide, Or.inl (by rw [h]; exact iT_6 165 (by first | rfl | decide +kernel) (by decide +kernel))⟩
theorem fwX12_129 {M : Mt} (h : M.1.cls = RX12) : FLW M 129 12 57 := ⟨RX12, TX12, 75, cls12, by decide, by decide +kernel, Or.inl (by rw [h]; exact iT_6 165 (by first | rfl | decide +kernel) (by decide +kernel))⟩
theorem fX12_364 {M : Mt} (h : M.1.cls = RX12) : FL M 364 12 58 := ⟨RX12, TX12, 75, cls12, by decide, Or.inl (by rw [h]; exact iT_6 166 (by first | rfl | decide +kernel) (by decide +kernel))⟩
theorem fwX12_364 {M : Mt} (h : M.1.cls = RX12) : FLW M 364 12 58 := ⟨RX12, TX12, 75, cls12, by decide, by decide +kernel, Or.inl (by rw [h]; exact iT_6 166 (by first | rfl | decide +kernel) (by decide +kernel))⟩
theorem fX12_394 {M : Mt} (h : M.1.cls = RX12) : FL M 394 12 59 := ⟨RX12, TX12, 75, cls12, by decide, Or.inl (by rw [h]; exact iT_6 167 (by first | rfl | decide +kernel) (by decide +kernel))⟩
theorem fwX12_394 {M : Mt} (h : M.1.cls = RX12) : FLW M 394 12 59 := ⟨RX12, TX12, 75, cls12, by decide, by decide +kernel, Or.inl (by rw [h]; exact iT_6 167 (by first | rfl | decide +kernel) (by decide +kernel))⟩
theorem fX12_132 {M : Mt} (h : M.1.cls = RX12) : FL M 132 12 60 := ⟨RX12, TX12, 75, cls12, by decide, Or.inl (by rw [h]; exact iT_6 168 (by first | rfl | decide +kernel) (by decide +kernel))⟩
theorem ffX12_132 {M : Mt} (h : M.1.cls = RX12) (hn : M.1.name = "<init>") : FLF M 132 12 60 := ⟨hn, RX12, TX12, 75, cls12, by decide, by decide +kernel, by rw [h]; decide +kernel, by rw [h]; exact iT_6 168 (by first | rfl | decide +kernel) (by decide +kernel)⟩
theorem fX12_135 {M : Mt} (h : M.1.cls = RX12) : FL M 135 12 61 := ⟨RX12, TX12, 75, cls12, by decide, Or.inl (by rw [h]; exact iT_6 169 (by first | rfl | decide +kernel) (by decide +kernel))⟩
theorem ffX12_135 {M : Mt} (h : M.1.cls = RX12) (hn : M.1.name = "<init>") : FLF M 135 12 61 := ⟨hn, RX12, TX12, 75, cls12, by decide, by decide +kernel, by rw [h]; decide +kernel, by rw [h]; exact iT_6 169 (by first | rfl | decide +kernel) (by decide +kernel)⟩
theorem fX12_488 {M : Mt} (h : M.1.cls = RX12) : FL M 488 12 62 := ⟨RX12, TX12, 75, cls12, by decide, Or.inl (by rw [h]; exact iT_6 170 (by first | rfl | decide +kernel) (by decide +kernel))⟩
theorem fwX12_488 {M : Mt} (h : M.1.cls = RX12) : FLW M 488 12 62 := ⟨RX12, TX12, 75, cls12, by decide, by decide +kernel, Or.inl (by rw [h]; exact iT_6 170 (by first | rfl | decide +kernel) (by decide +kernel))⟩
theorem fX12_138 {M : Mt} (h : M.1.cls = RX12) : FL M 138 12 63 := ⟨RX12, TX12, 75, cls12, by decide, Or.inl (by rw [h]; exact iT_6 171 (by first | rfl | decide +kernel) (by decide +kernel))⟩
theorem ffX12_138 {M : Mt} (h : M.1.cls = RX12) (hn : M.1.name = "<init>") : FLF M 138 12 63 := ⟨hn, RX12, TX12, 75, cls12, by decide, by decide +kernel, by rw [h]; decide +kernel, by rw [h]; exact iT_6 171 (by first | rfl | decide +kernel) (by decide +kernel)⟩
theorem fX12_141 {M : Mt} (h : M.1.cls = RX12) : FL M 141 12 64 := ⟨RX12, TX12, 75, cls12, by decide, Or.inl (by rw [h]; exact iT_6 172 (by first | rfl | decide +kernel) (by decide +kernel))⟩
theorem ffX12_141 {M : Mt} (h : M.1.cls = RX12) (hn : M.1.name = "<init>") : FLF M 141 12 64 := ⟨hn, RX12, TX12, 75, cls12, by decide, by decide +kernel, by rw [h]; decide +kernel, by rw [h]; exact iT_6 172 (by first | rfl | decide +kernel) (by decide +kernel)⟩
theorem fX12_144 {M : Mt} (h : M.1.cls = RX12) : FL M 144 12 65 := ⟨RX12, TX12, 75, cls12, by decide, Or.inl (by rw [h]; exact iT_6 173 (by first | rfl | decide +kernel) (by decide +kernel))⟩
theorem ffX12_144 {M : Mt} (h : M.1.cls = RX12) (hn : M.1.name = "<init>") : FLF M 144 12 65 := ⟨hn, RX12, TX12, 75, cls12, by decide, by decide +kernel, by rw [h]; decide +kernel, by rw [h]; exact iT_6 173 (by first | rfl | decide +kernel) (by decide +kernel)⟩
theorem fX12_491 {M : Mt} (h : M.1.cls = RX12) : FL M 491 12 66 := ⟨RX12, TX12, 75, cls12, by decide, Or.inl (by rw [h]; exact iT_6 174 (by first | rfl | decide +kernel) (by decide +kernel))⟩
theorem fwX12_491 {M : Mt} (h : M.1.cls = RX12) : FLW M 491 12 66 := ⟨RX12, TX12, 75, cls12, by decide, by decide +kernel, Or.inl (by rw [h]; exact iT_6 174 (by first | rfl | decide +kernel) (by decide +kernel))⟩
theorem fX12_500 {M : Mt} (h : M.1.cls = RX12) : FL M 500 12 67 := ⟨RX12, TX12, 75, cls12, by decide, Or.inl (by rw [h]; exact iT_6 175 (by first | rfl | decide +kernel) (by decide +kernel))⟩
theorem fwX12_500 {M : Mt} (h : M.1.cls = RX12) : FLW M 500 12 67 := ⟨RX12, TX12, 75, cls12, by decide, by decide +kernel, Or.inl (by rw [h]; exact iT_6 175 (by first | rfl | decide +kernel) (by decide +kernel))⟩
theorem fX12_328 {M : Mt} (h : M.1.cls = RX12) : FL M 328 12 68 := ⟨RX12, TX12, 75, cls12, by decide, Or.inl (by rw [h]; exact iT_6 176 (by first | rfl | decide +kernel) (by decide +kernel))⟩
theorem fwX12_328 {M : Mt} (h : M.1.cls = RX12) : FLW M 328 12 68 := ⟨RX12, TX12, 75, cls12, by decide, by decide +kernel, Or.inl (by rw [h]; exact iT_6 176 (by first | rfl | decide +kernel) (by decide +kernel))⟩
theorem fX12_147 {M : Mt} (h : M.1.cls = RX12) : FL M 147 12 69 := ⟨RX12, TX12, 75, cls12, by decide, Or.inl (by rw [h]; exact iT_6 177 (by first | rfl | decide +kernel) (by decide +kernel))⟩
theorem fwX12_147 {M : Mt} (h : M.1.cls = RX12) : FLW M 147 12 69 := ⟨RX12, TX12, 75, cls12, by decide, by decide +kernel, Or.inl (by rw [h]; exact iT_6 177 (by first | rfl | decide +kernel) (by decide +kernel))⟩
theorem fX12_150 {M : Mt} (h : M.1.cls = RX12) : FL M 150 12 70 := ⟨RX12, TX12, 75, cls12, by decide, Or.inl (by rw [h]; exact iT_6 178 (by first | rfl | decide +kernel) (by decide +kernel))⟩
theorem ffX12_150 {M : Mt} (h : M.1.cls = RX12) (hn : M.1.name = "<init>") : FLF M 150 12 70 := ⟨hn, RX12, TX12, 75, cls12, by decide, by decide +kernel, by rw [h]; decide +kernel, by rw [h]; exact iT_6 178 (by first | rfl | decide +kernel) (by decide +kernel)⟩
theorem fX12_153 {M : Mt} (h : M.1.cls = RX12) : FL M 153 12 71 := ⟨RX12, TX12, 75, cls12, by decide, Or.inl (by rw [h]; exact iT_6 179 (by first | rfl | decide +kernel) (by decide +kernel))⟩
theorem ffX12_153 {M : Mt} (h : M.1.cls = RX12) (hn : M.1.name = "<init>") : FLF M 153 12 71 := ⟨hn, RX12, TX12, 75, cls12, by decide, by decide +kernel, by rw [h]; decide +kernel, by rw [h]; exact iT_6 179 (by first | rfl | decide +kernel) (by decide +kernel)⟩
theorem fX12_156 {M : Mt} (h : M.1.cls = RX12) : FL M 156 12 72 := ⟨RX12, TX12, 75, cls12, by decide, Or.inl (by rw [h]; exact iT_6 180 (by first | rfl | decide +kernel) (by decide +kernel))⟩
theorem ffX12_156 {M : Mt} (h : M.1.cls = RX12) (hn : M.1.name = "<init>") : FLF M 156 12 72 := ⟨hn, RX12, TX12, 75, cls12, by decide, by decide +kernel, by rw [h]; decide +kernel, by rw [h]; exact iT_6 180 (by first | rfl | decide +kernel) (by decide +kernel)⟩
theorem fX12_160 {M : Mt} (h : M.1.cls = RX12) : FL M 160 12 73 := ⟨RX12, TX12, 75, cls12, by decide, Or.inl (by rw [h]; exact iT_6 181 (by first | rfl | decide +kernel) (by decide +kernel))⟩
theorem ffX12_160 {M : Mt} (h : M.1.cls = RX12) (hn : M.1.name = "<init>") : FLF M 160 12 73 := ⟨hn, RX12, TX12, 75, cls12, by decide, by decide +kernel, by rw [h]; decide +kernel, by rw [h]; exact iT_6 181 (by first | rfl | decide +kernel) (by decide +kernel)⟩
theorem fX12_163 {M : Mt} (h : M.1.cls = RX12) : FL M 163 12 74 := ⟨RX12, TX12, 75, cls12, by decide, Or.inl (by rw [h]; exact iT_6 182 (by first | rfl | decide +kernel) (by decide +kernel))⟩
theorem ffX12_163 {M : Mt} (h : M.1.cls = RX12) (hn : M.1.name = "<init>") : FLF M 163 12 74 := ⟨hn, RX12, TX12, 75, cls12, by decide, by decide +kernel, by rw [h]; decide +kernel, by rw [h]; exact iT_6 182 (by first | rfl | decide +kernel) (by decide +kernel)⟩
theorem lL_25 {M : Mt} (h : M.1.cls = RL) : LK M 25 mX12_feed := Or.inl (by rw [h]; exact iT_7 95 (by rfl) (by decide +kernel))
theorem lL_30 {M : Mt} (h : M.1.cls = RL) : LK M 30 mX12_text := Or.inl (by rw [h]; exact iT_7 99 (by rfl) (by decide +kernel))
theorem lX12_260 {M : Mt} (h : M.1.cls = RX12) : LK M 260 mX12_reads := Or.inl (by rw [h]; exact iT_7 103 (by rfl) (by decide +kernel))
theorem lX12_229 {M : Mt} (h : M.1.cls = RX12) : LK M 229 mX12_token := Or.inl (by rw [h]; exact iT_7 107 (by rfl) (by decide +kernel))
theorem lX12_181 {M : Mt} (h : M.1.cls = RX12) : LK M 181 mX12_here := Or.inl (by rw [h]; exact iT_7 111 (by rfl) (by decide +kernel))
theorem lX12_191 {M : Mt} (h : M.1.cls = RX12) : LK M 191 mX12_isSmall := Or.inl (by rw [h]; exact iT_7 115 (by rfl) (by decide +kernel))
theorem lX12_195 {M : Mt} (h : M.1.cls = RX12) : LK M 195 mX12_word := Or.inl (by rw [h]; exact iT_7 118 (by rfl) (by decide +kernel))
theorem lX12_214 {M : Mt} (h : M.1.cls = RX12) : LK M 214 mJ0_length_8abf5 := Or.inl (by rw [h]; exact iT_7 123 (by rfl) (by decide +kernel))
theorem lX12_219 {M : Mt} (h : M.1.cls = RX12) : LK M 219 mJ0_charAt_5068e := Or.inl (by rw [h]; exact iT_7 124 (by rfl) (by decide +kernel))
theorem lX12_201 {M : Mt} (h : M.1.cls = RX12) : LK M 201 mX12_name := Or.inl (by rw [h]; exact iT_7 125 (by rfl) (by decide +kernel))
theorem lX12_204 {M : Mt} (h : M.1.cls = RX12) : LK M 204 mX12_isDigit := Or.inl (by rw [h]; exact iT_7 129 (by rfl) (by decide +kernel))
theorem kX12_207 : Cond.constant RX12 207 (99999) ∈ ALLW := iT_7 132 (by decide +kernel) (by decide +kernel)
theorem lX12_208 {M : Mt} (h : M.1.cls = RX12) : LK M 208 mX12_sign := Or.inl (by rw [h]; exact iT_7 133 (by rfl) (by decide +kernel))
theorem lX12_318 {M : Mt} (h : M.1.cls = RX12) : LK M 318 mX12_line := Or.inl (by rw [h]; exact iT_7 137 (by rfl) (by decide +kernel))
theorem lX12_232 {M : Mt} (h : M.1.cls = RX12) : LK M 232 mX12_wrong := Or.inl (by rw [h]; exact iT_7 141 (by rfl) (by decide +kernel))
theorem lX12_247 {M : Mt} (h : M.1.cls = RX12) : LK M 247 mX12_isFull := Or.inl (by rw [h]; exact iT_7 145 (by rfl) (by decide +kernel))
theorem lX12_239 {M : Mt} (h : M.1.cls = RX12) : LK M 239 mX12_fresher := Or.inl (by rw [h]; exact iT_7 149 (by rfl) (by decide +kernel))
theorem lX12_253 {M : Mt} (h : M.1.cls = RX12) : LK M 253 mX12_fresh := Or.inl (by rw [h]; exact iT_7 153 (by rfl) (by decide +kernel))
theorem lX12_235 {M : Mt} (h : M.1.cls = RX12) : LK M 235 mX12_found := Or.inl (by rw [h]; exact iT_7 157 (by rfl) (by decide +kernel))
theorem lX12_256 {M : Mt} (h : M.1.cls = RX12) : LK M 256 mX12_numeral := Or.inl (by rw [h]; exact iT_7 160 (by rfl) (by decide +kernel))
theorem lX12_264 {M : Mt} (h : M.1.cls = RX12) : LK M 264 mX12_hasLine := Or.inl (by rw [h]; exact iT_7 164 (by rfl) (by decide +kernel))
theorem lX12_243 {M : Mt} (h : M.1.cls = RX12) : LK M 243 mX12_atHand := Or.inl (by rw [h]; exact iT_7 168 (by rfl) (by decide +kernel))
theorem lX12_279 {M : Mt} (h : M.1.cls = RX12) : LK M 279 mX12_goOn := Or.inl (by rw [h]; exact iT_7 172 (by rfl) (by decide +kernel))
theorem lX12_282 {M : Mt} (h : M.1.cls = RX12) : LK M 282 mX12_markAtHand := Or.inl (by rw [h]; exact iT_7 176 (by rfl) (by decide +kernel))
theorem lX12_267 {M : Mt} (h : M.1.cls = RX12) : LK M 267 mX12_partyLine := Or.inl (by rw [h]; exact iT_7 180 (by rfl) (by decide +kernel))
theorem lX12_270 {M : Mt} (h : M.1.cls = RX12) : LK M 270 mX12_lawLine := Or.inl (by rw [h]; exact iT_7 184 (by rfl) (by decide +kernel))
theorem lX12_285 {M : Mt} (h : M.1.cls = RX12) : LK M 285 mX12_expression := Or.inl (by rw [h]; exact iT_7 188 (by rfl) (by decide +kernel))
theorem lX12_291 {M : Mt} (h : M.1.cls = RX12) : LK M 291 mX12_conjunction := Or.inl (by rw [h]; exact iT_7 192 (by rfl) (by decide +kernel))
theorem lX12_303 {M : Mt} (h : M.1.cls = RX12) : LK M 303 mX12_negation := Or.inl (by rw [h]; exact iT_7 196 (by rfl) (by decide +kernel))
theorem lX12_294 {M : Mt} (h : M.1.cls = RX12) : LK M 294 mX12_isWord := Or.inl (by rw [h]; exact iT_7 200 (by rfl) (by decide +kernel))
theorem lX12_297 {M : Mt} (h : M.1.cls = RX12) : LK M 297 mX12_knot := Or.inl (by rw [h]; exact iT_7 204 (by rfl) (by decide +kernel))
theorem lX12_300 {M : Mt} (h : M.1.cls = RX12) : LK M 300 mX12_puts := Or.inl (by rw [h]; exact iT_7 208 (by rfl) (by decide +kernel))
theorem lX12_306 {M : Mt} (h : M.1.cls = RX12) : LK M 306 mX12_sum := Or.inl (by rw [h]; exact iT_7 212 (by rfl) (by decide +kernel))
theorem lX12_309 {M : Mt} (h : M.1.cls = RX12) : LK M 309 mX12_product := Or.inl (by rw [h]; exact iT_7 216 (by rfl) (by decide +kernel))
theorem lX12_312 {M : Mt} (h : M.1.cls = RX12) : LK M 312 mX12_primary := Or.inl (by rw [h]; exact iT_7 220 (by rfl) (by decide +kernel))
theorem lX12_273 {M : Mt} (h : M.1.cls = RX12) : LK M 273 mX12_isSign := Or.inl (by rw [h]; exact iT_7 224 (by rfl) (by decide +kernel))
theorem lX12_324 {M : Mt} (h : M.1.cls = RX12) : LK M 324 mX12_half := Or.inl (by rw [h]; exact iT_7 228 (by rfl) (by decide +kernel))
theorem lL_34 {M : Mt} (h : M.1.cls = RL) : LK M 34 mX12_fault := Or.inl (by rw [h]; exact iT_7 231 (by rfl) (by decide +kernel))
theorem lL_38 {M : Mt} (h : M.1.cls = RL) : LK M 38 mX12_named := Or.inl (by rw [h]; exact iT_7 235 (by rfl) (by decide +kernel))
theorem lL_44 {M : Mt} (h : M.1.cls = RL) : LK M 44 mX12_mark := Or.inl (by rw [h]; exact iT_7 239 (by rfl) (by decide +kernel))
theorem lX12_450 {M : Mt} (h : M.1.cls = RX12) : LK M 450 mX12_isMark := Or.inl (by rw [h]; exact iT_8 3 (by rfl) (by decide +kernel))
theorem lX12_378 {M : Mt} (h : M.1.cls = RX12) : LK M 378 mX12_timesOf := Or.inl (by rw [h]; exact iT_8 7 (by rfl) (by decide +kernel))
theorem lX12_367 {M : Mt} (h : M.1.cls = RX12) : LK M 367 mX12_isDone := Or.inl (by rw [h]; exact iT_8 11 (by rfl) (by decide +kernel))
theorem lX12_371 {M : Mt} (h : M.1.cls = RX12) : LK M 371 mX12_wayIn := Or.inl (by rw [h]; exact iT_8 15 (by rfl) (by decide +kernel))
theorem lL_48 {M : Mt} (h : M.1.cls = RL) : LK M 48 mX12_shot := Or.inl (by rw [h]; exact iT_8 19 (by rfl) (by decide +kernel))
theorem lX12_453 {M : Mt} (h : M.1.cls = RX12) : LK M 453 mX12_isShot := Or.inl (by rw [h]; exact iT_8 23 (by rfl) (by decide +kernel))
theorem lX12_385 {M : Mt} (h : M.1.cls = RX12) : LK M 385 mX12_clashesOf := Or.inl (by rw [h]; exact iT_8 27 (by rfl) (by decide +kernel))
theorem lX12_381 {M : Mt} (h : M.1.cls = RX12) : LK M 381 mX12_doesClash := Or.inl (by rw [h]; exact iT_8 31 (by rfl) (by decide +kernel))
theorem lL_52 {M : Mt} (h : M.1.cls = RL) : LK M 52 mX12_way := Or.inl (by rw [h]; exact iT_8 35 (by rfl) (by decide +kernel))
theorem lL_56 {M : Mt} (h : M.1.cls = RL) : LK M 56 mX12_party := Or.inl (by rw [h]; exact iT_8 39 (by rfl) (by decide +kernel))
theorem lX12_456 {M : Mt} (h : M.1.cls = RX12) : LK M 456 mX12_isParty := Or.inl (by rw [h]; exact iT_8 43 (by rfl) (by decide +kernel))
theorem lL_60 {M : Mt} (h : M.1.cls = RL) : LK M 60 mX12_clerk := Or.inl (by rw [h]; exact iT_8 47 (by rfl) (by decide +kernel))
theorem lL_65 {M : Mt} (h : M.1.cls = RL) : LK M 65 mX12_law := Or.inl (by rw [h]; exact iT_8 51 (by rfl) (by decide +kernel))
theorem lX12_388 {M : Mt} (h : M.1.cls = RX12) : LK M 388 mX12_hasLaw := Or.inl (by rw [h]; exact iT_8 55 (by rfl) (by decide +kernel))
theorem kX12_461 : Cond.constantLong RX12 461 (-9223372036854775808) ∈ ALLW := iT_8 59 (by decide +kernel) (by decide +kernel)
theorem lX12_404 {M : Mt} (h : M.1.cls = RX12) : LK M 404 mX12_callsMark := Or.inl (by rw [h]; exact iT_8 60 (by rfl) (by decide +kernel))
theorem lX12_375 {M : Mt} (h : M.1.cls = RX12) : LK M 375 mX12_strikeOf := Or.inl (by rw [h]; exact iT_8 64 (by rfl) (by decide +kernel))
theorem lX12_412 {M : Mt} (h : M.1.cls = RX12) : LK M 412 mX12_callsShot := Or.inl (by rw [h]; exact iT_8 68 (by rfl) (by decide +kernel))
theorem lX12_391 {M : Mt} (h : M.1.cls = RX12) : LK M 391 mX12_goes := Or.inl (by rw [h]; exact iT_8 72 (by rfl) (by decide +kernel))
theorem lX12_355 {M : Mt} (h : M.1.cls = RX12) : LK M 355 mX12_works := Or.inl (by rw [h]; exact iT_8 76 (by rfl) (by decide +kernel))
theorem lX12_341 {M : Mt} (h : M.1.cls = RX12) : LK M 341 mX12_is := Or.inl (by rw [h]; exact iT_8 80 (by rfl) (by decide +kernel))
theorem lX12_345 {M : Mt} (h : M.1.cls = RX12) : LK M 345 mJ9_abs_067f4 := Or.inl (by rw [h]; exact iT_8 83 (by rfl) (by decide +kernel))
theorem kX12_351 : Cond.constantLong RX12 351 (1000000000000) ∈ ALLW := iT_8 86 (by decide +kernel) (by decide +kernel)
theorem kX12_353 : Cond.constantLong RX12 353 (-1000000000000) ∈ ALLW := iT_8 87 (by decide +kernel) (by decide +kernel)
theorem lL_69 {M : Mt} (h : M.1.cls = RL) : LK M 69 mX12_plums := Or.inl (by rw [h]; exact iT_8 88 (by rfl) (by decide +kernel))
theorem lX12_463 {M : Mt} (h : M.1.cls = RX12) : LK M 463 mX12_keepNow := Or.inl (by rw [h]; exact iT_8 92 (by rfl) (by decide +kernel))
theorem lX12_444 {M : Mt} (h : M.1.cls = RX12) : LK M 444 mX12_copies := Or.inl (by rw [h]; exact iT_8 96 (by rfl) (by decide +kernel))
theorem lL_74 {M : Mt} (h : M.1.cls = RL) : LK M 74 mX12_move := Or.inl (by rw [h]; exact iT_8 100 (by rfl) (by decide +kernel))
theorem lL_78 {M : Mt} (h : M.1.cls = RL) : LK M 78 mX12_tell := Or.inl (by rw [h]; exact iT_8 104 (by rfl) (by decide +kernel))
theorem lL_83 {M : Mt} (h : M.1.cls = RL) : LK M 83 mX12_forget := Or.inl (by rw [h]; exact iT_8 108 (by rfl) (by decide +kernel))
theorem lL_87 {M : Mt} (h : M.1.cls = RL) : LK M 87 mX12_go := Or.inl (by rw [h]; exact iT_8 112 (by rfl) (by decide +kernel))
theorem lX12_440 {M : Mt} (h : M.1.cls = RX12) : LK M 440 mX12_passes := Or.inl (by rw [h]; exact iT_8 116 (by rfl) (by decide +kernel))
theorem lX12_427 {M : Mt} (h : M.1.cls = RX12) : LK M 427 mX12_isAway := Or.inl (by rw [h]; exact iT_8 120 (by rfl) (by decide +kernel))
theorem lX12_397 {M : Mt} (h : M.1.cls = RX12) : LK M 397 mX12_isCold := Or.inl (by rw [h]; exact iT_8 124 (by rfl) (by decide +kernel))
theorem kX12_400 : Cond.constant RX12 400 (1103515245) ∈ ALLW := iT_8 128 (by decide +kernel) (by decide +kernel)
theorem kX12_403 : Cond.constant RX12 403 (2147483647) ∈ ALLW := iT_8 129 (by decide +kernel) (by decide +kernel)
theorem lX12_430 {M : Mt} (h : M.1.cls = RX12) : LK M 430 mX12_films := Or.inl (by rw [h]; exact iT_8 130 (by rfl) (by decide +kernel))
theorem lX12_408 {M : Mt} (h : M.1.cls = RX12) : LK M 408 mX12_isSo := Or.inl (by rw [h]; exact iT_8 134 (by rfl) (by decide +kernel))
theorem lX12_434 {M : Mt} (h : M.1.cls = RX12) : LK M 434 mX12_gives := Or.inl (by rw [h]; exact iT_8 138 (by rfl) (by decide +kernel))
theorem lX12_437 {M : Mt} (h : M.1.cls = RX12) : LK M 437 mX12_filmsAgain := Or.inl (by rw [h]; exact iT_8 142 (by rfl) (by decide +kernel))
theorem lX12_424 {M : Mt} (h : M.1.cls = RX12) : LK M 424 mX12_priceOf := Or.inl (by rw [h]; exact iT_8 146 (by rfl) (by decide +kernel))
theorem kX12_415 : Cond.constantLong RX12 415 (999) ∈ ALLW := iT_8 150 (by decide +kernel) (by decide +kernel)
theorem lX12_417 {M : Mt} (h : M.1.cls = RX12) : LK M 417 mJ9_min_f86c9 := Or.inl (by rw [h]; exact iT_8 151 (by rfl) (by decide +kernel))
theorem lX12_421 {M : Mt} (h : M.1.cls = RX12) : LK M 421 mJ9_max_f86c9 := Or.inl (by rw [h]; exact iT_8 152 (by rfl) (by decide +kernel))
theorem lL_91 {M : Mt} (h : M.1.cls = RL) : LK M 91 mX12_ahead := Or.inl (by rw [h]; exact iT_8 153 (by rfl) (by decide +kernel))
theorem lX12_466 {M : Mt} (h : M.1.cls = RX12) : LK M 466 mX12_runs := Or.inl (by rw [h]; exact iT_8 157 (by rfl) (by decide +kernel))
theorem lX12_447 {M : Mt} (h : M.1.cls = RX12) : LK M 447 mX12_goesOn := Or.inl (by rw [h]; exact iT_8 161 (by rfl) (by decide +kernel))
theorem lX12_469 {M : Mt} (h : M.1.cls = RX12) : LK M 469 mX12_sumOf := Or.inl (by rw [h]; exact iT_8 165 (by rfl) (by decide +kernel))
theorem lX12_473 {M : Mt} (h : M.1.cls = RX12) : LK M 473 mX12_clashesAll := Or.inl (by rw [h]; exact iT_8 169 (by rfl) (by decide +kernel))
theorem lL_96 {M : Mt} (h : M.1.cls = RL) : LK M 96 mX12_breaks := Or.inl (by rw [h]; exact iT_8 173 (by rfl) (by decide +kernel))
theorem lX12_479 {M : Mt} (h : M.1.cls = RX12) : LK M 479 mX12_breaksAll := Or.inl (by rw [h]; exact iT_8 177 (by rfl) (by decide +kernel))
theorem lX12_476 {M : Mt} (h : M.1.cls = RX12) : LK M 476 mX12_breaksOf := Or.inl (by rw [h]; exact iT_8 181 (by rfl) (by decide +kernel))
theorem lL_100 {M : Mt} (h : M.1.cls = RL) : LK M 100 mX12_agrees := Or.inl (by rw [h]; exact iT_8 185 (by rfl) (by decide +kernel))
theorem lL_104 {M : Mt} (h : M.1.cls = RL) : LK M 104 mX12_least := Or.inl (by rw [h]; exact iT_8 189 (by rfl) (by decide +kernel))
theorem lX12_482 {M : Mt} (h : M.1.cls = RX12) : LK M 482 mX12_sayings := Or.inl (by rw [h]; exact iT_8 193 (by rfl) (by decide +kernel))
theorem lX12_485 {M : Mt} (h : M.1.cls = RX12) : LK M 485 mX12_costNow := Or.inl (by rw [h]; exact iT_8 197 (by rfl) (by decide +kernel))
theorem lL_108 {M : Mt} (h : M.1.cls = RL) : LK M 108 mX12_order := Or.inl (by rw [h]; exact iT_8 201 (by rfl) (by decide +kernel))
theorem lX12_494 {M : Mt} (h : M.1.cls = RX12) : LK M 494 mX12_rows := Or.inl (by rw [h]; exact iT_8 205 (by rfl) (by decide +kernel))
theorem lX12_497 {M : Mt} (h : M.1.cls = RX12) : LK M 497 mX12_trouble := Or.inl (by rw [h]; exact iT_8 209 (by rfl) (by decide +kernel))
theorem lL_112 {M : Mt} (h : M.1.cls = RL) : LK M 112 mX12_noted := Or.inl (by rw [h]; exact iT_8 213 (by rfl) (by decide +kernel))
theorem lX12_503 {M : Mt} (h : M.1.cls = RX12) : LK M 503 mX12_bitsOf := Or.inl (by rw [h]; exact iT_8 217 (by rfl) (by decide +kernel))
theorem lL_116 {M : Mt} (h : M.1.cls = RL) : LK M 116 mX12_bribe := Or.inl (by rw [h]; exact iT_8 220 (by rfl) (by decide +kernel))
theorem lL_120 {M : Mt} (h : M.1.cls = RL) : LK M 120 mX12_rests := Or.inl (by rw [h]; exact iT_8 224 (by rfl) (by decide +kernel))
theorem lX12_515 {M : Mt} (h : M.1.cls = RX12) : LK M 515 mX12_areTwo := Or.inl (by rw [h]; exact iT_8 228 (by rfl) (by decide +kernel))
theorem lX12_518 {M : Mt} (h : M.1.cls = RX12) : LK M 518 mX12_restOf := Or.inl (by rw [h]; exact iT_8 232 (by rfl) (by decide +kernel))
theorem lX12_509 {M : Mt} (h : M.1.cls = RX12) : LK M 509 mJ9_min_7cf53 := Or.inl (by rw [h]; exact iT_8 236 (by rfl) (by decide +kernel))
theorem lX12_511 {M : Mt} (h : M.1.cls = RX12) : LK M 511 mX12_isRest := Or.inl (by rw [h]; exact iT_8 237 (by rfl) (by decide +kernel))
theorem lX12_506 {M : Mt} (h : M.1.cls = RX12) : LK M 506 mX12_hasOf := Or.inl (by rw [h]; exact iT_9 1 (by rfl) (by decide +kernel))
theorem lL_125 {M : Mt} (h : M.1.cls = RL) : LK M 125 mX12_rest := Or.inl (by rw [h]; exact iT_9 4 (by rfl) (by decide +kernel))
theorem lL_130 {M : Mt} (h : M.1.cls = RL) : LK M 130 mX12_there := Or.inl (by rw [h]; exact iT_9 8 (by rfl) (by decide +kernel))
theorem kX12_521 : Cond.constantLong RX12 521 (-1) ∈ ALLW := iT_9 12 (by decide +kernel) (by decide +kernel)
theorem kX12_523 : Cond.constantLong RX12 523 (100) ∈ ALLW := iT_9 13 (by decide +kernel) (by decide +kernel)
theorem lX12_525 {M : Mt} (h : M.1.cls = RX12) : LK M 525 mX12_common := Or.inl (by rw [h]; exact iT_9 14 (by rfl) (by decide +kernel))
theorem lL_134 {M : Mt} (h : M.1.cls = RL) : LK M 134 mX12_without := Or.inl (by rw [h]; exact iT_9 17 (by rfl) (by decide +kernel))
theorem lL_138 {M : Mt} (h : M.1.cls = RL) : LK M 138 mX12_run := Or.inl (by rw [h]; exact iT_9 21 (by rfl) (by decide +kernel))
theorem lX12_528 {M : Mt} (h : M.1.cls = RX12) : LK M 528 mJ9_max_7cf53 := Or.inl (by rw [h]; exact iT_9 25 (by rfl) (by decide +kernel))
theorem lL_142 {M : Mt} (h : M.1.cls = RL) : LK M 142 mX12_believed := Or.inl (by rw [h]; exact iT_9 26 (by rfl) (by decide +kernel))
theorem lL_147 {M : Mt} (h : M.1.cls = RL) : LK M 147 mX12_see := Or.inl (by rw [h]; exact iT_9 30 (by rfl) (by decide +kernel))
theorem lL_151 {M : Mt} (h : M.1.cls = RL) : LK M 151 mX12_out := Or.inl (by rw [h]; exact iT_9 34 (by rfl) (by decide +kernel))
theorem lL_155 {M : Mt} (h : M.1.cls = RL) : LK M 155 mX12_known := Or.inl (by rw [h]; exact iT_9 38 (by rfl) (by decide +kernel))
theorem lL_159 {M : Mt} (h : M.1.cls = RL) : LK M 159 mX12_struckHow := Or.inl (by rw [h]; exact iT_9 42 (by rfl) (by decide +kernel))
theorem lX12_530 {M : Mt} (h : M.1.cls = RX12) : LK M 530 mX12_knownMany := Or.inl (by rw [h]; exact iT_9 46 (by rfl) (by decide +kernel))
theorem lX12_536 {M : Mt} (h : M.1.cls = RX12) : LK M 536 mX12_fitsStrike := Or.inl (by rw [h]; exact iT_9 50 (by rfl) (by decide +kernel))
theorem lX12_533 {M : Mt} (h : M.1.cls = RX12) : LK M 533 mX12_fits := Or.inl (by rw [h]; exact iT_9 54 (by rfl) (by decide +kernel))
theorem lL_163 {M : Mt} (h : M.1.cls = RL) : LK M 163 mX12_chance := Or.inl (by rw [h]; exact iT_9 58 (by rfl) (by decide +kernel))
theorem lL_167 {M : Mt} (h : M.1.cls = RL) : LK M 167 mX12_tried := Or.inl (by rw [h]; exact iT_9 62 (by rfl) (by decide +kernel))
theorem lL_171 {M : Mt} (h : M.1.cls = RL) : LK M 171 mX12_undo := Or.inl (by rw [h]; exact iT_9 66 (by rfl) (by decide +kernel))
theorem lL_175 {M : Mt} (h : M.1.cls = RL) : LK M 175 mX12_keep := Or.inl (by rw [h]; exact iT_9 70 (by rfl) (by decide +kernel))
theorem lL_179 {M : Mt} (h : M.1.cls = RL) : LK M 179 mX12_back := Or.inl (by rw [h]; exact iT_9 74 (by rfl) (by decide +kernel))
theorem lL_183 {M : Mt} (h : M.1.cls = RL) : LK M 183 mX12_count := Or.inl (by rw [h]; exact iT_9 78 (by rfl) (by decide +kernel))
