/-! one call on the fresh heap: the class -/
theorem jS_x : 0 < jhS.1 := by rw [jS_n]; decide
theorem jS_6 : jhS.1 < 1000000 := by rw [jS_n]; decide
theorem jS_t0 : jt jhS 0 = 19 := by decide +kernel
theorem jS_ly : jLay jhS := ⟨by rw [jS_n]; decide, by rw [jS_n]; decide, jS_la, jS_lr, by decide +kernel, by decide +kernel⟩
theorem jS_c : jck jhS 0 11 = some () := jck_e jS_x jS_t0
theorem jS_j6 : j6 jhS = some () := j6_e jS_6
theorem jS_g1 : jgi jhS 0 11 1 = some 0 := by decide +kernel
theorem jS_g3 : jgi jhS 0 11 3 = some 0 := by decide +kernel
theorem jS_g6 : jgi jhS 0 11 6 = some 0 := by decide +kernel
theorem jS_g8 : jgi jhS 0 11 8 = some 0 := by decide +kernel
theorem jS_g10 : jgi jhS 0 11 10 = some 0 := by decide +kernel
theorem jS_g12 : jgi jhS 0 11 12 = some 0 := by decide +kernel
theorem f_193 (p : Int) : jd_193 0 p jhS = some (.inr 2, jth jhS 2) := by
  unfold jd_193 jd_193_b12
  by_cases hp : jw p < 0
  · rw [if_pos hp, jS_j6, Option.bind_some]
  · rw [if_neg hp, jS_g1, Option.bind_some, jw_0, if_neg hp, jS_j6, Option.bind_some]
theorem f_195 (p : Int) : jd_195 0 p jhS = some (.inr 2, jth jhS 2) := by
  unfold jd_195 jd_195_b12
  by_cases hp : jw p < 0
  · rw [if_pos hp, jS_j6, Option.bind_some]
  · rw [if_neg hp, jS_g8, Option.bind_some, jw_0, if_neg hp, jS_j6, Option.bind_some]
theorem f_149 (p q : Int) : jd_149 0 p q jhS = some (.inr 2, jth jhS 2) := by
  unfold jd_149 jd_149_b12
  by_cases hp : jw p < 0
  · rw [if_pos hp, jS_j6, Option.bind_some]
  · rw [if_neg hp, jS_g3, Option.bind_some, jw_0, if_neg hp, jS_j6, Option.bind_some]
theorem f_170 (p q r : Int) : jd_170 0 p q r jhS = some (.inr 2, jth jhS 2) := by
  unfold jd_170 jd_170_b12
  by_cases hp : jw p < 0
  · rw [if_pos hp, jS_j6, Option.bind_some]
  · rw [if_neg hp, jS_g12, Option.bind_some, jw_0, if_neg hp, jS_j6, Option.bind_some]
theorem f_155 (p : Int) : jd_155 0 p jhS = some (.inr 0, jth jhS 0) := by
  unfold jd_155 jd_155_b16
  by_cases hp : jw p < 0
  · rw [if_pos hp, jS_j6, Option.bind_some]
  · rw [if_neg hp]
    by_cases hq : 2 < jw p
    · rw [if_pos hq, jS_j6, Option.bind_some]
    · rw [if_neg hq, jS_g6, Option.bind_some, jw_0, if_pos rfl, jS_j6, Option.bind_some]
theorem f_200n {p : Int} (hp : jw p < 0 ∨ 4 ≤ jw p) : jd_200 0 p jhS = some (.inr 2, jth jhS 2) := by
  unfold jd_200 jd_200_b9
  rcases hp with hp | hp
  · rw [if_pos hp, jS_j6, Option.bind_some]
  · rw [if_neg (by omega), if_neg (by omega), jS_j6, Option.bind_some]
theorem jS_g13 : jgr jhS 0 11 13 = some (some 8) := by decide +kernel
theorem jS_p8 : ∀ y : Nat, y < 4 → jar jhS 8 7 (y : Int) = some (some (72 + y)) ∧ jgr jhS (72 + y) 7 0 = some none := by decide +kernel
theorem f_200 {p : Int} (hp : 0 ≤ jw p ∧ jw p < 4) : ∃ y : Nat, y < 4 ∧ jd_200 0 p jhS = some (.inl (72 + y), jhS) := by
  obtain ⟨h0, h4⟩ := hp
  refine ⟨(jw p).toNat, by omega, ?_⟩
  have e : jar jhS 8 7 p = jar jhS 8 7 ((jw p).toNat : Int) := by
    have e1 : ((jw p).toNat : Int) = jw p := Int.toNat_of_nonneg h0
    have e2 : jw (jw p) = jw p := by unfold jw; omega
    unfold jar
    rw [e1, e2]
  unfold jd_200 jd_200_b9
  rw [if_neg (by omega), if_pos h4, jS_g13, Option.bind_some, Option.bind_some, e, (jS_p8 _ (by omega)).1, Option.bind_some, Option.bind_some]
theorem f_190 {y : Nat} (hy : y < 4) : jd_190 (some (72 + y)) jhS = some (.inr 1, jth jhS 1) := by
  unfold jd_190
  rw [Option.bind_some, (jS_p8 y hy).2, Option.bind_some, if_pos rfl, jS_j6, Option.bind_some]
theorem f_201 (p : Int) : jd_201 0 p jhS = some (.inr (if 0 ≤ jw p ∧ jw p < 4 then 1 else 2), jth jhS (if 0 ≤ jw p ∧ jw p < 4 then 1 else 2)) := by
  unfold jd_201
  rw [jS_c, Option.bind_some]
  by_cases hp : 0 ≤ jw p ∧ jw p < 4
  · obtain ⟨y, hy, e⟩ := f_200 hp
    rw [e, jtb_l, f_190 hy, jtb_r, if_pos hp]
  · rw [f_200n (by omega), jtb_r, if_neg hp]
theorem f_141 (p0 p1 p2 p3 p4 p5 p6 : Int) : jd_141 0 p0 p1 p2 p3 p4 p5 p6 jhS = some (.inr 2, jth jhS 2) := by
  unfold jd_141
  rw [jS_c, Option.bind_some, f_193, jtb_r]
theorem f_142 (p0 p1 p2 p3 : Int) : jd_142 0 p0 p1 p2 p3 jhS = some (.inr 2, jth jhS 2) := by
  unfold jd_142
  rw [jS_c, Option.bind_some, f_193, jtb_r]
theorem f_143 (p0 p1 p2 : Int) : jd_143 0 p0 p1 p2 jhS = some (.inr 2, jth jhS 2) := by
  unfold jd_143
  rw [jS_c, Option.bind_some, f_193, jtb_r]
theorem f_144 (p0 p1 p2 p3 p4 : Int) : jd_144 0 p0 p1 p2 p3 p4 jhS = some (.inr 2, jth jhS 2) := by
  unfold jd_144
  rw [jS_c, Option.bind_some, f_193, jtb_r]
theorem f_145 (p0 p1 p2 p3 : Int) : jd_145 0 p0 p1 p2 p3 jhS = some (.inr 2, jth jhS 2) := by
  unfold jd_145
  rw [jS_c, Option.bind_some, f_193, jtb_r]
theorem f_146 (p0 p1 : Int) : jd_146 0 p0 p1 jhS = some (.inr 2, jth jhS 2) := by
  unfold jd_146
  rw [jS_c, Option.bind_some, f_193, jtb_r]
theorem f_153 (p0 : Int) : jd_153 0 p0 jhS = some (.inr 2, jth jhS 2) := by
  unfold jd_153
  rw [jS_c, Option.bind_some, f_193, jtb_r]
theorem f_171 (p0 p1 p2 : Int) : jd_171 0 p0 p1 p2 jhS = some (.inr 2, jth jhS 2) := by
  unfold jd_171
  rw [jS_c, Option.bind_some, f_193, jtb_r]
theorem f_157 (p0 : Int) : jd_157 0 p0 jhS = some (.inr 2, jth jhS 2) := by
  unfold jd_157
  rw [jS_c, Option.bind_some, f_195, jtb_r]
theorem f_158 (p0 p1 : Int) : jd_158 0 p0 p1 jhS = some (.inr 2, jth jhS 2) := by
  unfold jd_158
  rw [jS_c, Option.bind_some, f_195, jtb_r]
theorem f_159 (p0 p1 p2 : Int) : jd_159 0 p0 p1 p2 jhS = some (.inr 2, jth jhS 2) := by
  unfold jd_159
  rw [jS_c, Option.bind_some, f_195, jtb_r]
theorem f_160 (p0 p1 p2 p3 : Int) : jd_160 0 p0 p1 p2 p3 jhS = some (.inr 2, jth jhS 2) := by
  unfold jd_160
  rw [jS_c, Option.bind_some, f_195, jtb_r]
theorem f_161 (p0 p1 p2 p3 p4 : Int) : jd_161 0 p0 p1 p2 p3 p4 jhS = some (.inr 2, jth jhS 2) := by
  unfold jd_161
  rw [jS_c, Option.bind_some, f_195, jtb_r]
theorem f_162 (p0 p1 p2 p3 p4 : Int) : jd_162 0 p0 p1 p2 p3 p4 jhS = some (.inr 2, jth jhS 2) := by
  unfold jd_162
  rw [jS_c, Option.bind_some, f_195, jtb_r]
theorem f_163 (p0 p1 : Int) : jd_163 0 p0 p1 jhS = some (.inr 2, jth jhS 2) := by
  unfold jd_163
  rw [jS_c, Option.bind_some, f_195, jtb_r]
theorem f_164 (p0 p1 p2 p3 : Int) : jd_164 0 p0 p1 p2 p3 jhS = some (.inr 2, jth jhS 2) := by
  unfold jd_164
  rw [jS_c, Option.bind_some, f_195, jtb_r]
theorem f_165 (p0 p1 p2 : Int) : jd_165 0 p0 p1 p2 jhS = some (.inr 2, jth jhS 2) := by
  unfold jd_165
  rw [jS_c, Option.bind_some, f_195, jtb_r]
theorem f_167 (p0 p1 : Int) : jd_167 0 p0 p1 jhS = some (.inr 2, jth jhS 2) := by
  unfold jd_167
  rw [jS_c, Option.bind_some, f_195, jtb_r]
theorem f_172 (p0 p1 : Int) : jd_172 0 p0 p1 jhS = some (.inr 2, jth jhS 2) := by
  unfold jd_172
  rw [jS_c, Option.bind_some, f_195, jtb_r]
theorem f_173 (p0 p1 : Int) : jd_173 0 p0 p1 jhS = some (.inr 2, jth jhS 2) := by
  unfold jd_173
  rw [jS_c, Option.bind_some, f_195, jtb_r]
theorem f_174 (p0 p1 p2 p3 : Int) : jd_174 0 p0 p1 p2 p3 jhS = some (.inr 2, jth jhS 2) := by
  unfold jd_174
  rw [jS_c, Option.bind_some, f_195, jtb_r]
theorem f_175 (p0 p1 p2 p3 : Int) : jd_175 0 p0 p1 p2 p3 jhS = some (.inr 2, jth jhS 2) := by
  unfold jd_175
  rw [jS_c, Option.bind_some]
  by_cases hp : 0 ≤ jw p0 ∧ jw p0 < 4
  · obtain ⟨y, hy, e⟩ := f_200 hp
    rw [e, jtb_l, jS_c, Option.bind_some, f_195, jtb_r]
  · rw [f_200n (by omega), jtb_r]
theorem f_176 (p0 : Int) : jd_176 0 p0 jhS = some (.inr (if 0 ≤ jw p0 ∧ jw p0 < 4 then 1 else 2), jth jhS (if 0 ≤ jw p0 ∧ jw p0 < 4 then 1 else 2)) := by
  unfold jd_176
  rw [jS_c, Option.bind_some, f_201, jtb_r]
theorem f_177 (p0 p1 : Int) : jd_177 0 p0 p1 jhS = some (.inr (if 0 ≤ jw p0 ∧ jw p0 < 4 then 1 else 2), jth jhS (if 0 ≤ jw p0 ∧ jw p0 < 4 then 1 else 2)) := by
  unfold jd_177
  rw [jS_c, Option.bind_some, f_201, jtb_r]
theorem f_178 (p0 p1 : Int) : jd_178 0 p0 p1 jhS = some (.inr (if 0 ≤ jw p0 ∧ jw p0 < 4 then 1 else 2), jth jhS (if 0 ≤ jw p0 ∧ jw p0 < 4 then 1 else 2)) := by
  unfold jd_178
  rw [jS_c, Option.bind_some, f_201, jtb_r]
theorem f_185n {p q : Int} (hp : jw p < 0 ∨ jw q < jw p) : jd_185 p q jhS = some (.inr 0, jth jhS 0) := by
  unfold jd_185 jd_185_b9
  rcases hp with hp | hp
  · rw [if_pos hp, jS_j6, Option.bind_some]
  · by_cases h0 : jw p < 0
    · rw [if_pos h0, jS_j6, Option.bind_some]
    · rw [if_neg h0, if_neg (by omega), jS_j6, Option.bind_some]
theorem f_185 {p q : Int} {h : jH} (h0 : 0 ≤ jw p) (h1 : jw p ≤ jw q) : jd_185 p q h = some (.inl (), h) := by
  unfold jd_185
  rw [if_neg (by omega), if_pos h1]
theorem f_186n {p : Int} (hp : jw p < 0 ∨ 2 < jw p) : jd_186 p jhS = some (.inr 2, jth jhS 2) := by
  unfold jd_186 jd_186_b9
  rcases hp with hp | hp
  · rw [if_pos hp, jS_j6, Option.bind_some]
  · rw [if_neg (by omega), if_neg (by omega), jS_j6, Option.bind_some]
theorem f_186 {p : Int} {h : jH} (h0 : 0 ≤ jw p) (h1 : jw p ≤ 2) : jd_186 p h = some (.inl (), h) := by
  unfold jd_186
  rw [if_neg (by omega), if_pos h1]
theorem jw_5 : jw 5 = 5 := by decide
theorem jw_7 : jw 7 = 7 := by decide
/-- which exception: player -/
def f_e179 (p0 p1 : Int) : Nat := if 0 ≤ jw p0 ∧ jw p0 < 4 then (if 0 ≤ jw p1 ∧ jw p1 ≤ 5 then 1 else 0) else 2
theorem f_179 (p0 p1 : Int) : jd_179 0 p0 p1 jhS = some (.inr (f_e179 p0 p1), jth jhS (f_e179 p0 p1)) := by
  unfold jd_179 f_e179
  rw [jS_c, Option.bind_some]
  by_cases hp : 0 ≤ jw p0 ∧ jw p0 < 4
  · obtain ⟨y, hy, e⟩ := f_200 hp
    rw [e, jtb_l, if_pos hp]
    by_cases hq : 0 ≤ jw p1 ∧ jw p1 ≤ 5
    · rw [f_185 hq.1 (by rw [jw_5]; exact hq.2), jtb_l, f_190 hy, jtb_r, if_pos hq]
    · rw [f_185n (by rw [jw_5]; omega), jtb_r, if_neg hq]
  · rw [f_200n (by omega), jtb_r, if_neg hp]
def f_e180 (p0 p1 : Int) : Nat := if (0 ≤ jw p0 ∧ jw p0 < 4) ∧ 0 ≤ jw p1 ∧ jw p1 ≤ 2 then 1 else 2
theorem f_180 (p0 p1 p2 p3 : Int) : jd_180 0 p0 p1 p2 p3 jhS = some (.inr (f_e180 p0 p1), jth jhS (f_e180 p0 p1)) := by
  unfold jd_180 f_e180
  rw [jS_c, Option.bind_some]
  by_cases hp : 0 ≤ jw p0 ∧ jw p0 < 4
  · obtain ⟨y, hy, e⟩ := f_200 hp
    rw [e, jtb_l]
    by_cases hq : 0 ≤ jw p1 ∧ jw p1 ≤ 2
    · rw [f_186 hq.1 hq.2, jtb_l, f_190 hy, jtb_r, if_pos ⟨hp, hq⟩]
    · rw [f_186n (by omega), jtb_r, if_neg (by omega)]
  · rw [f_200n (by omega), jtb_r, if_neg (by omega)]
theorem f_181n {p : Int} (hp : jw p < 0 ∨ 5 < jw p) : jd_181 0 p jhS = some (.inr 0, jth jhS 0) := by
  unfold jd_181
  rw [f_185n (by rw [jw_5]; exact hp), jtb_r]
theorem f_181 {p : Int} (h0 : 0 ≤ jw p) (h1 : jw p ≤ 5) : jd_181 0 p jhS = some (.inl 0, jhS) := by
  unfold jd_181
  rw [f_185 h0 (by rw [jw_5]; exact h1), jtb_l, jS_g1, jS_g8, jS_g12, jS_g6, jS_g10, jS_g3]
  simp only [Option.bind_some]
  split
  · rfl
  · split
    · rfl
    · split
      · rfl
      · split
        · rfl
        · split <;> rfl
theorem f_150 (p : Int) : jd_150 0 p jhS = some (-1) := by
  unfold jd_150 jd_150_b12 jd_150_b26
  by_cases hp : jw p < 0
  · rw [if_pos hp]
  · rw [if_neg hp, jS_g3, Option.bind_some, jw_0, if_neg hp]
theorem f_151 : jd_151 0 jhS = some (0, jsf jhS 0 (jiu (ji jhS 0) 3 0)) := by
  unfold jd_151
  rw [jS_g3, Option.bind_some, jpi_e jS_x jS_t0, Option.bind_some]
  rfl
theorem f_154 : jd_154 0 jhS = some (0, jsf jhS 0 (jiu (ji jhS 0) 6 0)) := by
  unfold jd_154
  rw [jS_g6, Option.bind_some, jpi_e jS_x jS_t0, Option.bind_some]
  rfl
theorem f_147n {p : Int} (hp : jw p < 0) : jd_147 0 p jhS = some (.inr 0, jth jhS 0) := by
  unfold jd_147
  rw [if_neg (by omega), jS_j6, Option.bind_some]
theorem f_147 {p : Int} (hp : 0 ≤ jw p) : jd_147 0 p jhS = some (.inl 0, jsf jhS 0 (jiu (ji jhS 0) 1 0)) := by
  unfold jd_147
  rw [if_pos hp, jS_g1, Option.bind_some, jw_0, if_neg (by omega), jpi_e jS_x jS_t0, Option.bind_some, jgi_e (by rw [jsf_1]; exact jS_x) (by rw [jsf_t]; exact jS_t0), Option.bind_some, jsf_is]
  rfl
