set_option maxRecDepth 100000 in
set_option maxHeartbeats 4000000 in
theorem j_L_law_s_J2017 {l : Launch} {g : Gt} {b u : Nat} (hl : l.stackTraces = false) (hu : u ≤ 2090) {μ : Mm} {ν : Mm} {o : Nat → Int64} {dd : Nat → UInt64} {Ls : Nat} {xs : Nat → Int32} {kb28 : (Int32 → Mm → Mm → (Nat → Int64) → (Nat → UInt64) → Option Unit)} {x5 : Int32}  {res : Unit} (hb28 : ∀ (v5 : Int32) (μ' : Mm) (ν' : Mm) (o' : Nat → Int64) (dd' : Nat → UInt64), kb28 v5 μ' ν' o' dd' = some res → E l g z_L_law 28 [(0, .ref b), (1, .ref (gaC g 0)), (2, .ref (gaM g 0)), (3, .ref (gao g 0)), (4, .ref (gao g 1)), (5, .int v5)] [] (μ', ν', o', dd') (u + 4) (Qlaw g b Ls xs)) (hf : f_L_law_s_J2017 Ls xs kb28 x5 μ ν o dd = some res) : E l g z_L_law 2017 [(0, .ref b), (1, .ref (gaC g 0)), (2, .ref (gaM g 0)), (3, .ref (gao g 0)), (4, .ref (gao g 1)), (5, .int x5)] [] (μ, ν, o, dd) (u + 0) (Qlaw g b Ls xs) := by
  unfold f_L_law_s_J2017 at hf
  refine E_aload_n 2018 1 dL_law_2017 rfl rfl rfl ?_
  refine E_aload_n 2019 0 dL_law_2018 rfl rfl rfl ?_
  refine E_iload 2021 5 dL_law_2019 rfl rfl ?_
  refine E_iconst 2022 1 dL_law_2021 cst_iconst1 rfl ?_
  refine E_iadd 2023 dL_law_2022 rfl ?_
  obtain ⟨h378, hf⟩ := chk_some hf
  refine E_sld 2024 h378 dL_law_2023 rfl ?_
  refine E_aload_n 2025 0 dL_law_2024 rfl rfl rfl ?_
  refine E_iload 2027 5 dL_law_2025 rfl rfl ?_
  refine E_iconst 2028 2 dL_law_2027 cst_iconst2 rfl ?_
  refine E_iadd 2029 dL_law_2028 rfl ?_
  obtain ⟨h379, hf⟩ := chk_some hf
  refine E_sld 2030 h379 dL_law_2029 rfl ?_
  refine E_aload_n 2031 0 dL_law_2030 rfl rfl rfl ?_
  refine E_iload 2033 5 dL_law_2031 rfl rfl ?_
  refine E_iconst 2034 3 dL_law_2033 cst_iconst3 rfl ?_
  refine E_iadd 2035 dL_law_2034 rfl ?_
  obtain ⟨h380, hf⟩ := chk_some hf
  refine E_sld 2036 h380 dL_law_2035 rfl ?_
  refine E_aload_n 2037 3 dL_law_2036 rfl rfl rfl ?_
  obtain ⟨r381, hc382, hf⟩ := bnd hf
  refine E_callH1 2040 (u + 3) [] [.int r381.1] (c_L_reasonFeature_0_o hl hc382) my_L_reasonFeature kl_L_260 rfl rfl (Nat.le_of_ble_eq_true rfl) (rmlaw (by omega) rfl) dL_law_2037 rfl rfl rfl ?_
  refine E_istore 2042 [(6, .int r381.1), (0, .ref b), (1, .ref (gaC g 0)), (2, .ref (gaM g 0)), (3, .ref (gao g 0)), (4, .ref (gao g 1)), (5, .int x5)] dL_law_2040 (by decide) rfl rfl ?_
  refine E_aload_n 2043 3 dL_law_2042 rfl rfl rfl ?_
  refine E_aload_n 2044 1 dL_law_2043 rfl rfl rfl ?_
  refine E_iload 2046 6 dL_law_2044 rfl rfl ?_
  refine E_iconst 2047 1 dL_law_2046 cst_iconst1 rfl ?_
  refine E_iadd 2048 dL_law_2047 rfl ?_
  obtain ⟨h383, hf⟩ := chk_some hf
  refine E_sld 2049 h383 dL_law_2048 rfl ?_
  refine E_aload_n 2050 1 dL_law_2049 rfl rfl rfl ?_
  refine E_iload 2052 6 dL_law_2050 rfl rfl ?_
  refine E_iconst 2053 2 dL_law_2052 cst_iconst2 rfl ?_
  refine E_iadd 2054 dL_law_2053 rfl ?_
  obtain ⟨h384, hf⟩ := chk_some hf
  refine E_sld 2055 h384 dL_law_2054 rfl ?_
  refine E_aload_n 2056 1 dL_law_2055 rfl rfl rfl ?_
  refine E_iload 2058 6 dL_law_2056 rfl rfl ?_
  refine E_iconst 2059 3 dL_law_2058 cst_iconst3 rfl ?_
  refine E_iadd 2060 dL_law_2059 rfl ?_
  obtain ⟨h385, hf⟩ := chk_some hf
  refine E_sld 2061 h385 dL_law_2060 rfl ?_
  obtain ⟨r386, hc387, hf⟩ := bnd hf
  refine E_callVM1 2064 (u + 3) [] [.int r386.1] (c_X8_reasonFeature hl hc387) my_X8_reasonFeature rc_X8 kl_L_262 rfl rfl (Nat.le_of_ble_eq_true rfl) (rmlaw (by omega) rfl) dL_law_2061 rfl rfl rfl ?_
  refine E_istore 2066 [(7, .int r386.1), (6, .int r381.1), (0, .ref b), (1, .ref (gaC g 0)), (2, .ref (gaM g 0)), (3, .ref (gao g 0)), (4, .ref (gao g 1)), (5, .int x5)] dL_law_2064 (by decide) rfl rfl ?_
  refine E_aload_n 2067 4 dL_law_2066 rfl rfl rfl ?_
  obtain ⟨r388, hc389, hf⟩ := bnd hf
  refine E_callVM1 2070 (u + 3) [] [.int r388] (c_X8_thrown hl hc389) my_X8_thrown rc_X8 kl_L_163 rfl rfl (Nat.le_of_ble_eq_true rfl) (rmlaw (by omega) rfl) dL_law_2067 rfl rfl rfl ?_
  refine E_iload 2072 1 dL_law_2070 rfl rfl ?_
  refine E_icmp_eq 2077 2075 dL_law_2072 (by decide) rfl (fun c390 => ?_) (fun c390 => ?_)
  · have hf := ite_t c390 hf
    refine E_iload 2079 1 dL_law_2077 rfl rfl ?_
    refine E_if_ne 2094 2082 dL_law_2079 (by decide) rfl (fun c391 => ?_) (fun c391 => ?_)
    · have hf := ite_e c391 hf
      refine E_goto 2972 dL_law_2094 (by decide) ?_
      refine E_iinc 2975 [(5, .int (x5 + 5)), (7, .int r386.1), (6, .int r381.1), (0, .ref b), (1, .ref (gaC g 0)), (2, .ref (gaM g 0)), (3, .ref (gao g 0)), (4, .ref (gao g 1))] 7 (v := x5 + 5) dL_law_2972 rfl (by rw [cst_iconst5]) (by decide) rfl rfl ?_
      refine E_goto 28 dL_law_2975 (by decide) ?_
      refine E_sub [3, 4, 5, 6, 7, 0] rfl ?_
      refine E_up (u' := u + 4) (by omega) ?_
      exact hb28 (x5 + 5) μ r386.2 r381.2 dd hf
    · have hf := ite_t c391 hf
      refine E_aload_n 2083 5 dL_law_2082 rfl rfl rfl ?_
      refine E_iconst 2084 0 dL_law_2083 cst_iconst0 rfl ?_
      obtain ⟨h392, hf⟩ := chk_some hf
      refine E_lald 2085 h392 dL_law_2084 rfl ?_
      refine E_iload 2087 0 dL_law_2085 rfl rfl ?_
      refine E_i2l 2088 dL_law_2087 rfl ?_
      refine E_lcmp 2089 dL_law_2088 rfl ?_
      refine E_if_eq 2094 2092 dL_law_2089 (by decide) rfl (fun c393 => ?_) (fun c393 => ?_)
      · have hf := ite_t c393 hf
        refine E_goto 2972 dL_law_2094 (by decide) ?_
        refine E_iinc 2975 [(5, .int (x5 + 5)), (7, .int r386.1), (6, .int r381.1), (0, .ref b), (1, .ref (gaC g 0)), (2, .ref (gaM g 0)), (3, .ref (gao g 0)), (4, .ref (gao g 1))] 7 (v := x5 + 5) dL_law_2972 rfl (by rw [cst_iconst5]) (by decide) rfl rfl ?_
        refine E_goto 28 dL_law_2975 (by decide) ?_
        refine E_sub [3, 4, 5, 6, 7, 0] rfl ?_
        refine E_up (u' := u + 4) (by omega) ?_
        exact hb28 (x5 + 5) μ r386.2 r381.2 dd hf
      · have hf := ite_e c393 hf
        refine E_iconst 2093 0 dL_law_2092 cst_iconst0 rfl ?_
        cases hf
  · have hf := ite_e c390 hf
    refine E_iconst 2076 0 dL_law_2075 cst_iconst0 rfl ?_
    cases hf
set_option maxRecDepth 100000 in
set_option maxHeartbeats 4000000 in
theorem j_L_law_s_J2097 {l : Launch} {g : Gt} {b u : Nat} (hl : l.stackTraces = false) (hu : u ≤ 2090) {μ : Mm} {ν : Mm} {o : Nat → Int64} {dd : Nat → UInt64} {Ls : Nat} {xs : Nat → Int32} {kb28 : (Int32 → Mm → Mm → (Nat → Int64) → (Nat → UInt64) → Option Unit)} {x5 : Int32}  {res : Unit} (hb28 : ∀ (v5 : Int32) (μ' : Mm) (ν' : Mm) (o' : Nat → Int64) (dd' : Nat → UInt64), kb28 v5 μ' ν' o' dd' = some res → E l g z_L_law 28 [(0, .ref b), (1, .ref (gaC g 0)), (2, .ref (gaM g 0)), (3, .ref (gao g 0)), (4, .ref (gao g 1)), (5, .int v5)] [] (μ', ν', o', dd') (u + 4) (Qlaw g b Ls xs)) (hf : f_L_law_s_J2097 Ls xs kb28 x5 μ ν o dd = some res) : E l g z_L_law 2097 [(0, .ref b), (1, .ref (gaC g 0)), (2, .ref (gaM g 0)), (3, .ref (gao g 0)), (4, .ref (gao g 1)), (5, .int x5)] [] (μ, ν, o, dd) (u + 0) (Qlaw g b Ls xs) := by
  unfold f_L_law_s_J2097 at hf
  refine E_aload_n 2098 1 dL_law_2097 rfl rfl rfl ?_
  refine E_aload_n 2099 0 dL_law_2098 rfl rfl rfl ?_
  refine E_iload 2101 5 dL_law_2099 rfl rfl ?_
  refine E_iconst 2102 1 dL_law_2101 cst_iconst1 rfl ?_
  refine E_iadd 2103 dL_law_2102 rfl ?_
  obtain ⟨h394, hf⟩ := chk_some hf
  refine E_sld 2104 h394 dL_law_2103 rfl ?_
  refine E_aload_n 2105 0 dL_law_2104 rfl rfl rfl ?_
  refine E_iload 2107 5 dL_law_2105 rfl rfl ?_
  refine E_iconst 2108 2 dL_law_2107 cst_iconst2 rfl ?_
  refine E_iadd 2109 dL_law_2108 rfl ?_
  obtain ⟨h395, hf⟩ := chk_some hf
  refine E_sld 2110 h395 dL_law_2109 rfl ?_
  refine E_aload_n 2111 0 dL_law_2110 rfl rfl rfl ?_
  refine E_iload 2113 5 dL_law_2111 rfl rfl ?_
  refine E_iconst 2114 3 dL_law_2113 cst_iconst3 rfl ?_
  refine E_iadd 2115 dL_law_2114 rfl ?_
  obtain ⟨h396, hf⟩ := chk_some hf
  refine E_sld 2116 h396 dL_law_2115 rfl ?_
  refine E_aload_n 2117 3 dL_law_2116 rfl rfl rfl ?_
  obtain ⟨r397, hc398, hf⟩ := bnd hf
  refine E_callH1 2120 (u + 3) [] [.int r397.1] (c_L_reasonValue_0_o hl hc398) my_L_reasonValue kl_L_263 rfl rfl (Nat.le_of_ble_eq_true rfl) (rmlaw (by omega) rfl) dL_law_2117 rfl rfl rfl ?_
  refine E_istore 2122 [(6, .int r397.1), (0, .ref b), (1, .ref (gaC g 0)), (2, .ref (gaM g 0)), (3, .ref (gao g 0)), (4, .ref (gao g 1)), (5, .int x5)] dL_law_2120 (by decide) rfl rfl ?_
  refine E_aload_n 2123 3 dL_law_2122 rfl rfl rfl ?_
  refine E_aload_n 2124 1 dL_law_2123 rfl rfl rfl ?_
  refine E_iload 2126 6 dL_law_2124 rfl rfl ?_
  refine E_iconst 2127 1 dL_law_2126 cst_iconst1 rfl ?_
  refine E_iadd 2128 dL_law_2127 rfl ?_
  obtain ⟨h399, hf⟩ := chk_some hf
  refine E_sld 2129 h399 dL_law_2128 rfl ?_
  refine E_aload_n 2130 1 dL_law_2129 rfl rfl rfl ?_
  refine E_iload 2132 6 dL_law_2130 rfl rfl ?_
  refine E_iconst 2133 2 dL_law_2132 cst_iconst2 rfl ?_
  refine E_iadd 2134 dL_law_2133 rfl ?_
  obtain ⟨h400, hf⟩ := chk_some hf
  refine E_sld 2135 h400 dL_law_2134 rfl ?_
  refine E_aload_n 2136 1 dL_law_2135 rfl rfl rfl ?_
  refine E_iload 2138 6 dL_law_2136 rfl rfl ?_
  refine E_iconst 2139 3 dL_law_2138 cst_iconst3 rfl ?_
  refine E_iadd 2140 dL_law_2139 rfl ?_
  obtain ⟨h401, hf⟩ := chk_some hf
  refine E_sld 2141 h401 dL_law_2140 rfl ?_
  obtain ⟨r402, hc403, hf⟩ := bnd hf
  refine E_callVM1 2144 (u + 3) [] [.int r402.1] (c_X8_reasonValue hl hc403) my_X8_reasonValue rc_X8 kl_L_265 rfl rfl (Nat.le_of_ble_eq_true rfl) (rmlaw (by omega) rfl) dL_law_2141 rfl rfl rfl ?_
  refine E_istore 2146 [(7, .int r402.1), (6, .int r397.1), (0, .ref b), (1, .ref (gaC g 0)), (2, .ref (gaM g 0)), (3, .ref (gao g 0)), (4, .ref (gao g 1)), (5, .int x5)] dL_law_2144 (by decide) rfl rfl ?_
  refine E_aload_n 2147 4 dL_law_2146 rfl rfl rfl ?_
  obtain ⟨r404, hc405, hf⟩ := bnd hf
  refine E_callVM1 2150 (u + 3) [] [.int r404] (c_X8_thrown hl hc405) my_X8_thrown rc_X8 kl_L_163 rfl rfl (Nat.le_of_ble_eq_true rfl) (rmlaw (by omega) rfl) dL_law_2147 rfl rfl rfl ?_
  refine E_iload 2152 1 dL_law_2150 rfl rfl ?_
  refine E_icmp_eq 2157 2155 dL_law_2152 (by decide) rfl (fun c406 => ?_) (fun c406 => ?_)
  · have hf := ite_t c406 hf
    refine E_iload 2159 1 dL_law_2157 rfl rfl ?_
    refine E_if_ne 2174 2162 dL_law_2159 (by decide) rfl (fun c407 => ?_) (fun c407 => ?_)
    · have hf := ite_e c407 hf
      refine E_goto 2972 dL_law_2174 (by decide) ?_
      refine E_iinc 2975 [(5, .int (x5 + 5)), (7, .int r402.1), (6, .int r397.1), (0, .ref b), (1, .ref (gaC g 0)), (2, .ref (gaM g 0)), (3, .ref (gao g 0)), (4, .ref (gao g 1))] 7 (v := x5 + 5) dL_law_2972 rfl (by rw [cst_iconst5]) (by decide) rfl rfl ?_
      refine E_goto 28 dL_law_2975 (by decide) ?_
      refine E_sub [3, 4, 5, 6, 7, 0] rfl ?_
      refine E_up (u' := u + 4) (by omega) ?_
      exact hb28 (x5 + 5) μ r402.2 r397.2 dd hf
    · have hf := ite_t c407 hf
      refine E_aload_n 2163 5 dL_law_2162 rfl rfl rfl ?_
      refine E_iconst 2164 0 dL_law_2163 cst_iconst0 rfl ?_
      obtain ⟨h408, hf⟩ := chk_some hf
      refine E_lald 2165 h408 dL_law_2164 rfl ?_
      refine E_iload 2167 0 dL_law_2165 rfl rfl ?_
      refine E_i2l 2168 dL_law_2167 rfl ?_
      refine E_lcmp 2169 dL_law_2168 rfl ?_
      refine E_if_eq 2174 2172 dL_law_2169 (by decide) rfl (fun c409 => ?_) (fun c409 => ?_)
      · have hf := ite_t c409 hf
        refine E_goto 2972 dL_law_2174 (by decide) ?_
        refine E_iinc 2975 [(5, .int (x5 + 5)), (7, .int r402.1), (6, .int r397.1), (0, .ref b), (1, .ref (gaC g 0)), (2, .ref (gaM g 0)), (3, .ref (gao g 0)), (4, .ref (gao g 1))] 7 (v := x5 + 5) dL_law_2972 rfl (by rw [cst_iconst5]) (by decide) rfl rfl ?_
        refine E_goto 28 dL_law_2975 (by decide) ?_
        refine E_sub [3, 4, 5, 6, 7, 0] rfl ?_
        refine E_up (u' := u + 4) (by omega) ?_
        exact hb28 (x5 + 5) μ r402.2 r397.2 dd hf
      · have hf := ite_e c409 hf
        refine E_iconst 2173 0 dL_law_2172 cst_iconst0 rfl ?_
        cases hf
  · have hf := ite_e c406 hf
    refine E_iconst 2156 0 dL_law_2155 cst_iconst0 rfl ?_
    cases hf
set_option maxRecDepth 100000 in
set_option maxHeartbeats 4000000 in
theorem j_L_law_s_J2177 {l : Launch} {g : Gt} {b u : Nat} (hl : l.stackTraces = false) (hu : u ≤ 2090) {μ : Mm} {ν : Mm} {o : Nat → Int64} {dd : Nat → UInt64} {Ls : Nat} {xs : Nat → Int32} {kb28 : (Int32 → Mm → Mm → (Nat → Int64) → (Nat → UInt64) → Option Unit)} {x5 : Int32}  {res : Unit} (hb28 : ∀ (v5 : Int32) (μ' : Mm) (ν' : Mm) (o' : Nat → Int64) (dd' : Nat → UInt64), kb28 v5 μ' ν' o' dd' = some res → E l g z_L_law 28 [(0, .ref b), (1, .ref (gaC g 0)), (2, .ref (gaM g 0)), (3, .ref (gao g 0)), (4, .ref (gao g 1)), (5, .int v5)] [] (μ', ν', o', dd') (u + 4) (Qlaw g b Ls xs)) (hf : f_L_law_s_J2177 Ls xs kb28 x5 μ ν o dd = some res) : E l g z_L_law 2177 [(0, .ref b), (1, .ref (gaC g 0)), (2, .ref (gaM g 0)), (3, .ref (gao g 0)), (4, .ref (gao g 1)), (5, .int x5)] [] (μ, ν, o, dd) (u + 0) (Qlaw g b Ls xs) := by
  unfold f_L_law_s_J2177 at hf
  refine E_aload_n 2178 1 dL_law_2177 rfl rfl rfl ?_
  refine E_aload_n 2179 3 dL_law_2178 rfl rfl rfl ?_
  obtain ⟨r410, hc411, hf⟩ := bnd hf
  refine E_callH1 2182 (u + 1) [] [.int r410.1] (c_L_nextAlert_0_o hl hc411) my_L_nextAlert kl_L_266 rfl rfl (Nat.le_of_ble_eq_true rfl) (rmlaw (by omega) rfl) dL_law_2179 rfl rfl rfl ?_
  refine E_istore 2184 [(6, .int r410.1), (0, .ref b), (1, .ref (gaC g 0)), (2, .ref (gaM g 0)), (3, .ref (gao g 0)), (4, .ref (gao g 1)), (5, .int x5)] dL_law_2182 (by decide) rfl rfl ?_
  refine E_aload_n 2185 3 dL_law_2184 rfl rfl rfl ?_
  obtain ⟨r412, hc413, hf⟩ := bnd hf
  refine E_callVM1 2188 (u + 1) [] [.int r412.1] (c_X8_nextAlert hl hc413) my_X8_nextAlert rc_X8 kl_L_269 rfl rfl (Nat.le_of_ble_eq_true rfl) (rmlaw (by omega) rfl) dL_law_2185 rfl rfl rfl ?_
  refine E_istore 2190 [(7, .int r412.1), (6, .int r410.1), (0, .ref b), (1, .ref (gaC g 0)), (2, .ref (gaM g 0)), (3, .ref (gao g 0)), (4, .ref (gao g 1)), (5, .int x5)] dL_law_2188 (by decide) rfl rfl ?_
  refine E_aload_n 2191 4 dL_law_2190 rfl rfl rfl ?_
  obtain ⟨r414, hc415, hf⟩ := bnd hf
  refine E_callVM1 2194 (u + 1) [] [.int r414] (c_X8_thrown hl hc415) my_X8_thrown rc_X8 kl_L_163 rfl rfl (Nat.le_of_ble_eq_true rfl) (rmlaw (by omega) rfl) dL_law_2191 rfl rfl rfl ?_
  refine E_iload 2196 1 dL_law_2194 rfl rfl ?_
  refine E_icmp_eq 2201 2199 dL_law_2196 (by decide) rfl (fun c416 => ?_) (fun c416 => ?_)
  · have hf := ite_t c416 hf
    refine E_iload 2203 1 dL_law_2201 rfl rfl ?_
    refine E_if_ne 2218 2206 dL_law_2203 (by decide) rfl (fun c417 => ?_) (fun c417 => ?_)
    · have hf := ite_e c417 hf
      refine E_goto 2972 dL_law_2218 (by decide) ?_
      refine E_iinc 2975 [(5, .int (x5 + 5)), (7, .int r412.1), (6, .int r410.1), (0, .ref b), (1, .ref (gaC g 0)), (2, .ref (gaM g 0)), (3, .ref (gao g 0)), (4, .ref (gao g 1))] 7 (v := x5 + 5) dL_law_2972 rfl (by rw [cst_iconst5]) (by decide) rfl rfl ?_
      refine E_goto 28 dL_law_2975 (by decide) ?_
      refine E_sub [3, 4, 5, 6, 7, 0] rfl ?_
      refine E_up (u' := u + 4) (by omega) ?_
      exact hb28 (x5 + 5) μ r412.2 r410.2 dd hf
    · have hf := ite_t c417 hf
      refine E_aload_n 2207 5 dL_law_2206 rfl rfl rfl ?_
      refine E_iconst 2208 0 dL_law_2207 cst_iconst0 rfl ?_
      obtain ⟨h418, hf⟩ := chk_some hf
      refine E_lald 2209 h418 dL_law_2208 rfl ?_
      refine E_iload 2211 0 dL_law_2209 rfl rfl ?_
      refine E_i2l 2212 dL_law_2211 rfl ?_
      refine E_lcmp 2213 dL_law_2212 rfl ?_
      refine E_if_eq 2218 2216 dL_law_2213 (by decide) rfl (fun c419 => ?_) (fun c419 => ?_)
      · have hf := ite_t c419 hf
        refine E_goto 2972 dL_law_2218 (by decide) ?_
        refine E_iinc 2975 [(5, .int (x5 + 5)), (7, .int r412.1), (6, .int r410.1), (0, .ref b), (1, .ref (gaC g 0)), (2, .ref (gaM g 0)), (3, .ref (gao g 0)), (4, .ref (gao g 1))] 7 (v := x5 + 5) dL_law_2972 rfl (by rw [cst_iconst5]) (by decide) rfl rfl ?_
        refine E_goto 28 dL_law_2975 (by decide) ?_
        refine E_sub [3, 4, 5, 6, 7, 0] rfl ?_
        refine E_up (u' := u + 4) (by omega) ?_
        exact hb28 (x5 + 5) μ r412.2 r410.2 dd hf
      · have hf := ite_e c419 hf
        refine E_iconst 2217 0 dL_law_2216 cst_iconst0 rfl ?_
        cases hf
  · have hf := ite_e c416 hf
    refine E_iconst 2200 0 dL_law_2199 cst_iconst0 rfl ?_
    cases hf
set_option maxRecDepth 100000 in
set_option maxHeartbeats 4000000 in
theorem j_L_law_s_J2221 {l : Launch} {g : Gt} {b u : Nat} (hl : l.stackTraces = false) (hu : u ≤ 2090) {μ : Mm} {ν : Mm} {o : Nat → Int64} {dd : Nat → UInt64} {Ls : Nat} {xs : Nat → Int32} {kb28 : (Int32 → Mm → Mm → (Nat → Int64) → (Nat → UInt64) → Option Unit)} {x5 : Int32}  {res : Unit} (hb28 : ∀ (v5 : Int32) (μ' : Mm) (ν' : Mm) (o' : Nat → Int64) (dd' : Nat → UInt64), kb28 v5 μ' ν' o' dd' = some res → E l g z_L_law 28 [(0, .ref b), (1, .ref (gaC g 0)), (2, .ref (gaM g 0)), (3, .ref (gao g 0)), (4, .ref (gao g 1)), (5, .int v5)] [] (μ', ν', o', dd') (u + 4) (Qlaw g b Ls xs)) (hf : f_L_law_s_J2221 Ls xs kb28 x5 μ ν o dd = some res) : E l g z_L_law 2221 [(0, .ref b), (1, .ref (gaC g 0)), (2, .ref (gaM g 0)), (3, .ref (gao g 0)), (4, .ref (gao g 1)), (5, .int x5)] [] (μ, ν, o, dd) (u + 0) (Qlaw g b Ls xs) := by
  unfold f_L_law_s_J2221 at hf
  refine E_aload_n 2222 1 dL_law_2221 rfl rfl rfl ?_
  refine E_aload_n 2223 0 dL_law_2222 rfl rfl rfl ?_
  refine E_iload 2225 5 dL_law_2223 rfl rfl ?_
  refine E_iconst 2226 1 dL_law_2225 cst_iconst1 rfl ?_
  refine E_iadd 2227 dL_law_2226 rfl ?_
  obtain ⟨h420, hf⟩ := chk_some hf
  refine E_sld 2228 h420 dL_law_2227 rfl ?_
  refine E_aload_n 2229 3 dL_law_2228 rfl rfl rfl ?_
  obtain ⟨r421, hc422, hf⟩ := bnd hf
  refine E_callH1 2232 (u + 1) [] [.int r421.1] (c_L_alertAt_0_o hl hc422) my_L_alertAt kl_L_270 rfl rfl (Nat.le_of_ble_eq_true rfl) (rmlaw (by omega) rfl) dL_law_2229 rfl rfl rfl ?_
  refine E_istore 2234 [(6, .int r421.1), (0, .ref b), (1, .ref (gaC g 0)), (2, .ref (gaM g 0)), (3, .ref (gao g 0)), (4, .ref (gao g 1)), (5, .int x5)] dL_law_2232 (by decide) rfl rfl ?_
  refine E_aload_n 2235 3 dL_law_2234 rfl rfl rfl ?_
  refine E_aload_n 2236 1 dL_law_2235 rfl rfl rfl ?_
  refine E_iload 2238 6 dL_law_2236 rfl rfl ?_
  refine E_iconst 2239 1 dL_law_2238 cst_iconst1 rfl ?_
  refine E_iadd 2240 dL_law_2239 rfl ?_
  obtain ⟨h423, hf⟩ := chk_some hf
  refine E_sld 2241 h423 dL_law_2240 rfl ?_
  obtain ⟨r424, hc425, hf⟩ := bnd hf
  refine E_callVM1 2244 (u + 1) [] [.int r424.1] (c_X8_alertAt hl hc425) my_X8_alertAt rc_X8 kl_L_272 rfl rfl (Nat.le_of_ble_eq_true rfl) (rmlaw (by omega) rfl) dL_law_2241 rfl rfl rfl ?_
  refine E_istore 2246 [(7, .int r424.1), (6, .int r421.1), (0, .ref b), (1, .ref (gaC g 0)), (2, .ref (gaM g 0)), (3, .ref (gao g 0)), (4, .ref (gao g 1)), (5, .int x5)] dL_law_2244 (by decide) rfl rfl ?_
  refine E_aload_n 2247 4 dL_law_2246 rfl rfl rfl ?_
  obtain ⟨r426, hc427, hf⟩ := bnd hf
  refine E_callVM1 2250 (u + 1) [] [.int r426] (c_X8_thrown hl hc427) my_X8_thrown rc_X8 kl_L_163 rfl rfl (Nat.le_of_ble_eq_true rfl) (rmlaw (by omega) rfl) dL_law_2247 rfl rfl rfl ?_
  refine E_iload 2252 1 dL_law_2250 rfl rfl ?_
  refine E_icmp_eq 2257 2255 dL_law_2252 (by decide) rfl (fun c428 => ?_) (fun c428 => ?_)
  · have hf := ite_t c428 hf
    refine E_iload 2259 1 dL_law_2257 rfl rfl ?_
    refine E_if_ne 2274 2262 dL_law_2259 (by decide) rfl (fun c429 => ?_) (fun c429 => ?_)
    · have hf := ite_e c429 hf
      refine E_goto 2972 dL_law_2274 (by decide) ?_
      refine E_iinc 2975 [(5, .int (x5 + 5)), (7, .int r424.1), (6, .int r421.1), (0, .ref b), (1, .ref (gaC g 0)), (2, .ref (gaM g 0)), (3, .ref (gao g 0)), (4, .ref (gao g 1))] 7 (v := x5 + 5) dL_law_2972 rfl (by rw [cst_iconst5]) (by decide) rfl rfl ?_
      refine E_goto 28 dL_law_2975 (by decide) ?_
      refine E_sub [3, 4, 5, 6, 7, 0] rfl ?_
      refine E_up (u' := u + 4) (by omega) ?_
      exact hb28 (x5 + 5) μ r424.2 r421.2 dd hf
    · have hf := ite_t c429 hf
      refine E_aload_n 2263 5 dL_law_2262 rfl rfl rfl ?_
      refine E_iconst 2264 0 dL_law_2263 cst_iconst0 rfl ?_
      obtain ⟨h430, hf⟩ := chk_some hf
      refine E_lald 2265 h430 dL_law_2264 rfl ?_
      refine E_iload 2267 0 dL_law_2265 rfl rfl ?_
      refine E_i2l 2268 dL_law_2267 rfl ?_
      refine E_lcmp 2269 dL_law_2268 rfl ?_
      refine E_if_eq 2274 2272 dL_law_2269 (by decide) rfl (fun c431 => ?_) (fun c431 => ?_)
      · have hf := ite_t c431 hf
        refine E_goto 2972 dL_law_2274 (by decide) ?_
        refine E_iinc 2975 [(5, .int (x5 + 5)), (7, .int r424.1), (6, .int r421.1), (0, .ref b), (1, .ref (gaC g 0)), (2, .ref (gaM g 0)), (3, .ref (gao g 0)), (4, .ref (gao g 1))] 7 (v := x5 + 5) dL_law_2972 rfl (by rw [cst_iconst5]) (by decide) rfl rfl ?_
        refine E_goto 28 dL_law_2975 (by decide) ?_
        refine E_sub [3, 4, 5, 6, 7, 0] rfl ?_
        refine E_up (u' := u + 4) (by omega) ?_
        exact hb28 (x5 + 5) μ r424.2 r421.2 dd hf
      · have hf := ite_e c431 hf
        refine E_iconst 2273 0 dL_law_2272 cst_iconst0 rfl ?_
        cases hf
  · have hf := ite_e c428 hf
    refine E_iconst 2256 0 dL_law_2255 cst_iconst0 rfl ?_
    cases hf
set_option maxRecDepth 100000 in
set_option maxHeartbeats 4000000 in
theorem j_L_law_s_J2277 {l : Launch} {g : Gt} {b u : Nat} (hl : l.stackTraces = false) (hu : u ≤ 2090) {μ : Mm} {ν : Mm} {o : Nat → Int64} {dd : Nat → UInt64} {Ls : Nat} {xs : Nat → Int32} {kb28 : (Int32 → Mm → Mm → (Nat → Int64) → (Nat → UInt64) → Option Unit)} {x5 : Int32}  {res : Unit} (hb28 : ∀ (v5 : Int32) (μ' : Mm) (ν' : Mm) (o' : Nat → Int64) (dd' : Nat → UInt64), kb28 v5 μ' ν' o' dd' = some res → E l g z_L_law 28 [(0, .ref b), (1, .ref (gaC g 0)), (2, .ref (gaM g 0)), (3, .ref (gao g 0)), (4, .ref (gao g 1)), (5, .int v5)] [] (μ', ν', o', dd') (u + 4) (Qlaw g b Ls xs)) (hf : f_L_law_s_J2277 Ls xs kb28 x5 μ ν o dd = some res) : E l g z_L_law 2277 [(0, .ref b), (1, .ref (gaC g 0)), (2, .ref (gaM g 0)), (3, .ref (gao g 0)), (4, .ref (gao g 1)), (5, .int x5)] [] (μ, ν, o, dd) (u + 0) (Qlaw g b Ls xs) := by
  unfold f_L_law_s_J2277 at hf
  refine E_aload_n 2278 1 dL_law_2277 rfl rfl rfl ?_
  obtain ⟨r432, hc433, hf⟩ := bnd hf
  refine E_callVC1 2281 (u + 0) [] [.int r432] (c_X7_openAlerts hl hc433) my_X7_openAlerts rc_X7 kl_L_273 rfl rfl (Nat.le_of_ble_eq_true rfl) (rmlaw (by omega) rfl) dL_law_2278 rfl rfl rfl ?_
  refine E_aload_n 2282 2 dL_law_2281 rfl rfl rfl ?_
  obtain ⟨r434, hc435, hf⟩ := bnd hf
  refine E_callVM1 2285 (u + 0) [.int r432] [.int r434.1, .int r432] (c_X8_openAlerts hl hc435) my_X8_openAlerts rc_X8 kl_L_276 rfl rfl (Nat.le_of_ble_eq_true rfl) (rmlaw (by omega) rfl) dL_law_2282 rfl rfl rfl ?_
  refine E_icmp_eq 2972 2288 dL_law_2285 (by decide) rfl (fun c436 => ?_) (fun c436 => ?_)
  · have hf := ite_t c436 hf
    refine E_iinc 2975 [(5, .int (x5 + 5)), (0, .ref b), (1, .ref (gaC g 0)), (2, .ref (gaM g 0)), (3, .ref (gao g 0)), (4, .ref (gao g 1))] 5 (v := x5 + 5) dL_law_2972 rfl (by rw [cst_iconst5]) (by decide) rfl rfl ?_
    refine E_goto 28 dL_law_2975 (by decide) ?_
    refine E_sub [1, 2, 3, 4, 5, 0] rfl ?_
    refine E_up (u' := u + 4) (by omega) ?_
    exact hb28 (x5 + 5) μ r434.2 o dd hf
  · have hf := ite_e c436 hf
    refine E_iconst 2289 0 dL_law_2288 cst_iconst0 rfl ?_
    cases hf
set_option maxRecDepth 100000 in
set_option maxHeartbeats 4000000 in
theorem j_L_law_s_J2338 {l : Launch} {g : Gt} {b u : Nat} (hl : l.stackTraces = false) (hu : u ≤ 2090) {μ : Mm} {ν : Mm} {o : Nat → Int64} {dd : Nat → UInt64} {Ls : Nat} {xs : Nat → Int32} {kb28 : (Int32 → Mm → Mm → (Nat → Int64) → (Nat → UInt64) → Option Unit)} {x5 : Int32} {x6 : Int32} {s0 : Int32} {s1 : Int32} {res : Unit} (hb28 : ∀ (v5 : Int32) (μ' : Mm) (ν' : Mm) (o' : Nat → Int64) (dd' : Nat → UInt64), kb28 v5 μ' ν' o' dd' = some res → E l g z_L_law 28 [(0, .ref b), (1, .ref (gaC g 0)), (2, .ref (gaM g 0)), (3, .ref (gao g 0)), (4, .ref (gao g 1)), (5, .int v5)] [] (μ', ν', o', dd') (u + 4) (Qlaw g b Ls xs)) (hf : f_L_law_s_J2338 Ls xs kb28 x5 x6 s0 s1 μ ν o dd = some res) : E l g z_L_law 2338 [(0, .ref b), (1, .ref (gaC g 0)), (2, .ref (gaM g 0)), (3, .ref (gao g 0)), (4, .ref (gao g 1)), (5, .int x5), (6, .int x6)] [.int s0, .int s1, .ref (gaM g 0)] (μ, ν, o, dd) (u + 2) (Qlaw g b Ls xs) := by
  unfold f_L_law_s_J2338 at hf
  obtain ⟨r445, hc446, hf⟩ := bnd hf
  refine E_callVM1 2341 (u + 2) [] [.int r445.1] (c_X8_decide hl hc446) my_X8_decide rc_X8 kl_L_279 rfl rfl (Nat.le_of_ble_eq_true rfl) (rmlaw (by omega) rfl) dL_law_2338 rfl rfl rfl ?_
  refine E_istore 2343 [(7, .int r445.1), (0, .ref b), (1, .ref (gaC g 0)), (2, .ref (gaM g 0)), (3, .ref (gao g 0)), (4, .ref (gao g 1)), (5, .int x5), (6, .int x6)] dL_law_2341 (by decide) rfl rfl ?_
  refine E_aload_n 2344 3 dL_law_2343 rfl rfl rfl ?_
  obtain ⟨r447, hc448, hf⟩ := bnd hf
  refine E_callVM1 2347 (u + 2) [] [.int r447] (c_X8_thrown hl hc448) my_X8_thrown rc_X8 kl_L_163 rfl rfl (Nat.le_of_ble_eq_true rfl) (rmlaw (by omega) rfl) dL_law_2344 rfl rfl rfl ?_
  refine E_iload 2349 7 dL_law_2347 rfl rfl ?_
  refine E_icmp_eq 2354 2352 dL_law_2349 (by decide) rfl (fun c449 => ?_) (fun c449 => ?_)
  · have hf := ite_t c449 hf
    refine E_iload 2356 7 dL_law_2354 rfl rfl ?_
    refine E_if_ne 2371 2359 dL_law_2356 (by decide) rfl (fun c450 => ?_) (fun c450 => ?_)
    · have hf := ite_e c450 hf
      refine E_goto 2972 dL_law_2371 (by decide) ?_
      refine E_iinc 2975 [(5, .int (x5 + 5)), (7, .int r445.1), (0, .ref b), (1, .ref (gaC g 0)), (2, .ref (gaM g 0)), (3, .ref (gao g 0)), (4, .ref (gao g 1)), (6, .int x6)] 6 (v := x5 + 5) dL_law_2972 rfl (by rw [cst_iconst5]) (by decide) rfl rfl ?_
      refine E_goto 28 dL_law_2975 (by decide) ?_
      refine E_sub [2, 3, 4, 5, 6, 0] rfl ?_
      refine E_up (u' := u + 4) (by omega) ?_
      exact hb28 (x5 + 5) μ r445.2 o dd hf
    · have hf := ite_t c450 hf
      refine E_aload_n 2360 4 dL_law_2359 rfl rfl rfl ?_
      refine E_iconst 2361 0 dL_law_2360 cst_iconst0 rfl ?_
      obtain ⟨h451, hf⟩ := chk_some hf
      refine E_lald 2362 h451 dL_law_2361 rfl ?_
      refine E_iload 2364 0 dL_law_2362 rfl rfl ?_
      refine E_i2l 2365 dL_law_2364 rfl ?_
      refine E_lcmp 2366 dL_law_2365 rfl ?_
      refine E_if_eq 2371 2369 dL_law_2366 (by decide) rfl (fun c452 => ?_) (fun c452 => ?_)
      · have hf := ite_t c452 hf
        refine E_goto 2972 dL_law_2371 (by decide) ?_
        refine E_iinc 2975 [(5, .int (x5 + 5)), (7, .int r445.1), (0, .ref b), (1, .ref (gaC g 0)), (2, .ref (gaM g 0)), (3, .ref (gao g 0)), (4, .ref (gao g 1)), (6, .int x6)] 6 (v := x5 + 5) dL_law_2972 rfl (by rw [cst_iconst5]) (by decide) rfl rfl ?_
        refine E_goto 28 dL_law_2975 (by decide) ?_
        refine E_sub [2, 3, 4, 5, 6, 0] rfl ?_
        refine E_up (u' := u + 4) (by omega) ?_
        exact hb28 (x5 + 5) μ r445.2 o dd hf
      · have hf := ite_e c452 hf
        refine E_iconst 2370 0 dL_law_2369 cst_iconst0 rfl ?_
        cases hf
  · have hf := ite_e c449 hf
    refine E_iconst 2353 0 dL_law_2352 cst_iconst0 rfl ?_
    cases hf
set_option maxRecDepth 100000 in
set_option maxHeartbeats 4000000 in
theorem j_L_law_s_J2311 {l : Launch} {g : Gt} {b u : Nat} (hl : l.stackTraces = false) (hu : u ≤ 2090) {μ : Mm} {ν : Mm} {o : Nat → Int64} {dd : Nat → UInt64} {Ls : Nat} {xs : Nat → Int32} {kb28 : (Int32 → Mm → Mm → (Nat → Int64) → (Nat → UInt64) → Option Unit)} {x5 : Int32} {s0 : Int32} {s1 : Int32} {res : Unit} (hb28 : ∀ (v5 : Int32) (μ' : Mm) (ν' : Mm) (o' : Nat → Int64) (dd' : Nat → UInt64), kb28 v5 μ' ν' o' dd' = some res → E l g z_L_law 28 [(0, .ref b), (1, .ref (gaC g 0)), (2, .ref (gaM g 0)), (3, .ref (gao g 0)), (4, .ref (gao g 1)), (5, .int v5)] [] (μ', ν', o', dd') (u + 4) (Qlaw g b Ls xs)) (hf : f_L_law_s_J2311 Ls xs kb28 x5 s0 s1 μ ν o dd = some res) : E l g z_L_law 2311 [(0, .ref b), (1, .ref (gaC g 0)), (2, .ref (gaM g 0)), (3, .ref (gao g 0)), (4, .ref (gao g 1)), (5, .int x5)] [.int s0, .int s1, .ref (gaC g 0)] (μ, ν, o, dd) (u + 0) (Qlaw g b Ls xs) := by
  unfold f_L_law_s_J2311 at hf
  refine E_aload_n 2312 3 dL_law_2311 rfl rfl rfl ?_
  obtain ⟨r440, hc441, hf⟩ := bnd hf
  refine E_callH1 2315 (u + 2) [] [.int r440.1] (c_L_decide_0_o hl hc441) my_L_decide kl_L_277 rfl rfl (Nat.le_of_ble_eq_true rfl) (rmlaw (by omega) rfl) dL_law_2312 rfl rfl rfl ?_
  refine E_istore 2317 [(6, .int r440.1), (0, .ref b), (1, .ref (gaC g 0)), (2, .ref (gaM g 0)), (3, .ref (gao g 0)), (4, .ref (gao g 1)), (5, .int x5)] dL_law_2315 (by decide) rfl rfl ?_
  refine E_aload_n 2318 3 dL_law_2317 rfl rfl rfl ?_
  refine E_aload_n 2319 1 dL_law_2318 rfl rfl rfl ?_
  refine E_iload 2321 6 dL_law_2319 rfl rfl ?_
  refine E_iconst 2322 1 dL_law_2321 cst_iconst1 rfl ?_
  refine E_iadd 2323 dL_law_2322 rfl ?_
  obtain ⟨h442, hf⟩ := chk_some hf
  refine E_sld 2324 h442 dL_law_2323 rfl ?_
  refine E_aload_n 2325 1 dL_law_2324 rfl rfl rfl ?_
  refine E_iload 2327 6 dL_law_2325 rfl rfl ?_
  refine E_iconst 2328 2 dL_law_2327 cst_iconst2 rfl ?_
  refine E_iadd 2329 dL_law_2328 rfl ?_
  obtain ⟨h443, hf⟩ := chk_some hf
  refine E_sld 2330 h443 dL_law_2329 rfl ?_
  refine E_if_eq 2337 2333 dL_law_2330 (by decide) rfl (fun c444 => ?_) (fun c444 => ?_)
  · have hf := ite_t c444 hf
    refine E_iconst 2338 0 dL_law_2337 cst_iconst0 rfl ?_
    refine E_sub [1, 2, 3, 4, 5, 6, 0] rfl ?_
    exact j_L_law_s_J2338 hl hu hb28 hf
  · have hf := ite_e c444 hf
    refine E_iconst 2334 1 dL_law_2333 cst_iconst1 rfl ?_
    refine E_goto 2338 dL_law_2334 (by decide) ?_
    refine E_sub [1, 2, 3, 4, 5, 6, 0] rfl ?_
    exact j_L_law_s_J2338 hl hu hb28 hf
set_option maxRecDepth 100000 in
set_option maxHeartbeats 4000000 in
theorem j_L_law_s_J2290 {l : Launch} {g : Gt} {b u : Nat} (hl : l.stackTraces = false) (hu : u ≤ 2090) {μ : Mm} {ν : Mm} {o : Nat → Int64} {dd : Nat → UInt64} {Ls : Nat} {xs : Nat → Int32} {kb28 : (Int32 → Mm → Mm → (Nat → Int64) → (Nat → UInt64) → Option Unit)} {x5 : Int32}  {res : Unit} (hb28 : ∀ (v5 : Int32) (μ' : Mm) (ν' : Mm) (o' : Nat → Int64) (dd' : Nat → UInt64), kb28 v5 μ' ν' o' dd' = some res → E l g z_L_law 28 [(0, .ref b), (1, .ref (gaC g 0)), (2, .ref (gaM g 0)), (3, .ref (gao g 0)), (4, .ref (gao g 1)), (5, .int v5)] [] (μ', ν', o', dd') (u + 4) (Qlaw g b Ls xs)) (hf : f_L_law_s_J2290 Ls xs kb28 x5 μ ν o dd = some res) : E l g z_L_law 2290 [(0, .ref b), (1, .ref (gaC g 0)), (2, .ref (gaM g 0)), (3, .ref (gao g 0)), (4, .ref (gao g 1)), (5, .int x5)] [] (μ, ν, o, dd) (u + 0) (Qlaw g b Ls xs) := by
  unfold f_L_law_s_J2290 at hf
  refine E_aload_n 2291 1 dL_law_2290 rfl rfl rfl ?_
  refine E_aload_n 2292 0 dL_law_2291 rfl rfl rfl ?_
  refine E_iload 2294 5 dL_law_2292 rfl rfl ?_
  refine E_iconst 2295 1 dL_law_2294 cst_iconst1 rfl ?_
  refine E_iadd 2296 dL_law_2295 rfl ?_
  obtain ⟨h437, hf⟩ := chk_some hf
  refine E_sld 2297 h437 dL_law_2296 rfl ?_
  refine E_aload_n 2298 0 dL_law_2297 rfl rfl rfl ?_
  refine E_iload 2300 5 dL_law_2298 rfl rfl ?_
  refine E_iconst 2301 2 dL_law_2300 cst_iconst2 rfl ?_
  refine E_iadd 2302 dL_law_2301 rfl ?_
  obtain ⟨h438, hf⟩ := chk_some hf
  refine E_sld 2303 h438 dL_law_2302 rfl ?_
  refine E_if_eq 2310 2306 dL_law_2303 (by decide) rfl (fun c439 => ?_) (fun c439 => ?_)
  · have hf := ite_t c439 hf
    refine E_iconst 2311 0 dL_law_2310 cst_iconst0 rfl ?_
    refine E_sub [0, 1, 2, 3, 4, 5] rfl ?_
    exact j_L_law_s_J2311 hl hu hb28 hf
  · have hf := ite_e c439 hf
    refine E_iconst 2307 1 dL_law_2306 cst_iconst1 rfl ?_
    refine E_goto 2311 dL_law_2307 (by decide) ?_
    refine E_sub [0, 1, 2, 3, 4, 5] rfl ?_
    exact j_L_law_s_J2311 hl hu hb28 hf
set_option maxRecDepth 100000 in
set_option maxHeartbeats 4000000 in
theorem j_L_law_s_J2374 {l : Launch} {g : Gt} {b u : Nat} (hl : l.stackTraces = false) (hu : u ≤ 2090) {μ : Mm} {ν : Mm} {o : Nat → Int64} {dd : Nat → UInt64} {Ls : Nat} {xs : Nat → Int32} {kb28 : (Int32 → Mm → Mm → (Nat → Int64) → (Nat → UInt64) → Option Unit)} {x5 : Int32}  {res : Unit} (hb28 : ∀ (v5 : Int32) (μ' : Mm) (ν' : Mm) (o' : Nat → Int64) (dd' : Nat → UInt64), kb28 v5 μ' ν' o' dd' = some res → E l g z_L_law 28 [(0, .ref b), (1, .ref (gaC g 0)), (2, .ref (gaM g 0)), (3, .ref (gao g 0)), (4, .ref (gao g 1)), (5, .int v5)] [] (μ', ν', o', dd') (u + 4) (Qlaw g b Ls xs)) (hf : f_L_law_s_J2374 Ls xs kb28 x5 μ ν o dd = some res) : E l g z_L_law 2374 [(0, .ref b), (1, .ref (gaC g 0)), (2, .ref (gaM g 0)), (3, .ref (gao g 0)), (4, .ref (gao g 1)), (5, .int x5)] [] (μ, ν, o, dd) (u + 0) (Qlaw g b Ls xs) := by
  unfold f_L_law_s_J2374 at hf
  refine E_aload_n 2375 1 dL_law_2374 rfl rfl rfl ?_
  refine E_aload_n 2376 0 dL_law_2375 rfl rfl rfl ?_
  refine E_iload 2378 5 dL_law_2376 rfl rfl ?_
  refine E_iconst 2379 1 dL_law_2378 cst_iconst1 rfl ?_
  refine E_iadd 2380 dL_law_2379 rfl ?_
  obtain ⟨h453, hf⟩ := chk_some hf
  refine E_sld 2381 h453 dL_law_2380 rfl ?_
  refine E_aload_n 2382 3 dL_law_2381 rfl rfl rfl ?_
  obtain ⟨r454, hc455, hf⟩ := bnd hf
  refine E_callH1 2385 (u + 1) [] [.int r454.1] (c_L_alertOf_0_o hl hc455) my_L_alertOf kl_L_280 rfl rfl (Nat.le_of_ble_eq_true rfl) (rmlaw (by omega) rfl) dL_law_2382 rfl rfl rfl ?_
  refine E_istore 2387 [(6, .int r454.1), (0, .ref b), (1, .ref (gaC g 0)), (2, .ref (gaM g 0)), (3, .ref (gao g 0)), (4, .ref (gao g 1)), (5, .int x5)] dL_law_2385 (by decide) rfl rfl ?_
  refine E_aload_n 2388 3 dL_law_2387 rfl rfl rfl ?_
  refine E_aload_n 2389 1 dL_law_2388 rfl rfl rfl ?_
  refine E_iload 2391 6 dL_law_2389 rfl rfl ?_
  refine E_iconst 2392 1 dL_law_2391 cst_iconst1 rfl ?_
  refine E_iadd 2393 dL_law_2392 rfl ?_
  obtain ⟨h456, hf⟩ := chk_some hf
  refine E_sld 2394 h456 dL_law_2393 rfl ?_
  obtain ⟨r457, hc458, hf⟩ := bnd hf
  refine E_callVM1 2397 (u + 1) [] [.int r457.1] (c_X8_alertOf hl hc458) my_X8_alertOf rc_X8 kl_L_282 rfl rfl (Nat.le_of_ble_eq_true rfl) (rmlaw (by omega) rfl) dL_law_2394 rfl rfl rfl ?_
  refine E_istore 2399 [(7, .int r457.1), (6, .int r454.1), (0, .ref b), (1, .ref (gaC g 0)), (2, .ref (gaM g 0)), (3, .ref (gao g 0)), (4, .ref (gao g 1)), (5, .int x5)] dL_law_2397 (by decide) rfl rfl ?_
  refine E_aload_n 2400 4 dL_law_2399 rfl rfl rfl ?_
  obtain ⟨r459, hc460, hf⟩ := bnd hf
  refine E_callVM1 2403 (u + 1) [] [.int r459] (c_X8_thrown hl hc460) my_X8_thrown rc_X8 kl_L_163 rfl rfl (Nat.le_of_ble_eq_true rfl) (rmlaw (by omega) rfl) dL_law_2400 rfl rfl rfl ?_
  refine E_iload 2405 1 dL_law_2403 rfl rfl ?_
  refine E_icmp_eq 2410 2408 dL_law_2405 (by decide) rfl (fun c461 => ?_) (fun c461 => ?_)
  · have hf := ite_t c461 hf
    refine E_iload 2412 1 dL_law_2410 rfl rfl ?_
    refine E_if_ne 2427 2415 dL_law_2412 (by decide) rfl (fun c462 => ?_) (fun c462 => ?_)
    · have hf := ite_e c462 hf
      refine E_goto 2972 dL_law_2427 (by decide) ?_
      refine E_iinc 2975 [(5, .int (x5 + 5)), (7, .int r457.1), (6, .int r454.1), (0, .ref b), (1, .ref (gaC g 0)), (2, .ref (gaM g 0)), (3, .ref (gao g 0)), (4, .ref (gao g 1))] 7 (v := x5 + 5) dL_law_2972 rfl (by rw [cst_iconst5]) (by decide) rfl rfl ?_
      refine E_goto 28 dL_law_2975 (by decide) ?_
      refine E_sub [3, 4, 5, 6, 7, 0] rfl ?_
      refine E_up (u' := u + 4) (by omega) ?_
      exact hb28 (x5 + 5) μ r457.2 r454.2 dd hf
    · have hf := ite_t c462 hf
      refine E_aload_n 2416 5 dL_law_2415 rfl rfl rfl ?_
      refine E_iconst 2417 0 dL_law_2416 cst_iconst0 rfl ?_
      obtain ⟨h463, hf⟩ := chk_some hf
      refine E_lald 2418 h463 dL_law_2417 rfl ?_
      refine E_iload 2420 0 dL_law_2418 rfl rfl ?_
      refine E_i2l 2421 dL_law_2420 rfl ?_
      refine E_lcmp 2422 dL_law_2421 rfl ?_
      refine E_if_eq 2427 2425 dL_law_2422 (by decide) rfl (fun c464 => ?_) (fun c464 => ?_)
      · have hf := ite_t c464 hf
        refine E_goto 2972 dL_law_2427 (by decide) ?_
        refine E_iinc 2975 [(5, .int (x5 + 5)), (7, .int r457.1), (6, .int r454.1), (0, .ref b), (1, .ref (gaC g 0)), (2, .ref (gaM g 0)), (3, .ref (gao g 0)), (4, .ref (gao g 1))] 7 (v := x5 + 5) dL_law_2972 rfl (by rw [cst_iconst5]) (by decide) rfl rfl ?_
        refine E_goto 28 dL_law_2975 (by decide) ?_
        refine E_sub [3, 4, 5, 6, 7, 0] rfl ?_
        refine E_up (u' := u + 4) (by omega) ?_
        exact hb28 (x5 + 5) μ r457.2 r454.2 dd hf
      · have hf := ite_e c464 hf
        refine E_iconst 2426 0 dL_law_2425 cst_iconst0 rfl ?_
        cases hf
  · have hf := ite_e c461 hf
    refine E_iconst 2409 0 dL_law_2408 cst_iconst0 rfl ?_
    cases hf
set_option maxRecDepth 100000 in
set_option maxHeartbeats 4000000 in
theorem j_L_law_s_J2430 {l : Launch} {g : Gt} {b u : Nat} (hl : l.stackTraces = false) (hu : u ≤ 2090) {μ : Mm} {ν : Mm} {o : Nat → Int64} {dd : Nat → UInt64} {Ls : Nat} {xs : Nat → Int32} {kb28 : (Int32 → Mm → Mm → (Nat → Int64) → (Nat → UInt64) → Option Unit)} {x5 : Int32}  {res : Unit} (hb28 : ∀ (v5 : Int32) (μ' : Mm) (ν' : Mm) (o' : Nat → Int64) (dd' : Nat → UInt64), kb28 v5 μ' ν' o' dd' = some res → E l g z_L_law 28 [(0, .ref b), (1, .ref (gaC g 0)), (2, .ref (gaM g 0)), (3, .ref (gao g 0)), (4, .ref (gao g 1)), (5, .int v5)] [] (μ', ν', o', dd') (u + 4) (Qlaw g b Ls xs)) (hf : f_L_law_s_J2430 Ls xs kb28 x5 μ ν o dd = some res) : E l g z_L_law 2430 [(0, .ref b), (1, .ref (gaC g 0)), (2, .ref (gaM g 0)), (3, .ref (gao g 0)), (4, .ref (gao g 1)), (5, .int x5)] [] (μ, ν, o, dd) (u + 0) (Qlaw g b Ls xs) := by
  unfold f_L_law_s_J2430 at hf
  refine E_aload_n 2431 1 dL_law_2430 rfl rfl rfl ?_
  refine E_aload_n 2432 0 dL_law_2431 rfl rfl rfl ?_
  refine E_iload 2434 5 dL_law_2432 rfl rfl ?_
  refine E_iconst 2435 1 dL_law_2434 cst_iconst1 rfl ?_
  refine E_iadd 2436 dL_law_2435 rfl ?_
  obtain ⟨h465, hf⟩ := chk_some hf
  refine E_sld 2437 h465 dL_law_2436 rfl ?_
  refine E_aload_n 2438 0 dL_law_2437 rfl rfl rfl ?_
  refine E_iload 2440 5 dL_law_2438 rfl rfl ?_
  refine E_iconst 2441 2 dL_law_2440 cst_iconst2 rfl ?_
  refine E_iadd 2442 dL_law_2441 rfl ?_
  obtain ⟨h466, hf⟩ := chk_some hf
  refine E_sld 2443 h466 dL_law_2442 rfl ?_
  refine E_aload_n 2444 3 dL_law_2443 rfl rfl rfl ?_
  obtain ⟨r467, hc468, hf⟩ := bnd hf
  refine E_callH1 2447 (u + 3) [] [.int r467.1] (c_L_ring_0_o hl hc468) my_L_ring kl_L_283 rfl rfl (Nat.le_of_ble_eq_true rfl) (rmlaw (by omega) rfl) dL_law_2444 rfl rfl rfl ?_
  refine E_istore 2449 [(6, .int r467.1), (0, .ref b), (1, .ref (gaC g 0)), (2, .ref (gaM g 0)), (3, .ref (gao g 0)), (4, .ref (gao g 1)), (5, .int x5)] dL_law_2447 (by decide) rfl rfl ?_
  refine E_aload_n 2450 3 dL_law_2449 rfl rfl rfl ?_
  refine E_aload_n 2451 1 dL_law_2450 rfl rfl rfl ?_
  refine E_iload 2453 6 dL_law_2451 rfl rfl ?_
  refine E_iconst 2454 1 dL_law_2453 cst_iconst1 rfl ?_
  refine E_iadd 2455 dL_law_2454 rfl ?_
  obtain ⟨h469, hf⟩ := chk_some hf
  refine E_sld 2456 h469 dL_law_2455 rfl ?_
  refine E_aload_n 2457 1 dL_law_2456 rfl rfl rfl ?_
  refine E_iload 2459 6 dL_law_2457 rfl rfl ?_
  refine E_iconst 2460 2 dL_law_2459 cst_iconst2 rfl ?_
  refine E_iadd 2461 dL_law_2460 rfl ?_
  obtain ⟨h470, hf⟩ := chk_some hf
  refine E_sld 2462 h470 dL_law_2461 rfl ?_
  obtain ⟨r471, hc472, hf⟩ := bnd hf
  refine E_callVM1 2465 (u + 3) [] [.int r471.1] (c_X8_ring hl hc472) my_X8_ring rc_X8 kl_L_285 rfl rfl (Nat.le_of_ble_eq_true rfl) (rmlaw (by omega) rfl) dL_law_2462 rfl rfl rfl ?_
  refine E_istore 2467 [(7, .int r471.1), (6, .int r467.1), (0, .ref b), (1, .ref (gaC g 0)), (2, .ref (gaM g 0)), (3, .ref (gao g 0)), (4, .ref (gao g 1)), (5, .int x5)] dL_law_2465 (by decide) rfl rfl ?_
  refine E_aload_n 2468 4 dL_law_2467 rfl rfl rfl ?_
  obtain ⟨r473, hc474, hf⟩ := bnd hf
  refine E_callVM1 2471 (u + 3) [] [.int r473] (c_X8_thrown hl hc474) my_X8_thrown rc_X8 kl_L_163 rfl rfl (Nat.le_of_ble_eq_true rfl) (rmlaw (by omega) rfl) dL_law_2468 rfl rfl rfl ?_
  refine E_iload 2473 1 dL_law_2471 rfl rfl ?_
  refine E_icmp_eq 2478 2476 dL_law_2473 (by decide) rfl (fun c475 => ?_) (fun c475 => ?_)
  · have hf := ite_t c475 hf
    refine E_iload 2480 1 dL_law_2478 rfl rfl ?_
    refine E_if_ne 2495 2483 dL_law_2480 (by decide) rfl (fun c476 => ?_) (fun c476 => ?_)
    · have hf := ite_e c476 hf
      refine E_goto 2972 dL_law_2495 (by decide) ?_
      refine E_iinc 2975 [(5, .int (x5 + 5)), (7, .int r471.1), (6, .int r467.1), (0, .ref b), (1, .ref (gaC g 0)), (2, .ref (gaM g 0)), (3, .ref (gao g 0)), (4, .ref (gao g 1))] 7 (v := x5 + 5) dL_law_2972 rfl (by rw [cst_iconst5]) (by decide) rfl rfl ?_
      refine E_goto 28 dL_law_2975 (by decide) ?_
      refine E_sub [3, 4, 5, 6, 7, 0] rfl ?_
      refine E_up (u' := u + 4) (by omega) ?_
      exact hb28 (x5 + 5) r467.2.1 r471.2 r467.2.2 dd hf
    · have hf := ite_t c476 hf
      refine E_aload_n 2484 5 dL_law_2483 rfl rfl rfl ?_
      refine E_iconst 2485 0 dL_law_2484 cst_iconst0 rfl ?_
      obtain ⟨h477, hf⟩ := chk_some hf
      refine E_lald 2486 h477 dL_law_2485 rfl ?_
      refine E_iload 2488 0 dL_law_2486 rfl rfl ?_
      refine E_i2l 2489 dL_law_2488 rfl ?_
      refine E_lcmp 2490 dL_law_2489 rfl ?_
      refine E_if_eq 2495 2493 dL_law_2490 (by decide) rfl (fun c478 => ?_) (fun c478 => ?_)
      · have hf := ite_t c478 hf
        refine E_goto 2972 dL_law_2495 (by decide) ?_
        refine E_iinc 2975 [(5, .int (x5 + 5)), (7, .int r471.1), (6, .int r467.1), (0, .ref b), (1, .ref (gaC g 0)), (2, .ref (gaM g 0)), (3, .ref (gao g 0)), (4, .ref (gao g 1))] 7 (v := x5 + 5) dL_law_2972 rfl (by rw [cst_iconst5]) (by decide) rfl rfl ?_
        refine E_goto 28 dL_law_2975 (by decide) ?_
        refine E_sub [3, 4, 5, 6, 7, 0] rfl ?_
        refine E_up (u' := u + 4) (by omega) ?_
        exact hb28 (x5 + 5) r467.2.1 r471.2 r467.2.2 dd hf
      · have hf := ite_e c478 hf
        refine E_iconst 2494 0 dL_law_2493 cst_iconst0 rfl ?_
        cases hf
  · have hf := ite_e c475 hf
    refine E_iconst 2477 0 dL_law_2476 cst_iconst0 rfl ?_
    cases hf
set_option maxRecDepth 100000 in
set_option maxHeartbeats 4000000 in
theorem j_L_law_s_J2498 {l : Launch} {g : Gt} {b u : Nat} (hl : l.stackTraces = false) (hu : u ≤ 2090) {μ : Mm} {ν : Mm} {o : Nat → Int64} {dd : Nat → UInt64} {Ls : Nat} {xs : Nat → Int32} {kb28 : (Int32 → Mm → Mm → (Nat → Int64) → (Nat → UInt64) → Option Unit)} {x5 : Int32}  {res : Unit} (hb28 : ∀ (v5 : Int32) (μ' : Mm) (ν' : Mm) (o' : Nat → Int64) (dd' : Nat → UInt64), kb28 v5 μ' ν' o' dd' = some res → E l g z_L_law 28 [(0, .ref b), (1, .ref (gaC g 0)), (2, .ref (gaM g 0)), (3, .ref (gao g 0)), (4, .ref (gao g 1)), (5, .int v5)] [] (μ', ν', o', dd') (u + 4) (Qlaw g b Ls xs)) (hf : f_L_law_s_J2498 Ls xs kb28 x5 μ ν o dd = some res) : E l g z_L_law 2498 [(0, .ref b), (1, .ref (gaC g 0)), (2, .ref (gaM g 0)), (3, .ref (gao g 0)), (4, .ref (gao g 1)), (5, .int x5)] [] (μ, ν, o, dd) (u + 0) (Qlaw g b Ls xs) := by
  unfold f_L_law_s_J2498 at hf
  refine E_aload_n 2499 1 dL_law_2498 rfl rfl rfl ?_
  refine E_aload_n 2500 0 dL_law_2499 rfl rfl rfl ?_
  refine E_iload 2502 5 dL_law_2500 rfl rfl ?_
  refine E_iconst 2503 1 dL_law_2502 cst_iconst1 rfl ?_
  refine E_iadd 2504 dL_law_2503 rfl ?_
  obtain ⟨h479, hf⟩ := chk_some hf
  refine E_sld 2505 h479 dL_law_2504 rfl ?_
  refine E_aload_n 2506 0 dL_law_2505 rfl rfl rfl ?_
  refine E_iload 2508 5 dL_law_2506 rfl rfl ?_
  refine E_iconst 2509 2 dL_law_2508 cst_iconst2 rfl ?_
  refine E_iadd 2510 dL_law_2509 rfl ?_
  obtain ⟨h480, hf⟩ := chk_some hf
  refine E_sld 2511 h480 dL_law_2510 rfl ?_
  refine E_aload_n 2512 3 dL_law_2511 rfl rfl rfl ?_
  obtain ⟨r481, hc482, hf⟩ := bnd hf
  refine E_callH1 2515 (u + 3) [] [.int r481.1] (c_L_ringByTrying_0_o hl hc482) my_L_ringByTrying kl_L_286 rfl rfl (Nat.le_of_ble_eq_true rfl) (rmlaw (by omega) rfl) dL_law_2512 rfl rfl rfl ?_
  refine E_istore 2517 [(6, .int r481.1), (0, .ref b), (1, .ref (gaC g 0)), (2, .ref (gaM g 0)), (3, .ref (gao g 0)), (4, .ref (gao g 1)), (5, .int x5)] dL_law_2515 (by decide) rfl rfl ?_
  refine E_aload_n 2518 3 dL_law_2517 rfl rfl rfl ?_
  refine E_aload_n 2519 1 dL_law_2518 rfl rfl rfl ?_
  refine E_iload 2521 6 dL_law_2519 rfl rfl ?_
  refine E_iconst 2522 1 dL_law_2521 cst_iconst1 rfl ?_
  refine E_iadd 2523 dL_law_2522 rfl ?_
  obtain ⟨h483, hf⟩ := chk_some hf
  refine E_sld 2524 h483 dL_law_2523 rfl ?_
  refine E_aload_n 2525 1 dL_law_2524 rfl rfl rfl ?_
  refine E_iload 2527 6 dL_law_2525 rfl rfl ?_
  refine E_iconst 2528 2 dL_law_2527 cst_iconst2 rfl ?_
  refine E_iadd 2529 dL_law_2528 rfl ?_
  obtain ⟨h484, hf⟩ := chk_some hf
  refine E_sld 2530 h484 dL_law_2529 rfl ?_
  obtain ⟨r485, hc486, hf⟩ := bnd hf
  refine E_callVM1 2533 (u + 3) [] [.int r485.1] (c_X8_ringByTrying hl hc486) my_X8_ringByTrying rc_X8 kl_L_288 rfl rfl (Nat.le_of_ble_eq_true rfl) (rmlaw (by omega) rfl) dL_law_2530 rfl rfl rfl ?_
  refine E_istore 2535 [(7, .int r485.1), (6, .int r481.1), (0, .ref b), (1, .ref (gaC g 0)), (2, .ref (gaM g 0)), (3, .ref (gao g 0)), (4, .ref (gao g 1)), (5, .int x5)] dL_law_2533 (by decide) rfl rfl ?_
  refine E_aload_n 2536 4 dL_law_2535 rfl rfl rfl ?_
  obtain ⟨r487, hc488, hf⟩ := bnd hf
  refine E_callVM1 2539 (u + 3) [] [.int r487] (c_X8_thrown hl hc488) my_X8_thrown rc_X8 kl_L_163 rfl rfl (Nat.le_of_ble_eq_true rfl) (rmlaw (by omega) rfl) dL_law_2536 rfl rfl rfl ?_
  refine E_iload 2541 1 dL_law_2539 rfl rfl ?_
  refine E_icmp_eq 2546 2544 dL_law_2541 (by decide) rfl (fun c489 => ?_) (fun c489 => ?_)
  · have hf := ite_t c489 hf
    refine E_iload 2548 1 dL_law_2546 rfl rfl ?_
    refine E_if_ne 2563 2551 dL_law_2548 (by decide) rfl (fun c490 => ?_) (fun c490 => ?_)
    · have hf := ite_e c490 hf
      refine E_goto 2972 dL_law_2563 (by decide) ?_
      refine E_iinc 2975 [(5, .int (x5 + 5)), (7, .int r485.1), (6, .int r481.1), (0, .ref b), (1, .ref (gaC g 0)), (2, .ref (gaM g 0)), (3, .ref (gao g 0)), (4, .ref (gao g 1))] 7 (v := x5 + 5) dL_law_2972 rfl (by rw [cst_iconst5]) (by decide) rfl rfl ?_
      refine E_goto 28 dL_law_2975 (by decide) ?_
      refine E_sub [3, 4, 5, 6, 7, 0] rfl ?_
      refine E_up (u' := u + 4) (by omega) ?_
      exact hb28 (x5 + 5) r481.2.1 r485.2 r481.2.2 dd hf
    · have hf := ite_t c490 hf
      refine E_aload_n 2552 5 dL_law_2551 rfl rfl rfl ?_
      refine E_iconst 2553 0 dL_law_2552 cst_iconst0 rfl ?_
      obtain ⟨h491, hf⟩ := chk_some hf
      refine E_lald 2554 h491 dL_law_2553 rfl ?_
      refine E_iload 2556 0 dL_law_2554 rfl rfl ?_
      refine E_i2l 2557 dL_law_2556 rfl ?_
      refine E_lcmp 2558 dL_law_2557 rfl ?_
      refine E_if_eq 2563 2561 dL_law_2558 (by decide) rfl (fun c492 => ?_) (fun c492 => ?_)
      · have hf := ite_t c492 hf
        refine E_goto 2972 dL_law_2563 (by decide) ?_
        refine E_iinc 2975 [(5, .int (x5 + 5)), (7, .int r485.1), (6, .int r481.1), (0, .ref b), (1, .ref (gaC g 0)), (2, .ref (gaM g 0)), (3, .ref (gao g 0)), (4, .ref (gao g 1))] 7 (v := x5 + 5) dL_law_2972 rfl (by rw [cst_iconst5]) (by decide) rfl rfl ?_
        refine E_goto 28 dL_law_2975 (by decide) ?_
        refine E_sub [3, 4, 5, 6, 7, 0] rfl ?_
        refine E_up (u' := u + 4) (by omega) ?_
        exact hb28 (x5 + 5) r481.2.1 r485.2 r481.2.2 dd hf
      · have hf := ite_e c492 hf
        refine E_iconst 2562 0 dL_law_2561 cst_iconst0 rfl ?_
        cases hf
  · have hf := ite_e c489 hf
    refine E_iconst 2545 0 dL_law_2544 cst_iconst0 rfl ?_
    cases hf
set_option maxRecDepth 100000 in
set_option maxHeartbeats 4000000 in
theorem j_L_law_s_J2566 {l : Launch} {g : Gt} {b u : Nat} (hl : l.stackTraces = false) (hu : u ≤ 2090) {μ : Mm} {ν : Mm} {o : Nat → Int64} {dd : Nat → UInt64} {Ls : Nat} {xs : Nat → Int32} {kb28 : (Int32 → Mm → Mm → (Nat → Int64) → (Nat → UInt64) → Option Unit)} {x5 : Int32}  {res : Unit} (hb28 : ∀ (v5 : Int32) (μ' : Mm) (ν' : Mm) (o' : Nat → Int64) (dd' : Nat → UInt64), kb28 v5 μ' ν' o' dd' = some res → E l g z_L_law 28 [(0, .ref b), (1, .ref (gaC g 0)), (2, .ref (gaM g 0)), (3, .ref (gao g 0)), (4, .ref (gao g 1)), (5, .int v5)] [] (μ', ν', o', dd') (u + 4) (Qlaw g b Ls xs)) (hf : f_L_law_s_J2566 Ls xs kb28 x5 μ ν o dd = some res) : E l g z_L_law 2566 [(0, .ref b), (1, .ref (gaC g 0)), (2, .ref (gaM g 0)), (3, .ref (gao g 0)), (4, .ref (gao g 1)), (5, .int x5)] [] (μ, ν, o, dd) (u + 0) (Qlaw g b Ls xs) := by
  unfold f_L_law_s_J2566 at hf
  refine E_aload_n 2567 1 dL_law_2566 rfl rfl rfl ?_
  refine E_aload_n 2568 0 dL_law_2567 rfl rfl rfl ?_
  refine E_iload 2570 5 dL_law_2568 rfl rfl ?_
  refine E_iconst 2571 1 dL_law_2570 cst_iconst1 rfl ?_
  refine E_iadd 2572 dL_law_2571 rfl ?_
  obtain ⟨h493, hf⟩ := chk_some hf
  refine E_sld 2573 h493 dL_law_2572 rfl ?_
  refine E_aload_n 2574 0 dL_law_2573 rfl rfl rfl ?_
  refine E_iload 2576 5 dL_law_2574 rfl rfl ?_
  refine E_iconst 2577 2 dL_law_2576 cst_iconst2 rfl ?_
  refine E_iadd 2578 dL_law_2577 rfl ?_
  obtain ⟨h494, hf⟩ := chk_some hf
  refine E_sld 2579 h494 dL_law_2578 rfl ?_
  refine E_aload_n 2580 3 dL_law_2579 rfl rfl rfl ?_
  obtain ⟨r495, hc496, hf⟩ := bnd hf
  refine E_callH1 2583 (u + 2) [] [.int r495.1] (c_L_group_0_o hl hc496) my_L_group kl_L_289 rfl rfl (Nat.le_of_ble_eq_true rfl) (rmlaw (by omega) rfl) dL_law_2580 rfl rfl rfl ?_
  refine E_istore 2585 [(6, .int r495.1), (0, .ref b), (1, .ref (gaC g 0)), (2, .ref (gaM g 0)), (3, .ref (gao g 0)), (4, .ref (gao g 1)), (5, .int x5)] dL_law_2583 (by decide) rfl rfl ?_
  refine E_aload_n 2586 3 dL_law_2585 rfl rfl rfl ?_
  refine E_aload_n 2587 1 dL_law_2586 rfl rfl rfl ?_
  refine E_iload 2589 6 dL_law_2587 rfl rfl ?_
  refine E_iconst 2590 1 dL_law_2589 cst_iconst1 rfl ?_
  refine E_iadd 2591 dL_law_2590 rfl ?_
  obtain ⟨h497, hf⟩ := chk_some hf
  refine E_sld 2592 h497 dL_law_2591 rfl ?_
  refine E_aload_n 2593 1 dL_law_2592 rfl rfl rfl ?_
  refine E_iload 2595 6 dL_law_2593 rfl rfl ?_
  refine E_iconst 2596 2 dL_law_2595 cst_iconst2 rfl ?_
  refine E_iadd 2597 dL_law_2596 rfl ?_
  obtain ⟨h498, hf⟩ := chk_some hf
  refine E_sld 2598 h498 dL_law_2597 rfl ?_
  obtain ⟨r499, hc500, hf⟩ := bnd hf
  refine E_callVM1 2601 (u + 2) [] [.int r499.1] (c_X8_group hl hc500) my_X8_group rc_X8 kl_L_291 rfl rfl (Nat.le_of_ble_eq_true rfl) (rmlaw (by omega) rfl) dL_law_2598 rfl rfl rfl ?_
  refine E_istore 2603 [(7, .int r499.1), (6, .int r495.1), (0, .ref b), (1, .ref (gaC g 0)), (2, .ref (gaM g 0)), (3, .ref (gao g 0)), (4, .ref (gao g 1)), (5, .int x5)] dL_law_2601 (by decide) rfl rfl ?_
  refine E_aload_n 2604 4 dL_law_2603 rfl rfl rfl ?_
  obtain ⟨r501, hc502, hf⟩ := bnd hf
  refine E_callVM1 2607 (u + 2) [] [.int r501] (c_X8_thrown hl hc502) my_X8_thrown rc_X8 kl_L_163 rfl rfl (Nat.le_of_ble_eq_true rfl) (rmlaw (by omega) rfl) dL_law_2604 rfl rfl rfl ?_
  refine E_iload 2609 1 dL_law_2607 rfl rfl ?_
  refine E_icmp_eq 2614 2612 dL_law_2609 (by decide) rfl (fun c503 => ?_) (fun c503 => ?_)
  · have hf := ite_t c503 hf
    refine E_iload 2616 1 dL_law_2614 rfl rfl ?_
    refine E_if_ne 2631 2619 dL_law_2616 (by decide) rfl (fun c504 => ?_) (fun c504 => ?_)
    · have hf := ite_e c504 hf
      refine E_goto 2972 dL_law_2631 (by decide) ?_
      refine E_iinc 2975 [(5, .int (x5 + 5)), (7, .int r499.1), (6, .int r495.1), (0, .ref b), (1, .ref (gaC g 0)), (2, .ref (gaM g 0)), (3, .ref (gao g 0)), (4, .ref (gao g 1))] 7 (v := x5 + 5) dL_law_2972 rfl (by rw [cst_iconst5]) (by decide) rfl rfl ?_
      refine E_goto 28 dL_law_2975 (by decide) ?_
      refine E_sub [3, 4, 5, 6, 7, 0] rfl ?_
      refine E_up (u' := u + 4) (by omega) ?_
      exact hb28 (x5 + 5) r495.2.1 r499.2 r495.2.2 dd hf
    · have hf := ite_t c504 hf
      refine E_aload_n 2620 5 dL_law_2619 rfl rfl rfl ?_
      refine E_iconst 2621 0 dL_law_2620 cst_iconst0 rfl ?_
      obtain ⟨h505, hf⟩ := chk_some hf
      refine E_lald 2622 h505 dL_law_2621 rfl ?_
      refine E_iload 2624 0 dL_law_2622 rfl rfl ?_
      refine E_i2l 2625 dL_law_2624 rfl ?_
      refine E_lcmp 2626 dL_law_2625 rfl ?_
      refine E_if_eq 2631 2629 dL_law_2626 (by decide) rfl (fun c506 => ?_) (fun c506 => ?_)
      · have hf := ite_t c506 hf
        refine E_goto 2972 dL_law_2631 (by decide) ?_
        refine E_iinc 2975 [(5, .int (x5 + 5)), (7, .int r499.1), (6, .int r495.1), (0, .ref b), (1, .ref (gaC g 0)), (2, .ref (gaM g 0)), (3, .ref (gao g 0)), (4, .ref (gao g 1))] 7 (v := x5 + 5) dL_law_2972 rfl (by rw [cst_iconst5]) (by decide) rfl rfl ?_
        refine E_goto 28 dL_law_2975 (by decide) ?_
        refine E_sub [3, 4, 5, 6, 7, 0] rfl ?_
        refine E_up (u' := u + 4) (by omega) ?_
        exact hb28 (x5 + 5) r495.2.1 r499.2 r495.2.2 dd hf
      · have hf := ite_e c506 hf
        refine E_iconst 2630 0 dL_law_2629 cst_iconst0 rfl ?_
        cases hf
  · have hf := ite_e c503 hf
    refine E_iconst 2613 0 dL_law_2612 cst_iconst0 rfl ?_
    cases hf
set_option maxRecDepth 100000 in
set_option maxHeartbeats 4000000 in
theorem j_L_law_s_J2634 {l : Launch} {g : Gt} {b u : Nat} (hl : l.stackTraces = false) (hu : u ≤ 2090) {μ : Mm} {ν : Mm} {o : Nat → Int64} {dd : Nat → UInt64} {Ls : Nat} {xs : Nat → Int32} {kb28 : (Int32 → Mm → Mm → (Nat → Int64) → (Nat → UInt64) → Option Unit)} {x5 : Int32}  {res : Unit} (hb28 : ∀ (v5 : Int32) (μ' : Mm) (ν' : Mm) (o' : Nat → Int64) (dd' : Nat → UInt64), kb28 v5 μ' ν' o' dd' = some res → E l g z_L_law 28 [(0, .ref b), (1, .ref (gaC g 0)), (2, .ref (gaM g 0)), (3, .ref (gao g 0)), (4, .ref (gao g 1)), (5, .int v5)] [] (μ', ν', o', dd') (u + 4) (Qlaw g b Ls xs)) (hf : f_L_law_s_J2634 Ls xs kb28 x5 μ ν o dd = some res) : E l g z_L_law 2634 [(0, .ref b), (1, .ref (gaC g 0)), (2, .ref (gaM g 0)), (3, .ref (gao g 0)), (4, .ref (gao g 1)), (5, .int x5)] [] (μ, ν, o, dd) (u + 0) (Qlaw g b Ls xs) := by
  unfold f_L_law_s_J2634 at hf
  refine E_aload_n 2635 1 dL_law_2634 rfl rfl rfl ?_
  refine E_aload_n 2636 0 dL_law_2635 rfl rfl rfl ?_
  refine E_iload 2638 5 dL_law_2636 rfl rfl ?_
  refine E_iconst 2639 1 dL_law_2638 cst_iconst1 rfl ?_
  refine E_iadd 2640 dL_law_2639 rfl ?_
  obtain ⟨h507, hf⟩ := chk_some hf
  refine E_sld 2641 h507 dL_law_2640 rfl ?_
  refine E_aload_n 2642 3 dL_law_2641 rfl rfl rfl ?_
  obtain ⟨r508, hc509, hf⟩ := bnd hf
  refine E_callH1 2645 (u + 1) [] [.int r508.1] (c_L_caught_0_o hl hc509) my_L_caught kl_L_292 rfl rfl (Nat.le_of_ble_eq_true rfl) (rmlaw (by omega) rfl) dL_law_2642 rfl rfl rfl ?_
  refine E_istore 2647 [(6, .int r508.1), (0, .ref b), (1, .ref (gaC g 0)), (2, .ref (gaM g 0)), (3, .ref (gao g 0)), (4, .ref (gao g 1)), (5, .int x5)] dL_law_2645 (by decide) rfl rfl ?_
  refine E_aload_n 2648 3 dL_law_2647 rfl rfl rfl ?_
  refine E_aload_n 2649 1 dL_law_2648 rfl rfl rfl ?_
  refine E_iload 2651 6 dL_law_2649 rfl rfl ?_
  refine E_iconst 2652 1 dL_law_2651 cst_iconst1 rfl ?_
  refine E_iadd 2653 dL_law_2652 rfl ?_
  obtain ⟨h510, hf⟩ := chk_some hf
  refine E_sld 2654 h510 dL_law_2653 rfl ?_
  obtain ⟨r511, hc512, hf⟩ := bnd hf
  refine E_callVM1 2657 (u + 1) [] [.int r511.1] (c_X8_caught hl hc512) my_X8_caught rc_X8 kl_L_294 rfl rfl (Nat.le_of_ble_eq_true rfl) (rmlaw (by omega) rfl) dL_law_2654 rfl rfl rfl ?_
  refine E_istore 2659 [(7, .int r511.1), (6, .int r508.1), (0, .ref b), (1, .ref (gaC g 0)), (2, .ref (gaM g 0)), (3, .ref (gao g 0)), (4, .ref (gao g 1)), (5, .int x5)] dL_law_2657 (by decide) rfl rfl ?_
  refine E_aload_n 2660 4 dL_law_2659 rfl rfl rfl ?_
  obtain ⟨r513, hc514, hf⟩ := bnd hf
  refine E_callVM1 2663 (u + 1) [] [.int r513] (c_X8_thrown hl hc514) my_X8_thrown rc_X8 kl_L_163 rfl rfl (Nat.le_of_ble_eq_true rfl) (rmlaw (by omega) rfl) dL_law_2660 rfl rfl rfl ?_
  refine E_iload 2665 1 dL_law_2663 rfl rfl ?_
  refine E_icmp_eq 2670 2668 dL_law_2665 (by decide) rfl (fun c515 => ?_) (fun c515 => ?_)
  · have hf := ite_t c515 hf
    refine E_iload 2672 1 dL_law_2670 rfl rfl ?_
    refine E_if_ne 2687 2675 dL_law_2672 (by decide) rfl (fun c516 => ?_) (fun c516 => ?_)
    · have hf := ite_e c516 hf
      refine E_goto 2972 dL_law_2687 (by decide) ?_
      refine E_iinc 2975 [(5, .int (x5 + 5)), (7, .int r511.1), (6, .int r508.1), (0, .ref b), (1, .ref (gaC g 0)), (2, .ref (gaM g 0)), (3, .ref (gao g 0)), (4, .ref (gao g 1))] 7 (v := x5 + 5) dL_law_2972 rfl (by rw [cst_iconst5]) (by decide) rfl rfl ?_
      refine E_goto 28 dL_law_2975 (by decide) ?_
      refine E_sub [3, 4, 5, 6, 7, 0] rfl ?_
      refine E_up (u' := u + 4) (by omega) ?_
      exact hb28 (x5 + 5) μ r511.2 r508.2 dd hf
    · have hf := ite_t c516 hf
      refine E_aload_n 2676 5 dL_law_2675 rfl rfl rfl ?_
      refine E_iconst 2677 0 dL_law_2676 cst_iconst0 rfl ?_
      obtain ⟨h517, hf⟩ := chk_some hf
      refine E_lald 2678 h517 dL_law_2677 rfl ?_
      refine E_iload 2680 0 dL_law_2678 rfl rfl ?_
      refine E_i2l 2681 dL_law_2680 rfl ?_
      refine E_lcmp 2682 dL_law_2681 rfl ?_
      refine E_if_eq 2687 2685 dL_law_2682 (by decide) rfl (fun c518 => ?_) (fun c518 => ?_)
      · have hf := ite_t c518 hf
        refine E_goto 2972 dL_law_2687 (by decide) ?_
        refine E_iinc 2975 [(5, .int (x5 + 5)), (7, .int r511.1), (6, .int r508.1), (0, .ref b), (1, .ref (gaC g 0)), (2, .ref (gaM g 0)), (3, .ref (gao g 0)), (4, .ref (gao g 1))] 7 (v := x5 + 5) dL_law_2972 rfl (by rw [cst_iconst5]) (by decide) rfl rfl ?_
        refine E_goto 28 dL_law_2975 (by decide) ?_
        refine E_sub [3, 4, 5, 6, 7, 0] rfl ?_
        refine E_up (u' := u + 4) (by omega) ?_
        exact hb28 (x5 + 5) μ r511.2 r508.2 dd hf
      · have hf := ite_e c518 hf
        refine E_iconst 2686 0 dL_law_2685 cst_iconst0 rfl ?_
        cases hf
  · have hf := ite_e c515 hf
    refine E_iconst 2669 0 dL_law_2668 cst_iconst0 rfl ?_
    cases hf
set_option maxRecDepth 100000 in
set_option maxHeartbeats 4000000 in
theorem j_L_law_s_J2690 {l : Launch} {g : Gt} {b u : Nat} (hl : l.stackTraces = false) (hu : u ≤ 2090) {μ : Mm} {ν : Mm} {o : Nat → Int64} {dd : Nat → UInt64} {Ls : Nat} {xs : Nat → Int32} {kb28 : (Int32 → Mm → Mm → (Nat → Int64) → (Nat → UInt64) → Option Unit)} {x5 : Int32}  {res : Unit} (hb28 : ∀ (v5 : Int32) (μ' : Mm) (ν' : Mm) (o' : Nat → Int64) (dd' : Nat → UInt64), kb28 v5 μ' ν' o' dd' = some res → E l g z_L_law 28 [(0, .ref b), (1, .ref (gaC g 0)), (2, .ref (gaM g 0)), (3, .ref (gao g 0)), (4, .ref (gao g 1)), (5, .int v5)] [] (μ', ν', o', dd') (u + 4) (Qlaw g b Ls xs)) (hf : f_L_law_s_J2690 Ls xs kb28 x5 μ ν o dd = some res) : E l g z_L_law 2690 [(0, .ref b), (1, .ref (gaC g 0)), (2, .ref (gaM g 0)), (3, .ref (gao g 0)), (4, .ref (gao g 1)), (5, .int x5)] [] (μ, ν, o, dd) (u + 0) (Qlaw g b Ls xs) := by
  unfold f_L_law_s_J2690 at hf
  refine E_aload_n 2691 1 dL_law_2690 rfl rfl rfl ?_
  refine E_aload_n 2692 0 dL_law_2691 rfl rfl rfl ?_
  refine E_iload 2694 5 dL_law_2692 rfl rfl ?_
  refine E_iconst 2695 1 dL_law_2694 cst_iconst1 rfl ?_
  refine E_iadd 2696 dL_law_2695 rfl ?_
  obtain ⟨h519, hf⟩ := chk_some hf
  refine E_sld 2697 h519 dL_law_2696 rfl ?_
  refine E_aload_n 2698 3 dL_law_2697 rfl rfl rfl ?_
  obtain ⟨r520, hc521, hf⟩ := bnd hf
  refine E_callH1 2701 (u + 1) [] [.int r520.1] (c_L_bestThreshold_0_o hl hc521) my_L_bestThreshold kl_L_295 rfl rfl (Nat.le_of_ble_eq_true rfl) (rmlaw (by omega) rfl) dL_law_2698 rfl rfl rfl ?_
  refine E_istore 2703 [(6, .int r520.1), (0, .ref b), (1, .ref (gaC g 0)), (2, .ref (gaM g 0)), (3, .ref (gao g 0)), (4, .ref (gao g 1)), (5, .int x5)] dL_law_2701 (by decide) rfl rfl ?_
  refine E_aload_n 2704 3 dL_law_2703 rfl rfl rfl ?_
  refine E_aload_n 2705 1 dL_law_2704 rfl rfl rfl ?_
  refine E_iload 2707 6 dL_law_2705 rfl rfl ?_
  refine E_iconst 2708 1 dL_law_2707 cst_iconst1 rfl ?_
  refine E_iadd 2709 dL_law_2708 rfl ?_
  obtain ⟨h522, hf⟩ := chk_some hf
  refine E_sld 2710 h522 dL_law_2709 rfl ?_
  obtain ⟨r523, hc524, hf⟩ := bnd hf
  refine E_callVM1 2713 (u + 1) [] [.int r523.1] (c_X8_bestThreshold hl hc524) my_X8_bestThreshold rc_X8 kl_L_297 rfl rfl (Nat.le_of_ble_eq_true rfl) (rmlaw (by omega) rfl) dL_law_2710 rfl rfl rfl ?_
  refine E_istore 2715 [(7, .int r523.1), (6, .int r520.1), (0, .ref b), (1, .ref (gaC g 0)), (2, .ref (gaM g 0)), (3, .ref (gao g 0)), (4, .ref (gao g 1)), (5, .int x5)] dL_law_2713 (by decide) rfl rfl ?_
  refine E_aload_n 2716 4 dL_law_2715 rfl rfl rfl ?_
  obtain ⟨r525, hc526, hf⟩ := bnd hf
  refine E_callVM1 2719 (u + 1) [] [.int r525] (c_X8_thrown hl hc526) my_X8_thrown rc_X8 kl_L_163 rfl rfl (Nat.le_of_ble_eq_true rfl) (rmlaw (by omega) rfl) dL_law_2716 rfl rfl rfl ?_
  refine E_iload 2721 1 dL_law_2719 rfl rfl ?_
  refine E_icmp_eq 2726 2724 dL_law_2721 (by decide) rfl (fun c527 => ?_) (fun c527 => ?_)
  · have hf := ite_t c527 hf
    refine E_iload 2728 1 dL_law_2726 rfl rfl ?_
    refine E_if_ne 2743 2731 dL_law_2728 (by decide) rfl (fun c528 => ?_) (fun c528 => ?_)
    · have hf := ite_e c528 hf
      refine E_goto 2972 dL_law_2743 (by decide) ?_
      refine E_iinc 2975 [(5, .int (x5 + 5)), (7, .int r523.1), (6, .int r520.1), (0, .ref b), (1, .ref (gaC g 0)), (2, .ref (gaM g 0)), (3, .ref (gao g 0)), (4, .ref (gao g 1))] 7 (v := x5 + 5) dL_law_2972 rfl (by rw [cst_iconst5]) (by decide) rfl rfl ?_
      refine E_goto 28 dL_law_2975 (by decide) ?_
      refine E_sub [3, 4, 5, 6, 7, 0] rfl ?_
      refine E_up (u' := u + 4) (by omega) ?_
      exact hb28 (x5 + 5) μ r523.2 r520.2 dd hf
    · have hf := ite_t c528 hf
      refine E_aload_n 2732 5 dL_law_2731 rfl rfl rfl ?_
      refine E_iconst 2733 0 dL_law_2732 cst_iconst0 rfl ?_
      obtain ⟨h529, hf⟩ := chk_some hf
      refine E_lald 2734 h529 dL_law_2733 rfl ?_
      refine E_iload 2736 0 dL_law_2734 rfl rfl ?_
      refine E_i2l 2737 dL_law_2736 rfl ?_
      refine E_lcmp 2738 dL_law_2737 rfl ?_
      refine E_if_eq 2743 2741 dL_law_2738 (by decide) rfl (fun c530 => ?_) (fun c530 => ?_)
      · have hf := ite_t c530 hf
        refine E_goto 2972 dL_law_2743 (by decide) ?_
        refine E_iinc 2975 [(5, .int (x5 + 5)), (7, .int r523.1), (6, .int r520.1), (0, .ref b), (1, .ref (gaC g 0)), (2, .ref (gaM g 0)), (3, .ref (gao g 0)), (4, .ref (gao g 1))] 7 (v := x5 + 5) dL_law_2972 rfl (by rw [cst_iconst5]) (by decide) rfl rfl ?_
        refine E_goto 28 dL_law_2975 (by decide) ?_
        refine E_sub [3, 4, 5, 6, 7, 0] rfl ?_
        refine E_up (u' := u + 4) (by omega) ?_
        exact hb28 (x5 + 5) μ r523.2 r520.2 dd hf
      · have hf := ite_e c530 hf
        refine E_iconst 2742 0 dL_law_2741 cst_iconst0 rfl ?_
        cases hf
  · have hf := ite_e c527 hf
    refine E_iconst 2725 0 dL_law_2724 cst_iconst0 rfl ?_
    cases hf
set_option maxRecDepth 100000 in
set_option maxHeartbeats 4000000 in
theorem j_L_law_s_J2746 {l : Launch} {g : Gt} {b u : Nat} (hl : l.stackTraces = false) (hu : u ≤ 2090) {μ : Mm} {ν : Mm} {o : Nat → Int64} {dd : Nat → UInt64} {Ls : Nat} {xs : Nat → Int32} {kb28 : (Int32 → Mm → Mm → (Nat → Int64) → (Nat → UInt64) → Option Unit)} {x5 : Int32}  {res : Unit} (hb28 : ∀ (v5 : Int32) (μ' : Mm) (ν' : Mm) (o' : Nat → Int64) (dd' : Nat → UInt64), kb28 v5 μ' ν' o' dd' = some res → E l g z_L_law 28 [(0, .ref b), (1, .ref (gaC g 0)), (2, .ref (gaM g 0)), (3, .ref (gao g 0)), (4, .ref (gao g 1)), (5, .int v5)] [] (μ', ν', o', dd') (u + 4) (Qlaw g b Ls xs)) (hf : f_L_law_s_J2746 Ls xs kb28 x5 μ ν o dd = some res) : E l g z_L_law 2746 [(0, .ref b), (1, .ref (gaC g 0)), (2, .ref (gaM g 0)), (3, .ref (gao g 0)), (4, .ref (gao g 1)), (5, .int x5)] [] (μ, ν, o, dd) (u + 0) (Qlaw g b Ls xs) := by
  unfold f_L_law_s_J2746 at hf
  refine E_aload_n 2747 1 dL_law_2746 rfl rfl rfl ?_
  refine E_aload_n 2748 0 dL_law_2747 rfl rfl rfl ?_
  refine E_iload 2750 5 dL_law_2748 rfl rfl ?_
  refine E_iconst 2751 1 dL_law_2750 cst_iconst1 rfl ?_
  refine E_iadd 2752 dL_law_2751 rfl ?_
  obtain ⟨h531, hf⟩ := chk_some hf
  refine E_sld 2753 h531 dL_law_2752 rfl ?_
  refine E_aload_n 2754 3 dL_law_2753 rfl rfl rfl ?_
  obtain ⟨r532, hc533, hf⟩ := bnd hf
  refine E_callH1 2757 (u + 1) [] [.int r532.1] (c_L_bestThresholdByTrying_0_o hl hc533) my_L_bestThresholdByTrying kl_L_298 rfl rfl (Nat.le_of_ble_eq_true rfl) (rmlaw (by omega) rfl) dL_law_2754 rfl rfl rfl ?_
  refine E_istore 2759 [(6, .int r532.1), (0, .ref b), (1, .ref (gaC g 0)), (2, .ref (gaM g 0)), (3, .ref (gao g 0)), (4, .ref (gao g 1)), (5, .int x5)] dL_law_2757 (by decide) rfl rfl ?_
  refine E_aload_n 2760 3 dL_law_2759 rfl rfl rfl ?_
  refine E_aload_n 2761 1 dL_law_2760 rfl rfl rfl ?_
  refine E_iload 2763 6 dL_law_2761 rfl rfl ?_
  refine E_iconst 2764 1 dL_law_2763 cst_iconst1 rfl ?_
  refine E_iadd 2765 dL_law_2764 rfl ?_
  obtain ⟨h534, hf⟩ := chk_some hf
  refine E_sld 2766 h534 dL_law_2765 rfl ?_
  obtain ⟨r535, hc536, hf⟩ := bnd hf
  refine E_callVM1 2769 (u + 1) [] [.int r535.1] (c_X8_bestThresholdByTrying hl hc536) my_X8_bestThresholdByTrying rc_X8 kl_L_300 rfl rfl (Nat.le_of_ble_eq_true rfl) (rmlaw (by omega) rfl) dL_law_2766 rfl rfl rfl ?_
  refine E_istore 2771 [(7, .int r535.1), (6, .int r532.1), (0, .ref b), (1, .ref (gaC g 0)), (2, .ref (gaM g 0)), (3, .ref (gao g 0)), (4, .ref (gao g 1)), (5, .int x5)] dL_law_2769 (by decide) rfl rfl ?_
  refine E_aload_n 2772 4 dL_law_2771 rfl rfl rfl ?_
  obtain ⟨r537, hc538, hf⟩ := bnd hf
  refine E_callVM1 2775 (u + 1) [] [.int r537] (c_X8_thrown hl hc538) my_X8_thrown rc_X8 kl_L_163 rfl rfl (Nat.le_of_ble_eq_true rfl) (rmlaw (by omega) rfl) dL_law_2772 rfl rfl rfl ?_
  refine E_iload 2777 1 dL_law_2775 rfl rfl ?_
  refine E_icmp_eq 2782 2780 dL_law_2777 (by decide) rfl (fun c539 => ?_) (fun c539 => ?_)
  · have hf := ite_t c539 hf
    refine E_iload 2784 1 dL_law_2782 rfl rfl ?_
    refine E_if_ne 2799 2787 dL_law_2784 (by decide) rfl (fun c540 => ?_) (fun c540 => ?_)
    · have hf := ite_e c540 hf
      refine E_goto 2972 dL_law_2799 (by decide) ?_
      refine E_iinc 2975 [(5, .int (x5 + 5)), (7, .int r535.1), (6, .int r532.1), (0, .ref b), (1, .ref (gaC g 0)), (2, .ref (gaM g 0)), (3, .ref (gao g 0)), (4, .ref (gao g 1))] 7 (v := x5 + 5) dL_law_2972 rfl (by rw [cst_iconst5]) (by decide) rfl rfl ?_
      refine E_goto 28 dL_law_2975 (by decide) ?_
      refine E_sub [3, 4, 5, 6, 7, 0] rfl ?_
      refine E_up (u' := u + 4) (by omega) ?_
      exact hb28 (x5 + 5) μ r535.2 r532.2 dd hf
    · have hf := ite_t c540 hf
      refine E_aload_n 2788 5 dL_law_2787 rfl rfl rfl ?_
      refine E_iconst 2789 0 dL_law_2788 cst_iconst0 rfl ?_
      obtain ⟨h541, hf⟩ := chk_some hf
      refine E_lald 2790 h541 dL_law_2789 rfl ?_
      refine E_iload 2792 0 dL_law_2790 rfl rfl ?_
      refine E_i2l 2793 dL_law_2792 rfl ?_
      refine E_lcmp 2794 dL_law_2793 rfl ?_
      refine E_if_eq 2799 2797 dL_law_2794 (by decide) rfl (fun c542 => ?_) (fun c542 => ?_)
      · have hf := ite_t c542 hf
        refine E_goto 2972 dL_law_2799 (by decide) ?_
        refine E_iinc 2975 [(5, .int (x5 + 5)), (7, .int r535.1), (6, .int r532.1), (0, .ref b), (1, .ref (gaC g 0)), (2, .ref (gaM g 0)), (3, .ref (gao g 0)), (4, .ref (gao g 1))] 7 (v := x5 + 5) dL_law_2972 rfl (by rw [cst_iconst5]) (by decide) rfl rfl ?_
        refine E_goto 28 dL_law_2975 (by decide) ?_
        refine E_sub [3, 4, 5, 6, 7, 0] rfl ?_
        refine E_up (u' := u + 4) (by omega) ?_
        exact hb28 (x5 + 5) μ r535.2 r532.2 dd hf
      · have hf := ite_e c542 hf
        refine E_iconst 2798 0 dL_law_2797 cst_iconst0 rfl ?_
        cases hf
  · have hf := ite_e c539 hf
    refine E_iconst 2781 0 dL_law_2780 cst_iconst0 rfl ?_
    cases hf
set_option maxRecDepth 100000 in
set_option maxHeartbeats 4000000 in
theorem j_L_law_s_J2802 {l : Launch} {g : Gt} {b u : Nat} (hl : l.stackTraces = false) (hu : u ≤ 2090) {μ : Mm} {ν : Mm} {o : Nat → Int64} {dd : Nat → UInt64} {Ls : Nat} {xs : Nat → Int32} {kb28 : (Int32 → Mm → Mm → (Nat → Int64) → (Nat → UInt64) → Option Unit)} {x5 : Int32}  {res : Unit} (hb28 : ∀ (v5 : Int32) (μ' : Mm) (ν' : Mm) (o' : Nat → Int64) (dd' : Nat → UInt64), kb28 v5 μ' ν' o' dd' = some res → E l g z_L_law 28 [(0, .ref b), (1, .ref (gaC g 0)), (2, .ref (gaM g 0)), (3, .ref (gao g 0)), (4, .ref (gao g 1)), (5, .int v5)] [] (μ', ν', o', dd') (u + 4) (Qlaw g b Ls xs)) (hf : f_L_law_s_J2802 Ls xs kb28 x5 μ ν o dd = some res) : E l g z_L_law 2802 [(0, .ref b), (1, .ref (gaC g 0)), (2, .ref (gaM g 0)), (3, .ref (gao g 0)), (4, .ref (gao g 1)), (5, .int x5)] [] (μ, ν, o, dd) (u + 0) (Qlaw g b Ls xs) := by
  unfold f_L_law_s_J2802 at hf
  refine E_aload_n 2803 1 dL_law_2802 rfl rfl rfl ?_
  refine E_aload_n 2804 0 dL_law_2803 rfl rfl rfl ?_
  refine E_iload 2806 5 dL_law_2804 rfl rfl ?_
  refine E_iconst 2807 1 dL_law_2806 cst_iconst1 rfl ?_
  refine E_iadd 2808 dL_law_2807 rfl ?_
  obtain ⟨h543, hf⟩ := chk_some hf
  refine E_sld 2809 h543 dL_law_2808 rfl ?_
  refine E_aload 2811 4 dL_law_2809 rfl rfl ?_
  obtain ⟨r544, hc545, hf⟩ := bnd hf
  refine E_callH1 2814 (u + 2) [] [.int r544.1] (c_L_precision_0_d hl hc545) my_L_precision kl_L_301 rfl rfl (Nat.le_of_ble_eq_true rfl) (rmlaw (by omega) rfl) dL_law_2811 rfl rfl rfl ?_
  refine E_istore 2816 [(6, .int r544.1), (0, .ref b), (1, .ref (gaC g 0)), (2, .ref (gaM g 0)), (3, .ref (gao g 0)), (4, .ref (gao g 1)), (5, .int x5)] dL_law_2814 (by decide) rfl rfl ?_
  refine E_aload_n 2817 3 dL_law_2816 rfl rfl rfl ?_
  refine E_aload_n 2818 1 dL_law_2817 rfl rfl rfl ?_
  refine E_iload 2820 6 dL_law_2818 rfl rfl ?_
  refine E_iconst 2821 1 dL_law_2820 cst_iconst1 rfl ?_
  refine E_iadd 2822 dL_law_2821 rfl ?_
  obtain ⟨h546, hf⟩ := chk_some hf
  refine E_sld 2823 h546 dL_law_2822 rfl ?_
  obtain ⟨r547, hc548, hf⟩ := bnd hf
  refine E_callVM1 2826 (u + 2) [] [.float r547.1] (c_X8_precision hl hc548) my_X8_precision rc_X8 kl_L_304 rfl rfl (Nat.le_of_ble_eq_true rfl) (rmlaw (by omega) rfl) dL_law_2823 rfl rfl rfl ?_
  refine E_fstore 2828 [(7, .float r547.1), (6, .int r544.1), (0, .ref b), (1, .ref (gaC g 0)), (2, .ref (gaM g 0)), (3, .ref (gao g 0)), (4, .ref (gao g 1)), (5, .int x5)] dL_law_2826 (by decide) rfl rfl ?_
  refine E_aload_n 2829 4 dL_law_2828 rfl rfl rfl ?_
  obtain ⟨r549, hc550, hf⟩ := bnd hf
  refine E_callVM1 2832 (u + 2) [] [.int r549] (c_X8_thrown hl hc550) my_X8_thrown rc_X8 kl_L_163 rfl rfl (Nat.le_of_ble_eq_true rfl) (rmlaw (by omega) rfl) dL_law_2829 rfl rfl rfl ?_
  refine E_iload 2834 1 dL_law_2832 rfl rfl ?_
  refine E_icmp_eq 2839 2837 dL_law_2834 (by decide) rfl (fun c551 => ?_) (fun c551 => ?_)
  · have hf := ite_t c551 hf
    refine E_iload 2841 1 dL_law_2839 rfl rfl ?_
    refine E_if_ne 2877 2844 dL_law_2841 (by decide) rfl (fun c552 => ?_) (fun c552 => ?_)
    · have hf := ite_e c552 hf
      refine E_goto 2972 dL_law_2877 (by decide) ?_
      refine E_iinc 2975 [(5, .int (x5 + 5)), (7, .float r547.1), (6, .int r544.1), (0, .ref b), (1, .ref (gaC g 0)), (2, .ref (gaM g 0)), (3, .ref (gao g 0)), (4, .ref (gao g 1))] 7 (v := x5 + 5) dL_law_2972 rfl (by rw [cst_iconst5]) (by decide) rfl rfl ?_
      refine E_goto 28 dL_law_2975 (by decide) ?_
      refine E_sub [3, 4, 5, 6, 7, 0] rfl ?_
      refine E_up (u' := u + 4) (by omega) ?_
      exact hb28 (x5 + 5) μ r547.2 o r544.2 hf
    · have hf := ite_t c552 hf
      refine E_aload 2846 6 dL_law_2844 rfl rfl ?_
      refine E_iconst 2847 0 dL_law_2846 cst_iconst0 rfl ?_
      obtain ⟨h553, hf⟩ := chk_some hf
      refine E_dald 2848 h553 dL_law_2847 rfl ?_
      refine E_fload 2850 0 dL_law_2848 rfl rfl ?_
      obtain ⟨h554, hf⟩ := gx64_some hf
      refine E_f2d 2851 dL_law_2850 h554 rfl ?_
      refine E_dcmp 2852 dL_law_2851 rfl ?_
      refine E_if_eq 2877 2855 dL_law_2852 (by decide) rfl (fun c555 => ?_) (fun c555 => ?_)
      · have hf := ite_t c555 hf
        refine E_goto 2972 dL_law_2877 (by decide) ?_
        refine E_iinc 2975 [(5, .int (x5 + 5)), (7, .float r547.1), (6, .int r544.1), (0, .ref b), (1, .ref (gaC g 0)), (2, .ref (gaM g 0)), (3, .ref (gao g 0)), (4, .ref (gao g 1))] 7 (v := x5 + 5) dL_law_2972 rfl (by rw [cst_iconst5]) (by decide) rfl rfl ?_
        refine E_goto 28 dL_law_2975 (by decide) ?_
        refine E_sub [3, 4, 5, 6, 7, 0] rfl ?_
        refine E_up (u' := u + 4) (by omega) ?_
        exact hb28 (x5 + 5) μ r547.2 o r544.2 hf
      · have hf := ite_e c555 hf
        refine E_aload 2857 6 dL_law_2855 rfl rfl ?_
        refine E_iconst 2858 0 dL_law_2857 cst_iconst0 rfl ?_
        obtain ⟨h556, hf⟩ := chk_some hf
        refine E_dald 2859 h556 dL_law_2858 rfl ?_
        refine E_aload 2861 6 dL_law_2859 rfl rfl ?_
        refine E_iconst 2862 0 dL_law_2861 cst_iconst0 rfl ?_
        obtain ⟨h557, hf⟩ := chk_some hf
        refine E_dald 2863 h557 dL_law_2862 rfl ?_
        refine E_dcmp 2864 dL_law_2863 rfl ?_
        refine E_if_eq 2875 2867 dL_law_2864 (by decide) rfl (fun c558 => ?_) (fun c558 => ?_)
        · have hf := ite_t c558 hf
          refine E_iconst 2876 0 dL_law_2875 cst_iconst0 rfl ?_
          cases hf
        · have hf := ite_e c558 hf
          refine E_fload 2869 0 dL_law_2867 rfl rfl ?_
          refine E_fload 2871 0 dL_law_2869 rfl rfl ?_
          refine E_fcmp 2872 dL_law_2871 rfl ?_
          refine E_if_ne 2877 2875 dL_law_2872 (by decide) rfl (fun c559 => ?_) (fun c559 => ?_)
          · have hf := ite_e c559 hf
            refine E_goto 2972 dL_law_2877 (by decide) ?_
            refine E_iinc 2975 [(5, .int (x5 + 5)), (7, .float r547.1), (6, .int r544.1), (0, .ref b), (1, .ref (gaC g 0)), (2, .ref (gaM g 0)), (3, .ref (gao g 0)), (4, .ref (gao g 1))] 7 (v := x5 + 5) dL_law_2972 rfl (by rw [cst_iconst5]) (by decide) rfl rfl ?_
            refine E_goto 28 dL_law_2975 (by decide) ?_
            refine E_sub [3, 4, 5, 6, 7, 0] rfl ?_
            refine E_up (u' := u + 4) (by omega) ?_
            exact hb28 (x5 + 5) μ r547.2 o r544.2 hf
          · have hf := ite_t c559 hf
            refine E_iconst 2876 0 dL_law_2875 cst_iconst0 rfl ?_
            cases hf
  · have hf := ite_e c551 hf
    refine E_iconst 2838 0 dL_law_2837 cst_iconst0 rfl ?_
    cases hf
set_option maxRecDepth 100000 in
set_option maxHeartbeats 4000000 in
theorem j_L_law_s_J2880 {l : Launch} {g : Gt} {b u : Nat} (hl : l.stackTraces = false) (hu : u ≤ 2090) {μ : Mm} {ν : Mm} {o : Nat → Int64} {dd : Nat → UInt64} {Ls : Nat} {xs : Nat → Int32} {kb28 : (Int32 → Mm → Mm → (Nat → Int64) → (Nat → UInt64) → Option Unit)} {x5 : Int32}  {res : Unit} (hb28 : ∀ (v5 : Int32) (μ' : Mm) (ν' : Mm) (o' : Nat → Int64) (dd' : Nat → UInt64), kb28 v5 μ' ν' o' dd' = some res → E l g z_L_law 28 [(0, .ref b), (1, .ref (gaC g 0)), (2, .ref (gaM g 0)), (3, .ref (gao g 0)), (4, .ref (gao g 1)), (5, .int v5)] [] (μ', ν', o', dd') (u + 4) (Qlaw g b Ls xs)) (hf : f_L_law_s_J2880 Ls xs kb28 x5 μ ν o dd = some res) : E l g z_L_law 2880 [(0, .ref b), (1, .ref (gaC g 0)), (2, .ref (gaM g 0)), (3, .ref (gao g 0)), (4, .ref (gao g 1)), (5, .int x5)] [] (μ, ν, o, dd) (u + 0) (Qlaw g b Ls xs) := by
  unfold f_L_law_s_J2880 at hf
  refine E_aload_n 2881 1 dL_law_2880 rfl rfl rfl ?_
  refine E_aload 2883 4 dL_law_2881 rfl rfl ?_
  obtain ⟨r560, hc561, hf⟩ := bnd hf
  refine E_callH1 2886 (u + 1) [] [.int r560.1] (c_L_meanScore_0_d hl hc561) my_L_meanScore kl_L_305 rfl rfl (Nat.le_of_ble_eq_true rfl) (rmlaw (by omega) rfl) dL_law_2883 rfl rfl rfl ?_
  refine E_istore 2888 [(6, .int r560.1), (0, .ref b), (1, .ref (gaC g 0)), (2, .ref (gaM g 0)), (3, .ref (gao g 0)), (4, .ref (gao g 1)), (5, .int x5)] dL_law_2886 (by decide) rfl rfl ?_
  refine E_aload_n 2889 3 dL_law_2888 rfl rfl rfl ?_
  obtain ⟨r562, hc563, hf⟩ := bnd hf
  refine E_callVM1 2892 (u + 1) [] [.double r562.1] (c_X8_meanScore hl hc563) my_X8_meanScore rc_X8 kl_L_308 rfl rfl (Nat.le_of_ble_eq_true rfl) (rmlaw (by omega) rfl) dL_law_2889 rfl rfl rfl ?_
  refine E_dstore 2894 [(7, .double r562.1), (6, .int r560.1), (0, .ref b), (1, .ref (gaC g 0)), (2, .ref (gaM g 0)), (3, .ref (gao g 0)), (4, .ref (gao g 1)), (5, .int x5)] dL_law_2892 (by decide) rfl rfl ?_
  refine E_aload_n 2895 4 dL_law_2894 rfl rfl rfl ?_
  obtain ⟨r564, hc565, hf⟩ := bnd hf
  refine E_callVM1 2898 (u + 1) [] [.int r564] (c_X8_thrown hl hc565) my_X8_thrown rc_X8 kl_L_163 rfl rfl (Nat.le_of_ble_eq_true rfl) (rmlaw (by omega) rfl) dL_law_2895 rfl rfl rfl ?_
  refine E_iload 2900 1 dL_law_2898 rfl rfl ?_
  refine E_icmp_eq 2905 2903 dL_law_2900 (by decide) rfl (fun c566 => ?_) (fun c566 => ?_)
  · have hf := ite_t c566 hf
    refine E_iload 2907 1 dL_law_2905 rfl rfl ?_
    refine E_if_ne 2942 2910 dL_law_2907 (by decide) rfl (fun c567 => ?_) (fun c567 => ?_)
    · have hf := ite_e c567 hf
      refine E_goto 2972 dL_law_2942 (by decide) ?_
      refine E_iinc 2975 [(5, .int (x5 + 5)), (7, .double r562.1), (6, .int r560.1), (0, .ref b), (1, .ref (gaC g 0)), (2, .ref (gaM g 0)), (3, .ref (gao g 0)), (4, .ref (gao g 1))] 7 (v := x5 + 5) dL_law_2972 rfl (by rw [cst_iconst5]) (by decide) rfl rfl ?_
      refine E_goto 28 dL_law_2975 (by decide) ?_
      refine E_sub [3, 4, 5, 6, 7, 0] rfl ?_
      refine E_up (u' := u + 4) (by omega) ?_
      exact hb28 (x5 + 5) μ r562.2 o r560.2 hf
    · have hf := ite_t c567 hf
      refine E_aload 2912 6 dL_law_2910 rfl rfl ?_
      refine E_iconst 2913 0 dL_law_2912 cst_iconst0 rfl ?_
      obtain ⟨h568, hf⟩ := chk_some hf
      refine E_dald 2914 h568 dL_law_2913 rfl ?_
      refine E_dload 2916 0 dL_law_2914 rfl rfl ?_
      refine E_dcmp 2917 dL_law_2916 rfl ?_
      refine E_if_eq 2942 2920 dL_law_2917 (by decide) rfl (fun c569 => ?_) (fun c569 => ?_)
      · have hf := ite_t c569 hf
        refine E_goto 2972 dL_law_2942 (by decide) ?_
        refine E_iinc 2975 [(5, .int (x5 + 5)), (7, .double r562.1), (6, .int r560.1), (0, .ref b), (1, .ref (gaC g 0)), (2, .ref (gaM g 0)), (3, .ref (gao g 0)), (4, .ref (gao g 1))] 7 (v := x5 + 5) dL_law_2972 rfl (by rw [cst_iconst5]) (by decide) rfl rfl ?_
        refine E_goto 28 dL_law_2975 (by decide) ?_
        refine E_sub [3, 4, 5, 6, 7, 0] rfl ?_
        refine E_up (u' := u + 4) (by omega) ?_
        exact hb28 (x5 + 5) μ r562.2 o r560.2 hf
      · have hf := ite_e c569 hf
        refine E_aload 2922 6 dL_law_2920 rfl rfl ?_
        refine E_iconst 2923 0 dL_law_2922 cst_iconst0 rfl ?_
        obtain ⟨h570, hf⟩ := chk_some hf
        refine E_dald 2924 h570 dL_law_2923 rfl ?_
        refine E_aload 2926 6 dL_law_2924 rfl rfl ?_
        refine E_iconst 2927 0 dL_law_2926 cst_iconst0 rfl ?_
        obtain ⟨h571, hf⟩ := chk_some hf
        refine E_dald 2928 h571 dL_law_2927 rfl ?_
        refine E_dcmp 2929 dL_law_2928 rfl ?_
        refine E_if_eq 2940 2932 dL_law_2929 (by decide) rfl (fun c572 => ?_) (fun c572 => ?_)
        · have hf := ite_t c572 hf
          refine E_iconst 2941 0 dL_law_2940 cst_iconst0 rfl ?_
          cases hf
        · have hf := ite_e c572 hf
          refine E_dload 2934 0 dL_law_2932 rfl rfl ?_
          refine E_dload 2936 0 dL_law_2934 rfl rfl ?_
          refine E_dcmp 2937 dL_law_2936 rfl ?_
          refine E_if_ne 2942 2940 dL_law_2937 (by decide) rfl (fun c573 => ?_) (fun c573 => ?_)
          · have hf := ite_e c573 hf
            refine E_goto 2972 dL_law_2942 (by decide) ?_
            refine E_iinc 2975 [(5, .int (x5 + 5)), (7, .double r562.1), (6, .int r560.1), (0, .ref b), (1, .ref (gaC g 0)), (2, .ref (gaM g 0)), (3, .ref (gao g 0)), (4, .ref (gao g 1))] 7 (v := x5 + 5) dL_law_2972 rfl (by rw [cst_iconst5]) (by decide) rfl rfl ?_
            refine E_goto 28 dL_law_2975 (by decide) ?_
            refine E_sub [3, 4, 5, 6, 7, 0] rfl ?_
            refine E_up (u' := u + 4) (by omega) ?_
            exact hb28 (x5 + 5) μ r562.2 o r560.2 hf
          · have hf := ite_t c573 hf
            refine E_iconst 2941 0 dL_law_2940 cst_iconst0 rfl ?_
            cases hf
  · have hf := ite_e c566 hf
    refine E_iconst 2904 0 dL_law_2903 cst_iconst0 rfl ?_
    cases hf
set_option maxRecDepth 100000 in
set_option maxHeartbeats 4000000 in
theorem j_L_law_s_J2945 {l : Launch} {g : Gt} {b u : Nat} (hl : l.stackTraces = false) (hu : u ≤ 2090) {μ : Mm} {ν : Mm} {o : Nat → Int64} {dd : Nat → UInt64} {Ls : Nat} {xs : Nat → Int32} {kb28 : (Int32 → Mm → Mm → (Nat → Int64) → (Nat → UInt64) → Option Unit)} {x5 : Int32}  {res : Unit} (hb28 : ∀ (v5 : Int32) (μ' : Mm) (ν' : Mm) (o' : Nat → Int64) (dd' : Nat → UInt64), kb28 v5 μ' ν' o' dd' = some res → E l g z_L_law 28 [(0, .ref b), (1, .ref (gaC g 0)), (2, .ref (gaM g 0)), (3, .ref (gao g 0)), (4, .ref (gao g 1)), (5, .int v5)] [] (μ', ν', o', dd') (u + 4) (Qlaw g b Ls xs)) (hf : f_L_law_s_J2945 Ls xs kb28 x5 μ ν o dd = some res) : E l g z_L_law 2945 [(0, .ref b), (1, .ref (gaC g 0)), (2, .ref (gaM g 0)), (3, .ref (gao g 0)), (4, .ref (gao g 1)), (5, .int x5)] [] (μ, ν, o, dd) (u + 0) (Qlaw g b Ls xs) := by
  unfold f_L_law_s_J2945 at hf
  refine E_aload_n 2946 1 dL_law_2945 rfl rfl rfl ?_
  obtain ⟨r574, hc575, hf⟩ := bnd hf
  refine E_callVC1 2949 (u + 0) [] [.long r574] (c_X7_turnover hl hc575) my_X7_turnover rc_X7 kl_L_309 rfl rfl (Nat.le_of_ble_eq_true rfl) (rmlaw (by omega) rfl) dL_law_2946 rfl rfl rfl ?_
  refine E_aload_n 2950 2 dL_law_2949 rfl rfl rfl ?_
  obtain ⟨r576, hc577, hf⟩ := bnd hf
  refine E_callVM1 2953 (u + 0) [.long r574] [.long r576.1, .long r574] (c_X8_turnover hl hc577) my_X8_turnover rc_X8 kl_L_313 rfl rfl (Nat.le_of_ble_eq_true rfl) (rmlaw (by omega) rfl) dL_law_2950 rfl rfl rfl ?_
  refine E_lcmp 2954 dL_law_2953 rfl ?_
  refine E_if_eq 2972 2957 dL_law_2954 (by decide) rfl (fun c578 => ?_) (fun c578 => ?_)
  · have hf := ite_t c578 hf
    refine E_iinc 2975 [(5, .int (x5 + 5)), (0, .ref b), (1, .ref (gaC g 0)), (2, .ref (gaM g 0)), (3, .ref (gao g 0)), (4, .ref (gao g 1))] 5 (v := x5 + 5) dL_law_2972 rfl (by rw [cst_iconst5]) (by decide) rfl rfl ?_
    refine E_goto 28 dL_law_2975 (by decide) ?_
    refine E_sub [1, 2, 3, 4, 5, 0] rfl ?_
    refine E_up (u' := u + 4) (by omega) ?_
    exact hb28 (x5 + 5) μ r576.2 o dd hf
  · have hf := ite_e c578 hf
    refine E_iconst 2958 0 dL_law_2957 cst_iconst0 rfl ?_
    cases hf
set_option maxRecDepth 100000 in
set_option maxHeartbeats 4000000 in
theorem j_L_law_s_J2959 {l : Launch} {g : Gt} {b u : Nat} (hl : l.stackTraces = false) (hu : u ≤ 2090) {μ : Mm} {ν : Mm} {o : Nat → Int64} {dd : Nat → UInt64} {Ls : Nat} {xs : Nat → Int32} {kb28 : (Int32 → Mm → Mm → (Nat → Int64) → (Nat → UInt64) → Option Unit)} {x5 : Int32}  {res : Unit} (hb28 : ∀ (v5 : Int32) (μ' : Mm) (ν' : Mm) (o' : Nat → Int64) (dd' : Nat → UInt64), kb28 v5 μ' ν' o' dd' = some res → E l g z_L_law 28 [(0, .ref b), (1, .ref (gaC g 0)), (2, .ref (gaM g 0)), (3, .ref (gao g 0)), (4, .ref (gao g 1)), (5, .int v5)] [] (μ', ν', o', dd') (u + 4) (Qlaw g b Ls xs)) (hf : f_L_law_s_J2959 Ls xs kb28 x5 μ ν o dd = some res) : E l g z_L_law 2959 [(0, .ref b), (1, .ref (gaC g 0)), (2, .ref (gaM g 0)), (3, .ref (gao g 0)), (4, .ref (gao g 1)), (5, .int x5)] [] (μ, ν, o, dd) (u + 0) (Qlaw g b Ls xs) := by
  unfold f_L_law_s_J2959 at hf
  refine E_aload_n 2960 1 dL_law_2959 rfl rfl rfl ?_
  obtain ⟨r579, hc580, hf⟩ := bnd hf
  refine E_callVC1 2963 (u + 0) [] [.int r579] (c_X7_isSound hl hc580) my_X7_isSound rc_X7 kl_L_314 rfl rfl (Nat.le_of_ble_eq_true rfl) (rmlaw (by omega) rfl) dL_law_2960 rfl rfl rfl ?_
  refine E_aload_n 2964 2 dL_law_2963 rfl rfl rfl ?_
  obtain ⟨r581, hc582, hf⟩ := bnd hf
  refine E_callVM1 2967 (u + 0) [.int r579] [.int r581.1, .int r579] (c_X8_isSound hl hc582) my_X8_isSound rc_X8 kl_L_318 rfl rfl (Nat.le_of_ble_eq_true rfl) (rmlaw (by omega) rfl) dL_law_2964 rfl rfl rfl ?_
  refine E_icmp_eq 2972 2970 dL_law_2967 (by decide) rfl (fun c583 => ?_) (fun c583 => ?_)
  · have hf := ite_t c583 hf
    refine E_iinc 2975 [(5, .int (x5 + 5)), (0, .ref b), (1, .ref (gaC g 0)), (2, .ref (gaM g 0)), (3, .ref (gao g 0)), (4, .ref (gao g 1))] 5 (v := x5 + 5) dL_law_2972 rfl (by rw [cst_iconst5]) (by decide) rfl rfl ?_
    refine E_goto 28 dL_law_2975 (by decide) ?_
    refine E_sub [1, 2, 3, 4, 5, 0] rfl ?_
    refine E_up (u' := u + 4) (by omega) ?_
    exact hb28 (x5 + 5) μ r581.2 o dd hf
  · have hf := ite_e c583 hf
    refine E_iconst 2971 0 dL_law_2970 cst_iconst0 rfl ?_
    cases hf
set_option maxRecDepth 100000 in
set_option maxHeartbeats 4000000 in
theorem c_L_round {l : Launch} {g : Gt} {b u : Nat} (hl : l.stackTraces = false) (hu : u ≤ 2090) {μ : Mm} {ν : Mm} {o : Nat → Int64} {dd : Nat → UInt64} {Ls : Nat} {xs : Nat → Int32} {kb28 : (Int32 → Mm → Mm → (Nat → Int64) → (Nat → UInt64) → Option Unit)} {x5 : Int32} {res : Unit} (hb28 : ∀ (v5 : Int32) (μ' : Mm) (ν' : Mm) (o' : Nat → Int64) (dd' : Nat → UInt64), kb28 v5 μ' ν' o' dd' = some res → E l g z_L_law 28 [(0, .ref b), (1, .ref (gaC g 0)), (2, .ref (gaM g 0)), (3, .ref (gao g 0)), (4, .ref (gao g 1)), (5, .int v5)] [] (μ', ν', o', dd') (u + 4) (Qlaw g b Ls xs)) (hf : f_L_round Ls xs kb28 x5 μ ν o dd = some res) : E l g z_L_law 28 [(0, .ref b), (1, .ref (gaC g 0)), (2, .ref (gaM g 0)), (3, .ref (gao g 0)), (4, .ref (gao g 1)), (5, .int x5)] [] (μ, ν, o, dd) u (Qlaw g b Ls xs) := by
  unfold f_L_round at hf
  refine E_iload 30 5 dL_law_28 rfl rfl ?_
  refine E_aload_n 31 0 dL_law_30 rfl rfl rfl ?_
  refine E_slen 32 dL_law_31 rfl ?_
  refine E_iconst 33 5 dL_law_32 cst_iconst5 rfl ?_
  refine E_isub 34 dL_law_33 rfl ?_
  refine E_icmp_gt 2978 37 dL_law_34 (by decide) rfl (fun c1 => ?_) (fun c1 => ?_)
  · have hf := ite_t c1 hf
    refine E_iconst 2979 1 dL_law_2978 cst_iconst1 rfl ?_
    exact law_end (by omega) dL_law_2979
  · have hf := ite_e c1 hf
    refine E_aload_n 38 0 dL_law_37 rfl rfl rfl ?_
    refine E_iload 40 5 dL_law_38 rfl rfl ?_
    obtain ⟨h2, hf⟩ := chk_some hf
    refine E_sld 41 h2 dL_law_40 rfl ?_
    refine E_bipush 43 63 dL_law_41 cst_bipush63 rfl ?_
    refine E_iand 44 dL_law_43 rfl ?_
    by_cases s584 : ((xs x5.toNatClampNeg) &&& 63 : Int32) = 0
    · have hf := ite_t s584 hf
      refine E_tableEq 244 dL_law_44 (v := 0) s584 (by decide) (by decide) (off := 200) (by decide) (by decide) ?_
      refine E_sub [0, 1, 2, 3, 4, 5] rfl ?_
      exact j_L_law_s_J244 hl hu hb28 hf
    have hf := ite_e s584 hf
    by_cases s585 : ((xs x5.toNatClampNeg) &&& 63 : Int32) = 1
    · have hf := ite_t s585 hf
      refine E_tableEq 302 dL_law_44 (v := 1) s585 (by decide) (by decide) (off := 258) (by decide) (by decide) ?_
      refine E_sub [0, 1, 2, 3, 4, 5] rfl ?_
      exact j_L_law_s_J302 hl hu hb28 hf
    have hf := ite_e s585 hf
    by_cases s586 : ((xs x5.toNatClampNeg) &&& 63 : Int32) = 2
    · have hf := ite_t s586 hf
      refine E_tableEq 393 dL_law_44 (v := 2) s586 (by decide) (by decide) (off := 349) (by decide) (by decide) ?_
      refine E_sub [0, 1, 2, 3, 4, 5] rfl ?_
      exact j_L_law_s_J393 hl hu hb28 hf
    have hf := ite_e s586 hf
    by_cases s587 : ((xs x5.toNatClampNeg) &&& 63 : Int32) = 3
    · have hf := ite_t s587 hf
      refine E_tableEq 484 dL_law_44 (v := 3) s587 (by decide) (by decide) (off := 440) (by decide) (by decide) ?_
      refine E_sub [0, 1, 2, 3, 4, 5] rfl ?_
      exact j_L_law_s_J484 hl hu hb28 hf
    have hf := ite_e s587 hf
    by_cases s588 : ((xs x5.toNatClampNeg) &&& 63 : Int32) = 4
    · have hf := ite_t s588 hf
      refine E_tableEq 547 dL_law_44 (v := 4) s588 (by decide) (by decide) (off := 503) (by decide) (by decide) ?_
      refine E_sub [0, 1, 2, 3, 4, 5] rfl ?_
      exact j_L_law_s_J547 hl hu hb28 hf
    have hf := ite_e s588 hf
    by_cases s589 : ((xs x5.toNatClampNeg) &&& 63 : Int32) = 5
    · have hf := ite_t s589 hf
      refine E_tableEq 603 dL_law_44 (v := 5) s589 (by decide) (by decide) (off := 559) (by decide) (by decide) ?_
      refine E_sub [0, 1, 2, 3, 4, 5] rfl ?_
      exact j_L_law_s_J603 hl hu hb28 hf
    have hf := ite_e s589 hf
    by_cases s590 : ((xs x5.toNatClampNeg) &&& 63 : Int32) = 6
    · have hf := ite_t s590 hf
      refine E_tableEq 616 dL_law_44 (v := 6) s590 (by decide) (by decide) (off := 572) (by decide) (by decide) ?_
      refine E_sub [0, 1, 2, 3, 4, 5] rfl ?_
      exact j_L_law_s_J616 hl hu hb28 hf
    have hf := ite_e s590 hf
    by_cases s591 : ((xs x5.toNatClampNeg) &&& 63 : Int32) = 7
    · have hf := ite_t s591 hf
      refine E_tableEq 672 dL_law_44 (v := 7) s591 (by decide) (by decide) (off := 628) (by decide) (by decide) ?_
      refine E_sub [0, 1, 2, 3, 4, 5] rfl ?_
      exact j_L_law_s_J672 hl hu hb28 hf
    have hf := ite_e s591 hf
    by_cases s592 : ((xs x5.toNatClampNeg) &&& 63 : Int32) = 8
    · have hf := ite_t s592 hf
      refine E_tableEq 685 dL_law_44 (v := 8) s592 (by decide) (by decide) (off := 641) (by decide) (by decide) ?_
      refine E_sub [0, 1, 2, 3, 4, 5] rfl ?_
      exact j_L_law_s_J685 hl hu hb28 hf
    have hf := ite_e s592 hf
    by_cases s593 : ((xs x5.toNatClampNeg) &&& 63 : Int32) = 9
    · have hf := ite_t s593 hf
      refine E_tableEq 765 dL_law_44 (v := 9) s593 (by decide) (by decide) (off := 721) (by decide) (by decide) ?_
      refine E_sub [0, 1, 2, 3, 4, 5] rfl ?_
      exact j_L_law_s_J765 hl hu hb28 hf
    have hf := ite_e s593 hf
    by_cases s594 : ((xs x5.toNatClampNeg) &&& 63 : Int32) = 10
    · have hf := ite_t s594 hf
      refine E_tableEq 778 dL_law_44 (v := 10) s594 (by decide) (by decide) (off := 734) (by decide) (by decide) ?_
      refine E_sub [0, 1, 2, 3, 4, 5] rfl ?_
      exact j_L_law_s_J778 hl hu hb28 hf
    have hf := ite_e s594 hf
    by_cases s595 : ((xs x5.toNatClampNeg) &&& 63 : Int32) = 11
    · have hf := ite_t s595 hf
      refine E_tableEq 834 dL_law_44 (v := 11) s595 (by decide) (by decide) (off := 790) (by decide) (by decide) ?_
      refine E_sub [0, 1, 2, 3, 4, 5] rfl ?_
      exact j_L_law_s_J834 hl hu hb28 hf
    have hf := ite_e s595 hf
    by_cases s596 : ((xs x5.toNatClampNeg) &&& 63 : Int32) = 12
    · have hf := ite_t s596 hf
      refine E_tableEq 902 dL_law_44 (v := 12) s596 (by decide) (by decide) (off := 858) (by decide) (by decide) ?_
      refine E_sub [0, 1, 2, 3, 4, 5] rfl ?_
      exact j_L_law_s_J902 hl hu hb28 hf
    have hf := ite_e s596 hf
    by_cases s597 : ((xs x5.toNatClampNeg) &&& 63 : Int32) = 13
    · have hf := ite_t s597 hf
      refine E_tableEq 970 dL_law_44 (v := 13) s597 (by decide) (by decide) (off := 926) (by decide) (by decide) ?_
      refine E_sub [0, 1, 2, 3, 4, 5] rfl ?_
      exact j_L_law_s_J970 hl hu hb28 hf
    have hf := ite_e s597 hf
    by_cases s598 : ((xs x5.toNatClampNeg) &&& 63 : Int32) = 14
    · have hf := ite_t s598 hf
      refine E_tableEq 983 dL_law_44 (v := 14) s598 (by decide) (by decide) (off := 939) (by decide) (by decide) ?_
      refine E_sub [0, 1, 2, 3, 4, 5] rfl ?_
      exact j_L_law_s_J983 hl hu hb28 hf
    have hf := ite_e s598 hf
    by_cases s599 : ((xs x5.toNatClampNeg) &&& 63 : Int32) = 15
    · have hf := ite_t s599 hf
      refine E_tableEq 1065 dL_law_44 (v := 15) s599 (by decide) (by decide) (off := 1021) (by decide) (by decide) ?_
      refine E_sub [0, 1, 2, 3, 4, 5] rfl ?_
      exact j_L_law_s_J1065 hl hu hb28 hf
    have hf := ite_e s599 hf
    by_cases s600 : ((xs x5.toNatClampNeg) &&& 63 : Int32) = 16
    · have hf := ite_t s600 hf
      refine E_tableEq 1175 dL_law_44 (v := 16) s600 (by decide) (by decide) (off := 1131) (by decide) (by decide) ?_
      refine E_sub [0, 1, 2, 3, 4, 5] rfl ?_
      exact j_L_law_s_J1175 hl hu hb28 hf
    have hf := ite_e s600 hf
    by_cases s601 : ((xs x5.toNatClampNeg) &&& 63 : Int32) = 17
    · have hf := ite_t s601 hf
      refine E_tableEq 1243 dL_law_44 (v := 17) s601 (by decide) (by decide) (off := 1199) (by decide) (by decide) ?_
      refine E_sub [0, 1, 2, 3, 4, 5] rfl ?_
      exact j_L_law_s_J1243 hl hu hb28 hf
    have hf := ite_e s601 hf
    by_cases s602 : ((xs x5.toNatClampNeg) &&& 63 : Int32) = 18
    · have hf := ite_t s602 hf
      refine E_tableEq 1311 dL_law_44 (v := 18) s602 (by decide) (by decide) (off := 1267) (by decide) (by decide) ?_
      refine E_sub [0, 1, 2, 3, 4, 5] rfl ?_
      exact j_L_law_s_J1311 hl hu hb28 hf
    have hf := ite_e s602 hf
    by_cases s603 : ((xs x5.toNatClampNeg) &&& 63 : Int32) = 19
    · have hf := ite_t s603 hf
      refine E_tableEq 1367 dL_law_44 (v := 19) s603 (by decide) (by decide) (off := 1323) (by decide) (by decide) ?_
      refine E_sub [0, 1, 2, 3, 4, 5] rfl ?_
      exact j_L_law_s_J1367 hl hu hb28 hf
    have hf := ite_e s603 hf
    by_cases s604 : ((xs x5.toNatClampNeg) &&& 63 : Int32) = 20
    · have hf := ite_t s604 hf
      refine E_tableEq 1442 dL_law_44 (v := 20) s604 (by decide) (by decide) (off := 1398) (by decide) (by decide) ?_
      refine E_sub [0, 1, 2, 3, 4, 5] rfl ?_
      exact j_L_law_s_J1442 hl hu hb28 hf
    have hf := ite_e s604 hf
    by_cases s605 : ((xs x5.toNatClampNeg) &&& 63 : Int32) = 21
    · have hf := ite_t s605 hf
      refine E_tableEq 1498 dL_law_44 (v := 21) s605 (by decide) (by decide) (off := 1454) (by decide) (by decide) ?_
      refine E_sub [0, 1, 2, 3, 4, 5] rfl ?_
      exact j_L_law_s_J1498 hl hu hb28 hf
    have hf := ite_e s605 hf
    by_cases s606 : ((xs x5.toNatClampNeg) &&& 63 : Int32) = 22
    · have hf := ite_t s606 hf
      refine E_tableEq 1566 dL_law_44 (v := 22) s606 (by decide) (by decide) (off := 1522) (by decide) (by decide) ?_
      refine E_sub [0, 1, 2, 3, 4, 5] rfl ?_
      exact j_L_law_s_J1566 hl hu hb28 hf
    have hf := ite_e s606 hf
    by_cases s607 : ((xs x5.toNatClampNeg) &&& 63 : Int32) = 23
    · have hf := ite_t s607 hf
      refine E_tableEq 1657 dL_law_44 (v := 23) s607 (by decide) (by decide) (off := 1613) (by decide) (by decide) ?_
      refine E_sub [0, 1, 2, 3, 4, 5] rfl ?_
      exact j_L_law_s_J1657 hl hu hb28 hf
    have hf := ite_e s607 hf
    by_cases s608 : ((xs x5.toNatClampNeg) &&& 63 : Int32) = 24
    · have hf := ite_t s608 hf
      refine E_tableEq 1713 dL_law_44 (v := 24) s608 (by decide) (by decide) (off := 1669) (by decide) (by decide) ?_
      refine E_sub [0, 1, 2, 3, 4, 5] rfl ?_
      exact j_L_law_s_J1713 hl hu hb28 hf
    have hf := ite_e s608 hf
    by_cases s609 : ((xs x5.toNatClampNeg) &&& 63 : Int32) = 25
    · have hf := ite_t s609 hf
      refine E_tableEq 1769 dL_law_44 (v := 25) s609 (by decide) (by decide) (off := 1725) (by decide) (by decide) ?_
      refine E_sub [0, 1, 2, 3, 4, 5] rfl ?_
      exact j_L_law_s_J1769 hl hu hb28 hf
    have hf := ite_e s609 hf
    by_cases s610 : ((xs x5.toNatClampNeg) &&& 63 : Int32) = 26
    · have hf := ite_t s610 hf
      refine E_tableEq 1825 dL_law_44 (v := 26) s610 (by decide) (by decide) (off := 1781) (by decide) (by decide) ?_
      refine E_sub [0, 1, 2, 3, 4, 5] rfl ?_
      exact j_L_law_s_J1825 hl hu hb28 hf
    have hf := ite_e s610 hf
    by_cases s611 : ((xs x5.toNatClampNeg) &&& 63 : Int32) = 27
    · have hf := ite_t s611 hf
      refine E_tableEq 1881 dL_law_44 (v := 27) s611 (by decide) (by decide) (off := 1837) (by decide) (by decide) ?_
      refine E_sub [0, 1, 2, 3, 4, 5] rfl ?_
      exact j_L_law_s_J1881 hl hu hb28 hf
    have hf := ite_e s611 hf
    by_cases s612 : ((xs x5.toNatClampNeg) &&& 63 : Int32) = 28
    · have hf := ite_t s612 hf
      refine E_tableEq 1949 dL_law_44 (v := 28) s612 (by decide) (by decide) (off := 1905) (by decide) (by decide) ?_
      refine E_sub [0, 1, 2, 3, 4, 5] rfl ?_
      exact j_L_law_s_J1949 hl hu hb28 hf
    have hf := ite_e s612 hf
    by_cases s613 : ((xs x5.toNatClampNeg) &&& 63 : Int32) = 29
    · have hf := ite_t s613 hf
      refine E_tableEq 2017 dL_law_44 (v := 29) s613 (by decide) (by decide) (off := 1973) (by decide) (by decide) ?_
      refine E_sub [0, 1, 2, 3, 4, 5] rfl ?_
      exact j_L_law_s_J2017 hl hu hb28 hf
    have hf := ite_e s613 hf
    by_cases s614 : ((xs x5.toNatClampNeg) &&& 63 : Int32) = 30
    · have hf := ite_t s614 hf
      refine E_tableEq 2097 dL_law_44 (v := 30) s614 (by decide) (by decide) (off := 2053) (by decide) (by decide) ?_
      refine E_sub [0, 1, 2, 3, 4, 5] rfl ?_
      exact j_L_law_s_J2097 hl hu hb28 hf
    have hf := ite_e s614 hf
    by_cases s615 : ((xs x5.toNatClampNeg) &&& 63 : Int32) = 31
    · have hf := ite_t s615 hf
      refine E_tableEq 2177 dL_law_44 (v := 31) s615 (by decide) (by decide) (off := 2133) (by decide) (by decide) ?_
      refine E_sub [0, 1, 2, 3, 4, 5] rfl ?_
      exact j_L_law_s_J2177 hl hu hb28 hf
    have hf := ite_e s615 hf
    by_cases s616 : ((xs x5.toNatClampNeg) &&& 63 : Int32) = 32
    · have hf := ite_t s616 hf
      refine E_tableEq 2221 dL_law_44 (v := 32) s616 (by decide) (by decide) (off := 2177) (by decide) (by decide) ?_
      refine E_sub [0, 1, 2, 3, 4, 5] rfl ?_
      exact j_L_law_s_J2221 hl hu hb28 hf
    have hf := ite_e s616 hf
    by_cases s617 : ((xs x5.toNatClampNeg) &&& 63 : Int32) = 33
    · have hf := ite_t s617 hf
      refine E_tableEq 2277 dL_law_44 (v := 33) s617 (by decide) (by decide) (off := 2233) (by decide) (by decide) ?_
      refine E_sub [0, 1, 2, 3, 4, 5] rfl ?_
      exact j_L_law_s_J2277 hl hu hb28 hf
    have hf := ite_e s617 hf
    by_cases s618 : ((xs x5.toNatClampNeg) &&& 63 : Int32) = 34
    · have hf := ite_t s618 hf
      refine E_tableEq 2290 dL_law_44 (v := 34) s618 (by decide) (by decide) (off := 2246) (by decide) (by decide) ?_
      refine E_sub [0, 1, 2, 3, 4, 5] rfl ?_
      exact j_L_law_s_J2290 hl hu hb28 hf
    have hf := ite_e s618 hf
    by_cases s619 : ((xs x5.toNatClampNeg) &&& 63 : Int32) = 35
    · have hf := ite_t s619 hf
      refine E_tableEq 2374 dL_law_44 (v := 35) s619 (by decide) (by decide) (off := 2330) (by decide) (by decide) ?_
      refine E_sub [0, 1, 2, 3, 4, 5] rfl ?_
      exact j_L_law_s_J2374 hl hu hb28 hf
    have hf := ite_e s619 hf
    by_cases s620 : ((xs x5.toNatClampNeg) &&& 63 : Int32) = 36
    · have hf := ite_t s620 hf
      refine E_tableEq 2430 dL_law_44 (v := 36) s620 (by decide) (by decide) (off := 2386) (by decide) (by decide) ?_
      refine E_sub [0, 1, 2, 3, 4, 5] rfl ?_
      exact j_L_law_s_J2430 hl hu hb28 hf
    have hf := ite_e s620 hf
    by_cases s621 : ((xs x5.toNatClampNeg) &&& 63 : Int32) = 37
    · have hf := ite_t s621 hf
      refine E_tableEq 2498 dL_law_44 (v := 37) s621 (by decide) (by decide) (off := 2454) (by decide) (by decide) ?_
      refine E_sub [0, 1, 2, 3, 4, 5] rfl ?_
      exact j_L_law_s_J2498 hl hu hb28 hf
    have hf := ite_e s621 hf
    by_cases s622 : ((xs x5.toNatClampNeg) &&& 63 : Int32) = 38
    · have hf := ite_t s622 hf
      refine E_tableEq 2566 dL_law_44 (v := 38) s622 (by decide) (by decide) (off := 2522) (by decide) (by decide) ?_
      refine E_sub [0, 1, 2, 3, 4, 5] rfl ?_
      exact j_L_law_s_J2566 hl hu hb28 hf
    have hf := ite_e s622 hf
    by_cases s623 : ((xs x5.toNatClampNeg) &&& 63 : Int32) = 39
    · have hf := ite_t s623 hf
      refine E_tableEq 2634 dL_law_44 (v := 39) s623 (by decide) (by decide) (off := 2590) (by decide) (by decide) ?_
      refine E_sub [0, 1, 2, 3, 4, 5] rfl ?_
      exact j_L_law_s_J2634 hl hu hb28 hf
    have hf := ite_e s623 hf
    by_cases s624 : ((xs x5.toNatClampNeg) &&& 63 : Int32) = 40
    · have hf := ite_t s624 hf
      refine E_tableEq 2690 dL_law_44 (v := 40) s624 (by decide) (by decide) (off := 2646) (by decide) (by decide) ?_
      refine E_sub [0, 1, 2, 3, 4, 5] rfl ?_
      exact j_L_law_s_J2690 hl hu hb28 hf
    have hf := ite_e s624 hf
    by_cases s625 : ((xs x5.toNatClampNeg) &&& 63 : Int32) = 41
    · have hf := ite_t s625 hf
      refine E_tableEq 2746 dL_law_44 (v := 41) s625 (by decide) (by decide) (off := 2702) (by decide) (by decide) ?_
      refine E_sub [0, 1, 2, 3, 4, 5] rfl ?_
      exact j_L_law_s_J2746 hl hu hb28 hf
    have hf := ite_e s625 hf
    by_cases s626 : ((xs x5.toNatClampNeg) &&& 63 : Int32) = 42
    · have hf := ite_t s626 hf
      refine E_tableEq 2802 dL_law_44 (v := 42) s626 (by decide) (by decide) (off := 2758) (by decide) (by decide) ?_
      refine E_sub [0, 1, 2, 3, 4, 5] rfl ?_
      exact j_L_law_s_J2802 hl hu hb28 hf
    have hf := ite_e s626 hf
    by_cases s627 : ((xs x5.toNatClampNeg) &&& 63 : Int32) = 43
    · have hf := ite_t s627 hf
      refine E_tableEq 2880 dL_law_44 (v := 43) s627 (by decide) (by decide) (off := 2836) (by decide) (by decide) ?_
      refine E_sub [0, 1, 2, 3, 4, 5] rfl ?_
      exact j_L_law_s_J2880 hl hu hb28 hf
    have hf := ite_e s627 hf
    by_cases s628 : ((xs x5.toNatClampNeg) &&& 63 : Int32) = 44
    · have hf := ite_t s628 hf
      refine E_tableEq 2945 dL_law_44 (v := 44) s628 (by decide) (by decide) (off := 2901) (by decide) (by decide) ?_
      refine E_sub [0, 1, 2, 3, 4, 5] rfl ?_
      exact j_L_law_s_J2945 hl hu hb28 hf
    have hf := ite_e s628 hf
    by_cases s629 : ((xs x5.toNatClampNeg) &&& 63 : Int32) = 45
    · have hf := ite_t s629 hf
      refine E_tableEq 2959 dL_law_44 (v := 45) s629 (by decide) (by decide) (off := 2915) (by decide) (by decide) ?_
      refine E_sub [0, 1, 2, 3, 4, 5] rfl ?_
      exact j_L_law_s_J2959 hl hu hb28 hf
    have hf := ite_e s629 hf
    have hd630 : E l g z_L_law 2972 [(0, .ref b), (1, .ref (gaC g 0)), (2, .ref (gaM g 0)), (3, .ref (gao g 0)), (4, .ref (gao g 1)), (5, .int x5)] [] (μ, ν, o, dd) (u + 0) (Qlaw g b Ls xs) := by
      refine E_iinc 2975 [(5, .int (x5 + 5)), (0, .ref b), (1, .ref (gaC g 0)), (2, .ref (gaM g 0)), (3, .ref (gao g 0)), (4, .ref (gao g 1))] 5 (v := x5 + 5) dL_law_2972 rfl (by rw [cst_iconst5]) (by decide) rfl rfl ?_
      refine E_goto 28 dL_law_2975 (by decide) ?_
      refine E_sub [1, 2, 3, 4, 5, 0] rfl ?_
      refine E_up (u' := u + 4) (by omega) ?_
      exact hb28 (x5 + 5) μ ν o dd hf
    rcases sw_0_45 ((xs x5.toNatClampNeg) &&& 63) with ho | ho | ho | ho | ho | ho | ho | ho | ho | ho | ho | ho | ho | ho | ho | ho | ho | ho | ho | ho | ho | ho | ho | ho | ho | ho | ho | ho | ho | ho | ho | ho | ho | ho | ho | ho | ho | ho | ho | ho | ho | ho | ho | ho | ho | ho | ho
    · exact E_tableOut 2972 dL_law_44 ho (by decide) hd630
    · exact absurd ho s584
    · exact absurd ho s585
    · exact absurd ho s586
    · exact absurd ho s587
    · exact absurd ho s588
    · exact absurd ho s589
    · exact absurd ho s590
    · exact absurd ho s591
    · exact absurd ho s592
    · exact absurd ho s593
    · exact absurd ho s594
    · exact absurd ho s595
    · exact absurd ho s596
    · exact absurd ho s597
    · exact absurd ho s598
    · exact absurd ho s599
    · exact absurd ho s600
    · exact absurd ho s601
    · exact absurd ho s602
    · exact absurd ho s603
    · exact absurd ho s604
    · exact absurd ho s605
    · exact absurd ho s606
    · exact absurd ho s607
    · exact absurd ho s608
    · exact absurd ho s609
    · exact absurd ho s610
    · exact absurd ho s611
    · exact absurd ho s612
    · exact absurd ho s613
    · exact absurd ho s614
    · exact absurd ho s615
    · exact absurd ho s616
    · exact absurd ho s617
    · exact absurd ho s618
    · exact absurd ho s619
    · exact absurd ho s620
    · exact absurd ho s621
    · exact absurd ho s622
    · exact absurd ho s623
    · exact absurd ho s624
    · exact absurd ho s625
    · exact absurd ho s626
    · exact absurd ho s627
    · exact absurd ho s628
    · exact absurd ho s629
set_option maxRecDepth 100000 in
set_option maxHeartbeats 4000000 in
theorem c_L_loop {l : Launch} {g : Gt} {b Ls : Nat} {xs : Nat → Int32} (hl : l.stackTraces = false) : ∀ (n u : Nat) (x5 : Int32) (μ : Mm) (ν : Mm) (o : Nat → Int64) (dd : Nat → UInt64), u + 4 * n ≤ 2090 → f_L_loop Ls xs n x5 μ ν o dd = some () → E l g z_L_law 28 [(0, .ref b), (1, .ref (gaC g 0)), (2, .ref (gaM g 0)), (3, .ref (gao g 0)), (4, .ref (gao g 1)), (5, .int x5)] [] (μ, ν, o, dd) u (Qlaw g b Ls xs) := by
  intro n
  induction n with
  | zero => intro u x5 μ ν o dd hu hf; cases hf
  | succ n ih =>
    intro u x5 μ ν o dd hu hf
    exact c_L_round hl (by omega) (fun v5 μ' ν' o' dd' h => ih (u + 4) v5 μ' ν' o' dd' (by omega) h) hf
