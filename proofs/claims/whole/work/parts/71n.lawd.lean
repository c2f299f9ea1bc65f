theorem dL_law_2116 : decode cL_law 2116 = .ok (.lcmp, 1) := by decide +kernel
theorem dL_law_2117 : decode cL_law 2117 = .ok (.ifCond .eq 5, 3) := by decide +kernel
theorem dL_law_2120 : decode cL_law 2120 = .ok (.iconst 0, 1) := by decide +kernel
theorem dL_law_2121 : decode cL_law 2121 = .ok (.ireturn, 1) := by decide +kernel
theorem dL_law_2122 : decode cL_law 2122 = .ok (.goto 244, 3) := by decide +kernel
theorem dL_law_2125 : decode cL_law 2125 = .ok (.aload_n 1, 1) := by decide +kernel
theorem dL_law_2126 : decode cL_law 2126 = .ok (.invokevirtual 221, 3) := by decide +kernel
theorem dL_law_2129 : decode cL_law 2129 = .ok (.aload_n 2, 1) := by decide +kernel
theorem dL_law_2130 : decode cL_law 2130 = .ok (.invokevirtual 224, 3) := by decide +kernel
theorem dL_law_2133 : decode cL_law 2133 = .ok (.if_icmp .eq 233, 3) := by decide +kernel
theorem dL_law_2136 : decode cL_law 2136 = .ok (.iconst 0, 1) := by decide +kernel
theorem dL_law_2137 : decode cL_law 2137 = .ok (.ireturn, 1) := by decide +kernel
theorem dL_law_2138 : decode cL_law 2138 = .ok (.aload_n 1, 1) := by decide +kernel
theorem dL_law_2139 : decode cL_law 2139 = .ok (.aload_n 3, 1) := by decide +kernel
theorem dL_law_2140 : decode cL_law 2140 = .ok (.invokestatic 225, 3) := by decide +kernel
theorem dL_law_2143 : decode cL_law 2143 = .ok (.istore 5, 2) := by decide +kernel
theorem dL_law_2145 : decode cL_law 2145 = .ok (.aload_n 2, 1) := by decide +kernel
theorem dL_law_2146 : decode cL_law 2146 = .ok (.invokevirtual 228, 3) := by decide +kernel
theorem dL_law_2149 : decode cL_law 2149 = .ok (.istore 6, 2) := by decide +kernel
theorem dL_law_2151 : decode cL_law 2151 = .ok (.aload_n 2, 1) := by decide +kernel
theorem dL_law_2152 : decode cL_law 2152 = .ok (.invokevirtual 124, 3) := by decide +kernel
theorem dL_law_2155 : decode cL_law 2155 = .ok (.iload 5, 2) := by decide +kernel
theorem dL_law_2157 : decode cL_law 2157 = .ok (.if_icmp .eq 5, 3) := by decide +kernel
theorem dL_law_2160 : decode cL_law 2160 = .ok (.iconst 0, 1) := by decide +kernel
theorem dL_law_2161 : decode cL_law 2161 = .ok (.ireturn, 1) := by decide +kernel
theorem dL_law_2162 : decode cL_law 2162 = .ok (.iload 5, 2) := by decide +kernel
theorem dL_law_2164 : decode cL_law 2164 = .ok (.ifCond .ne 15, 3) := by decide +kernel
theorem dL_law_2167 : decode cL_law 2167 = .ok (.aload_n 3, 1) := by decide +kernel
theorem dL_law_2168 : decode cL_law 2168 = .ok (.iconst 0, 1) := by decide +kernel
theorem dL_law_2169 : decode cL_law 2169 = .ok (.laload, 1) := by decide +kernel
theorem dL_law_2170 : decode cL_law 2170 = .ok (.iload 6, 2) := by decide +kernel
theorem dL_law_2172 : decode cL_law 2172 = .ok (.i2l, 1) := by decide +kernel
theorem dL_law_2173 : decode cL_law 2173 = .ok (.lcmp, 1) := by decide +kernel
theorem dL_law_2174 : decode cL_law 2174 = .ok (.ifCond .eq 5, 3) := by decide +kernel
theorem dL_law_2177 : decode cL_law 2177 = .ok (.iconst 0, 1) := by decide +kernel
theorem dL_law_2178 : decode cL_law 2178 = .ok (.ireturn, 1) := by decide +kernel
theorem dL_law_2179 : decode cL_law 2179 = .ok (.goto 187, 3) := by decide +kernel
theorem dL_law_2182 : decode cL_law 2182 = .ok (.aload_n 1, 1) := by decide +kernel
theorem dL_law_2183 : decode cL_law 2183 = .ok (.aload_n 3, 1) := by decide +kernel
theorem dL_law_2184 : decode cL_law 2184 = .ok (.invokestatic 229, 3) := by decide +kernel
theorem dL_law_2187 : decode cL_law 2187 = .ok (.istore 5, 2) := by decide +kernel
theorem dL_law_2189 : decode cL_law 2189 = .ok (.aload_n 2, 1) := by decide +kernel
theorem dL_law_2190 : decode cL_law 2190 = .ok (.invokevirtual 231, 3) := by decide +kernel
theorem dL_law_2193 : decode cL_law 2193 = .ok (.istore 6, 2) := by decide +kernel
theorem dL_law_2195 : decode cL_law 2195 = .ok (.aload_n 2, 1) := by decide +kernel
theorem dL_law_2196 : decode cL_law 2196 = .ok (.invokevirtual 124, 3) := by decide +kernel
theorem dL_law_2199 : decode cL_law 2199 = .ok (.iload 5, 2) := by decide +kernel
theorem dL_law_2201 : decode cL_law 2201 = .ok (.if_icmp .eq 5, 3) := by decide +kernel
theorem dL_law_2204 : decode cL_law 2204 = .ok (.iconst 0, 1) := by decide +kernel
theorem dL_law_2205 : decode cL_law 2205 = .ok (.ireturn, 1) := by decide +kernel
theorem dL_law_2206 : decode cL_law 2206 = .ok (.iload 5, 2) := by decide +kernel
theorem dL_law_2208 : decode cL_law 2208 = .ok (.ifCond .ne 15, 3) := by decide +kernel
theorem dL_law_2211 : decode cL_law 2211 = .ok (.aload_n 3, 1) := by decide +kernel
theorem dL_law_2212 : decode cL_law 2212 = .ok (.iconst 0, 1) := by decide +kernel
theorem dL_law_2213 : decode cL_law 2213 = .ok (.laload, 1) := by decide +kernel
theorem dL_law_2214 : decode cL_law 2214 = .ok (.iload 6, 2) := by decide +kernel
theorem dL_law_2216 : decode cL_law 2216 = .ok (.i2l, 1) := by decide +kernel
theorem dL_law_2217 : decode cL_law 2217 = .ok (.lcmp, 1) := by decide +kernel
theorem dL_law_2218 : decode cL_law 2218 = .ok (.ifCond .eq 5, 3) := by decide +kernel
theorem dL_law_2221 : decode cL_law 2221 = .ok (.iconst 0, 1) := by decide +kernel
theorem dL_law_2222 : decode cL_law 2222 = .ok (.ireturn, 1) := by decide +kernel
theorem dL_law_2223 : decode cL_law 2223 = .ok (.goto 143, 3) := by decide +kernel
theorem dL_law_2226 : decode cL_law 2226 = .ok (.aload_n 1, 1) := by decide +kernel
theorem dL_law_2227 : decode cL_law 2227 = .ok (.aload_n 0, 1) := by decide +kernel
theorem dL_law_2228 : decode cL_law 2228 = .ok (.iload 4, 2) := by decide +kernel
theorem dL_law_2230 : decode cL_law 2230 = .ok (.iconst 1, 1) := by decide +kernel
theorem dL_law_2231 : decode cL_law 2231 = .ok (.iadd, 1) := by decide +kernel
theorem dL_law_2232 : decode cL_law 2232 = .ok (.iaload, 1) := by decide +kernel
theorem dL_law_2233 : decode cL_law 2233 = .ok (.aload_n 3, 1) := by decide +kernel
theorem dL_law_2234 : decode cL_law 2234 = .ok (.invokestatic 232, 3) := by decide +kernel
theorem dL_law_2237 : decode cL_law 2237 = .ok (.istore 5, 2) := by decide +kernel
theorem dL_law_2239 : decode cL_law 2239 = .ok (.aload_n 2, 1) := by decide +kernel
theorem dL_law_2240 : decode cL_law 2240 = .ok (.aload_n 0, 1) := by decide +kernel
theorem dL_law_2241 : decode cL_law 2241 = .ok (.iload 4, 2) := by decide +kernel
theorem dL_law_2243 : decode cL_law 2243 = .ok (.iconst 1, 1) := by decide +kernel
theorem dL_law_2244 : decode cL_law 2244 = .ok (.iadd, 1) := by decide +kernel
theorem dL_law_2245 : decode cL_law 2245 = .ok (.iaload, 1) := by decide +kernel
theorem dL_law_2246 : decode cL_law 2246 = .ok (.invokevirtual 234, 3) := by decide +kernel
theorem dL_law_2249 : decode cL_law 2249 = .ok (.istore 6, 2) := by decide +kernel
theorem dL_law_2251 : decode cL_law 2251 = .ok (.aload_n 2, 1) := by decide +kernel
theorem dL_law_2252 : decode cL_law 2252 = .ok (.invokevirtual 124, 3) := by decide +kernel
theorem dL_law_2255 : decode cL_law 2255 = .ok (.iload 5, 2) := by decide +kernel
theorem dL_law_2257 : decode cL_law 2257 = .ok (.if_icmp .eq 5, 3) := by decide +kernel
theorem dL_law_2260 : decode cL_law 2260 = .ok (.iconst 0, 1) := by decide +kernel
theorem dL_law_2261 : decode cL_law 2261 = .ok (.ireturn, 1) := by decide +kernel
theorem dL_law_2262 : decode cL_law 2262 = .ok (.iload 5, 2) := by decide +kernel
theorem dL_law_2264 : decode cL_law 2264 = .ok (.ifCond .ne 15, 3) := by decide +kernel
theorem dL_law_2267 : decode cL_law 2267 = .ok (.aload_n 3, 1) := by decide +kernel
theorem dL_law_2268 : decode cL_law 2268 = .ok (.iconst 0, 1) := by decide +kernel
theorem dL_law_2269 : decode cL_law 2269 = .ok (.laload, 1) := by decide +kernel
theorem dL_law_2270 : decode cL_law 2270 = .ok (.iload 6, 2) := by decide +kernel
theorem dL_law_2272 : decode cL_law 2272 = .ok (.i2l, 1) := by decide +kernel
theorem dL_law_2273 : decode cL_law 2273 = .ok (.lcmp, 1) := by decide +kernel
theorem dL_law_2274 : decode cL_law 2274 = .ok (.ifCond .eq 5, 3) := by decide +kernel
theorem dL_law_2277 : decode cL_law 2277 = .ok (.iconst 0, 1) := by decide +kernel
theorem dL_law_2278 : decode cL_law 2278 = .ok (.ireturn, 1) := by decide +kernel
theorem dL_law_2279 : decode cL_law 2279 = .ok (.goto 87, 3) := by decide +kernel
theorem dL_law_2282 : decode cL_law 2282 = .ok (.aload_n 1, 1) := by decide +kernel
theorem dL_law_2283 : decode cL_law 2283 = .ok (.invokevirtual 235, 3) := by decide +kernel
theorem dL_law_2286 : decode cL_law 2286 = .ok (.aload_n 2, 1) := by decide +kernel
