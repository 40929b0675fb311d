theorem dL_law_2114 : decode cL_law 2114 = .ok (.iload 4, 2) := by decide +kernel
theorem dL_law_2116 : decode cL_law 2116 = .ok (.iconst 1, 1) := by decide +kernel
theorem dL_law_2117 : decode cL_law 2117 = .ok (.iadd, 1) := by decide +kernel
theorem dL_law_2118 : decode cL_law 2118 = .ok (.iaload, 1) := by decide +kernel
theorem dL_law_2119 : decode cL_law 2119 = .ok (.aload_n 0, 1) := by decide +kernel
theorem dL_law_2120 : decode cL_law 2120 = .ok (.iload 4, 2) := by decide +kernel
theorem dL_law_2122 : decode cL_law 2122 = .ok (.iconst 2, 1) := by decide +kernel
theorem dL_law_2123 : decode cL_law 2123 = .ok (.iadd, 1) := by decide +kernel
theorem dL_law_2124 : decode cL_law 2124 = .ok (.iaload, 1) := by decide +kernel
theorem dL_law_2125 : decode cL_law 2125 = .ok (.aload_n 0, 1) := by decide +kernel
theorem dL_law_2126 : decode cL_law 2126 = .ok (.iload 4, 2) := by decide +kernel
theorem dL_law_2128 : decode cL_law 2128 = .ok (.iconst 3, 1) := by decide +kernel
theorem dL_law_2129 : decode cL_law 2129 = .ok (.iadd, 1) := by decide +kernel
theorem dL_law_2130 : decode cL_law 2130 = .ok (.iaload, 1) := by decide +kernel
theorem dL_law_2131 : decode cL_law 2131 = .ok (.invokevirtual 265, 3) := by decide +kernel
theorem dL_law_2134 : decode cL_law 2134 = .ok (.if_icmp .eq 553, 3) := by decide +kernel
theorem dL_law_2137 : decode cL_law 2137 = .ok (.iconst 0, 1) := by decide +kernel
theorem dL_law_2138 : decode cL_law 2138 = .ok (.ireturn, 1) := by decide +kernel
theorem dL_law_2139 : decode cL_law 2139 = .ok (.aload_n 1, 1) := by decide +kernel
theorem dL_law_2140 : decode cL_law 2140 = .ok (.aload_n 0, 1) := by decide +kernel
theorem dL_law_2141 : decode cL_law 2141 = .ok (.iload 4, 2) := by decide +kernel
theorem dL_law_2143 : decode cL_law 2143 = .ok (.iconst 1, 1) := by decide +kernel
theorem dL_law_2144 : decode cL_law 2144 = .ok (.iadd, 1) := by decide +kernel
theorem dL_law_2145 : decode cL_law 2145 = .ok (.iaload, 1) := by decide +kernel
theorem dL_law_2146 : decode cL_law 2146 = .ok (.aload_n 0, 1) := by decide +kernel
theorem dL_law_2147 : decode cL_law 2147 = .ok (.iload 4, 2) := by decide +kernel
theorem dL_law_2149 : decode cL_law 2149 = .ok (.iconst 2, 1) := by decide +kernel
theorem dL_law_2150 : decode cL_law 2150 = .ok (.iadd, 1) := by decide +kernel
theorem dL_law_2151 : decode cL_law 2151 = .ok (.iaload, 1) := by decide +kernel
theorem dL_law_2152 : decode cL_law 2152 = .ok (.aload_n 0, 1) := by decide +kernel
theorem dL_law_2153 : decode cL_law 2153 = .ok (.iload 4, 2) := by decide +kernel
theorem dL_law_2155 : decode cL_law 2155 = .ok (.iconst 3, 1) := by decide +kernel
theorem dL_law_2156 : decode cL_law 2156 = .ok (.iadd, 1) := by decide +kernel
theorem dL_law_2157 : decode cL_law 2157 = .ok (.iaload, 1) := by decide +kernel
theorem dL_law_2158 : decode cL_law 2158 = .ok (.invokevirtual 266, 3) := by decide +kernel
theorem dL_law_2161 : decode cL_law 2161 = .ok (.aload_n 2, 1) := by decide +kernel
theorem dL_law_2162 : decode cL_law 2162 = .ok (.aload_n 0, 1) := by decide +kernel
theorem dL_law_2163 : decode cL_law 2163 = .ok (.iload 4, 2) := by decide +kernel
theorem dL_law_2165 : decode cL_law 2165 = .ok (.iconst 1, 1) := by decide +kernel
theorem dL_law_2166 : decode cL_law 2166 = .ok (.iadd, 1) := by decide +kernel
theorem dL_law_2167 : decode cL_law 2167 = .ok (.iaload, 1) := by decide +kernel
theorem dL_law_2168 : decode cL_law 2168 = .ok (.aload_n 0, 1) := by decide +kernel
theorem dL_law_2169 : decode cL_law 2169 = .ok (.iload 4, 2) := by decide +kernel
theorem dL_law_2171 : decode cL_law 2171 = .ok (.iconst 2, 1) := by decide +kernel
theorem dL_law_2172 : decode cL_law 2172 = .ok (.iadd, 1) := by decide +kernel
theorem dL_law_2173 : decode cL_law 2173 = .ok (.iaload, 1) := by decide +kernel
theorem dL_law_2174 : decode cL_law 2174 = .ok (.aload_n 0, 1) := by decide +kernel
theorem dL_law_2175 : decode cL_law 2175 = .ok (.iload 4, 2) := by decide +kernel
theorem dL_law_2177 : decode cL_law 2177 = .ok (.iconst 3, 1) := by decide +kernel
theorem dL_law_2178 : decode cL_law 2178 = .ok (.iadd, 1) := by decide +kernel
theorem dL_law_2179 : decode cL_law 2179 = .ok (.iaload, 1) := by decide +kernel
theorem dL_law_2180 : decode cL_law 2180 = .ok (.invokevirtual 270, 3) := by decide +kernel
theorem dL_law_2183 : decode cL_law 2183 = .ok (.if_icmp .eq 504, 3) := by decide +kernel
theorem dL_law_2186 : decode cL_law 2186 = .ok (.iconst 0, 1) := by decide +kernel
theorem dL_law_2187 : decode cL_law 2187 = .ok (.ireturn, 1) := by decide +kernel
theorem dL_law_2188 : decode cL_law 2188 = .ok (.aload_n 1, 1) := by decide +kernel
theorem dL_law_2189 : decode cL_law 2189 = .ok (.aload_n 0, 1) := by decide +kernel
theorem dL_law_2190 : decode cL_law 2190 = .ok (.iload 4, 2) := by decide +kernel
theorem dL_law_2192 : decode cL_law 2192 = .ok (.iconst 1, 1) := by decide +kernel
theorem dL_law_2193 : decode cL_law 2193 = .ok (.iadd, 1) := by decide +kernel
theorem dL_law_2194 : decode cL_law 2194 = .ok (.iaload, 1) := by decide +kernel
theorem dL_law_2195 : decode cL_law 2195 = .ok (.invokevirtual 271, 3) := by decide +kernel
theorem dL_law_2198 : decode cL_law 2198 = .ok (.aload_n 2, 1) := by decide +kernel
theorem dL_law_2199 : decode cL_law 2199 = .ok (.aload_n 0, 1) := by decide +kernel
theorem dL_law_2200 : decode cL_law 2200 = .ok (.iload 4, 2) := by decide +kernel
theorem dL_law_2202 : decode cL_law 2202 = .ok (.iconst 1, 1) := by decide +kernel
theorem dL_law_2203 : decode cL_law 2203 = .ok (.iadd, 1) := by decide +kernel
theorem dL_law_2204 : decode cL_law 2204 = .ok (.iaload, 1) := by decide +kernel
theorem dL_law_2205 : decode cL_law 2205 = .ok (.invokevirtual 274, 3) := by decide +kernel
theorem dL_law_2208 : decode cL_law 2208 = .ok (.if_icmp .eq 479, 3) := by decide +kernel
theorem dL_law_2211 : decode cL_law 2211 = .ok (.iconst 0, 1) := by decide +kernel
theorem dL_law_2212 : decode cL_law 2212 = .ok (.ireturn, 1) := by decide +kernel
theorem dL_law_2213 : decode cL_law 2213 = .ok (.aload_n 1, 1) := by decide +kernel
theorem dL_law_2214 : decode cL_law 2214 = .ok (.invokevirtual 275, 3) := by decide +kernel
theorem dL_law_2217 : decode cL_law 2217 = .ok (.aload_n 2, 1) := by decide +kernel
theorem dL_law_2218 : decode cL_law 2218 = .ok (.invokevirtual 278, 3) := by decide +kernel
theorem dL_law_2221 : decode cL_law 2221 = .ok (.if_icmp .eq 466, 3) := by decide +kernel
theorem dL_law_2224 : decode cL_law 2224 = .ok (.iconst 0, 1) := by decide +kernel
theorem dL_law_2225 : decode cL_law 2225 = .ok (.ireturn, 1) := by decide +kernel
theorem dL_law_2226 : decode cL_law 2226 = .ok (.aload_n 1, 1) := by decide +kernel
theorem dL_law_2227 : decode cL_law 2227 = .ok (.aload_n 0, 1) := by decide +kernel
theorem dL_law_2228 : decode cL_law 2228 = .ok (.iload 4, 2) := by decide +kernel
theorem dL_law_2230 : decode cL_law 2230 = .ok (.iconst 1, 1) := by decide +kernel
theorem dL_law_2231 : decode cL_law 2231 = .ok (.iadd, 1) := by decide +kernel
theorem dL_law_2232 : decode cL_law 2232 = .ok (.iaload, 1) := by decide +kernel
theorem dL_law_2233 : decode cL_law 2233 = .ok (.aload_n 3, 1) := by decide +kernel
theorem dL_law_2234 : decode cL_law 2234 = .ok (.invokestatic 279, 3) := by decide +kernel
theorem dL_law_2237 : decode cL_law 2237 = .ok (.istore 5, 2) := by decide +kernel
theorem dL_law_2239 : decode cL_law 2239 = .ok (.aload_n 2, 1) := by decide +kernel
theorem dL_law_2240 : decode cL_law 2240 = .ok (.aload_n 0, 1) := by decide +kernel
theorem dL_law_2241 : decode cL_law 2241 = .ok (.iload 4, 2) := by decide +kernel
theorem dL_law_2243 : decode cL_law 2243 = .ok (.iconst 1, 1) := by decide +kernel
theorem dL_law_2244 : decode cL_law 2244 = .ok (.iadd, 1) := by decide +kernel
theorem dL_law_2245 : decode cL_law 2245 = .ok (.iaload, 1) := by decide +kernel
theorem dL_law_2246 : decode cL_law 2246 = .ok (.invokevirtual 281, 3) := by decide +kernel
theorem dL_law_2249 : decode cL_law 2249 = .ok (.istore 6, 2) := by decide +kernel
theorem dL_law_2251 : decode cL_law 2251 = .ok (.aload_n 2, 1) := by decide +kernel
theorem dL_law_2252 : decode cL_law 2252 = .ok (.invokevirtual 143, 3) := by decide +kernel
theorem dL_law_2255 : decode cL_law 2255 = .ok (.iload 5, 2) := by decide +kernel
theorem dL_law_2257 : decode cL_law 2257 = .ok (.if_icmp .eq 5, 3) := by decide +kernel
theorem dL_law_2260 : decode cL_law 2260 = .ok (.iconst 0, 1) := by decide +kernel
theorem dL_law_2261 : decode cL_law 2261 = .ok (.ireturn, 1) := by decide +kernel
theorem dL_law_2262 : decode cL_law 2262 = .ok (.iload 5, 2) := by decide +kernel
theorem dL_law_2264 : decode cL_law 2264 = .ok (.ifCond .ne 15, 3) := by decide +kernel
theorem dL_law_2267 : decode cL_law 2267 = .ok (.aload_n 3, 1) := by decide +kernel
theorem dL_law_2268 : decode cL_law 2268 = .ok (.iconst 0, 1) := by decide +kernel
theorem dL_law_2269 : decode cL_law 2269 = .ok (.laload, 1) := by decide +kernel
theorem dL_law_2270 : decode cL_law 2270 = .ok (.iload 6, 2) := by decide +kernel
theorem dL_law_2272 : decode cL_law 2272 = .ok (.i2l, 1) := by decide +kernel
theorem dL_law_2273 : decode cL_law 2273 = .ok (.lcmp, 1) := by decide +kernel
theorem dL_law_2274 : decode cL_law 2274 = .ok (.ifCond .eq 5, 3) := by decide +kernel
theorem dL_law_2277 : decode cL_law 2277 = .ok (.iconst 0, 1) := by decide +kernel
theorem dL_law_2278 : decode cL_law 2278 = .ok (.ireturn, 1) := by decide +kernel
theorem dL_law_2279 : decode cL_law 2279 = .ok (.goto 408, 3) := by decide +kernel
theorem dL_law_2282 : decode cL_law 2282 = .ok (.aload_n 1, 1) := by decide +kernel
theorem dL_law_2283 : decode cL_law 2283 = .ok (.aload_n 0, 1) := by decide +kernel
theorem dL_law_2284 : decode cL_law 2284 = .ok (.iload 4, 2) := by decide +kernel
theorem dL_law_2286 : decode cL_law 2286 = .ok (.iconst 1, 1) := by decide +kernel
theorem dL_law_2287 : decode cL_law 2287 = .ok (.iadd, 1) := by decide +kernel
theorem dL_law_2288 : decode cL_law 2288 = .ok (.iaload, 1) := by decide +kernel
theorem dL_law_2289 : decode cL_law 2289 = .ok (.aload_n 3, 1) := by decide +kernel
theorem dL_law_2290 : decode cL_law 2290 = .ok (.invokestatic 282, 3) := by decide +kernel
theorem dL_law_2293 : decode cL_law 2293 = .ok (.istore 5, 2) := by decide +kernel
theorem dL_law_2295 : decode cL_law 2295 = .ok (.aload_n 2, 1) := by decide +kernel
theorem dL_law_2296 : decode cL_law 2296 = .ok (.aload_n 0, 1) := by decide +kernel
theorem dL_law_2297 : decode cL_law 2297 = .ok (.iload 4, 2) := by decide +kernel
theorem dL_law_2299 : decode cL_law 2299 = .ok (.iconst 1, 1) := by decide +kernel
theorem dL_law_2300 : decode cL_law 2300 = .ok (.iadd, 1) := by decide +kernel
theorem dL_law_2301 : decode cL_law 2301 = .ok (.iaload, 1) := by decide +kernel
theorem dL_law_2302 : decode cL_law 2302 = .ok (.invokevirtual 284, 3) := by decide +kernel
theorem dL_law_2305 : decode cL_law 2305 = .ok (.istore 6, 2) := by decide +kernel
theorem dL_law_2307 : decode cL_law 2307 = .ok (.aload_n 2, 1) := by decide +kernel
theorem dL_law_2308 : decode cL_law 2308 = .ok (.invokevirtual 143, 3) := by decide +kernel
theorem dL_law_2311 : decode cL_law 2311 = .ok (.iload 5, 2) := by decide +kernel
theorem dL_law_2313 : decode cL_law 2313 = .ok (.if_icmp .eq 5, 3) := by decide +kernel
theorem dL_law_2316 : decode cL_law 2316 = .ok (.iconst 0, 1) := by decide +kernel
theorem dL_law_2317 : decode cL_law 2317 = .ok (.ireturn, 1) := by decide +kernel
theorem dL_law_2318 : decode cL_law 2318 = .ok (.iload 5, 2) := by decide +kernel
theorem dL_law_2320 : decode cL_law 2320 = .ok (.ifCond .ne 15, 3) := by decide +kernel
theorem dL_law_2323 : decode cL_law 2323 = .ok (.aload_n 3, 1) := by decide +kernel
theorem dL_law_2324 : decode cL_law 2324 = .ok (.iconst 0, 1) := by decide +kernel
theorem dL_law_2325 : decode cL_law 2325 = .ok (.laload, 1) := by decide +kernel
theorem dL_law_2326 : decode cL_law 2326 = .ok (.iload 6, 2) := by decide +kernel
theorem dL_law_2328 : decode cL_law 2328 = .ok (.i2l, 1) := by decide +kernel
theorem dL_law_2329 : decode cL_law 2329 = .ok (.lcmp, 1) := by decide +kernel
theorem dL_law_2330 : decode cL_law 2330 = .ok (.ifCond .eq 5, 3) := by decide +kernel
theorem dL_law_2333 : decode cL_law 2333 = .ok (.iconst 0, 1) := by decide +kernel
theorem dL_law_2334 : decode cL_law 2334 = .ok (.ireturn, 1) := by decide +kernel
theorem dL_law_2335 : decode cL_law 2335 = .ok (.goto 352, 3) := by decide +kernel
theorem dL_law_2338 : decode cL_law 2338 = .ok (.aload_n 1, 1) := by decide +kernel
theorem dL_law_2339 : decode cL_law 2339 = .ok (.aload_n 0, 1) := by decide +kernel
theorem dL_law_2340 : decode cL_law 2340 = .ok (.iload 4, 2) := by decide +kernel
theorem dL_law_2342 : decode cL_law 2342 = .ok (.iconst 1, 1) := by decide +kernel
theorem dL_law_2343 : decode cL_law 2343 = .ok (.iadd, 1) := by decide +kernel
theorem dL_law_2344 : decode cL_law 2344 = .ok (.iaload, 1) := by decide +kernel
theorem dL_law_2345 : decode cL_law 2345 = .ok (.aload_n 0, 1) := by decide +kernel
theorem dL_law_2346 : decode cL_law 2346 = .ok (.iload 4, 2) := by decide +kernel
theorem dL_law_2348 : decode cL_law 2348 = .ok (.iconst 2, 1) := by decide +kernel
theorem dL_law_2349 : decode cL_law 2349 = .ok (.iadd, 1) := by decide +kernel
theorem dL_law_2350 : decode cL_law 2350 = .ok (.iaload, 1) := by decide +kernel
theorem dL_law_2351 : decode cL_law 2351 = .ok (.aload_n 3, 1) := by decide +kernel
theorem dL_law_2352 : decode cL_law 2352 = .ok (.invokestatic 285, 3) := by decide +kernel
theorem dL_law_2355 : decode cL_law 2355 = .ok (.istore 5, 2) := by decide +kernel
theorem dL_law_2357 : decode cL_law 2357 = .ok (.aload_n 2, 1) := by decide +kernel
theorem dL_law_2358 : decode cL_law 2358 = .ok (.aload_n 0, 1) := by decide +kernel
theorem dL_law_2359 : decode cL_law 2359 = .ok (.iload 4, 2) := by decide +kernel
theorem dL_law_2361 : decode cL_law 2361 = .ok (.iconst 1, 1) := by decide +kernel
theorem dL_law_2362 : decode cL_law 2362 = .ok (.iadd, 1) := by decide +kernel
theorem dL_law_2363 : decode cL_law 2363 = .ok (.iaload, 1) := by decide +kernel
theorem dL_law_2364 : decode cL_law 2364 = .ok (.aload_n 0, 1) := by decide +kernel
theorem dL_law_2365 : decode cL_law 2365 = .ok (.iload 4, 2) := by decide +kernel
theorem dL_law_2367 : decode cL_law 2367 = .ok (.iconst 2, 1) := by decide +kernel
theorem dL_law_2368 : decode cL_law 2368 = .ok (.iadd, 1) := by decide +kernel
theorem dL_law_2369 : decode cL_law 2369 = .ok (.iaload, 1) := by decide +kernel
theorem dL_law_2370 : decode cL_law 2370 = .ok (.invokevirtual 287, 3) := by decide +kernel
theorem dL_law_2373 : decode cL_law 2373 = .ok (.istore 6, 2) := by decide +kernel
theorem dL_law_2375 : decode cL_law 2375 = .ok (.aload_n 2, 1) := by decide +kernel
theorem dL_law_2376 : decode cL_law 2376 = .ok (.invokevirtual 143, 3) := by decide +kernel
theorem dL_law_2379 : decode cL_law 2379 = .ok (.iload 5, 2) := by decide +kernel
theorem dL_law_2381 : decode cL_law 2381 = .ok (.if_icmp .eq 5, 3) := by decide +kernel
theorem dL_law_2384 : decode cL_law 2384 = .ok (.iconst 0, 1) := by decide +kernel
theorem dL_law_2385 : decode cL_law 2385 = .ok (.ireturn, 1) := by decide +kernel
theorem dL_law_2386 : decode cL_law 2386 = .ok (.iload 5, 2) := by decide +kernel
theorem dL_law_2388 : decode cL_law 2388 = .ok (.ifCond .ne 15, 3) := by decide +kernel
theorem dL_law_2391 : decode cL_law 2391 = .ok (.aload_n 3, 1) := by decide +kernel
theorem dL_law_2392 : decode cL_law 2392 = .ok (.iconst 0, 1) := by decide +kernel
theorem dL_law_2393 : decode cL_law 2393 = .ok (.laload, 1) := by decide +kernel
theorem dL_law_2394 : decode cL_law 2394 = .ok (.iload 6, 2) := by decide +kernel
theorem dL_law_2396 : decode cL_law 2396 = .ok (.i2l, 1) := by decide +kernel
theorem dL_law_2397 : decode cL_law 2397 = .ok (.lcmp, 1) := by decide +kernel
theorem dL_law_2398 : decode cL_law 2398 = .ok (.ifCond .eq 5, 3) := by decide +kernel
theorem dL_law_2401 : decode cL_law 2401 = .ok (.iconst 0, 1) := by decide +kernel
theorem dL_law_2402 : decode cL_law 2402 = .ok (.ireturn, 1) := by decide +kernel
theorem dL_law_2403 : decode cL_law 2403 = .ok (.goto 284, 3) := by decide +kernel
theorem dL_law_2406 : decode cL_law 2406 = .ok (.aload_n 1, 1) := by decide +kernel
theorem dL_law_2407 : decode cL_law 2407 = .ok (.aload_n 0, 1) := by decide +kernel
theorem dL_law_2408 : decode cL_law 2408 = .ok (.iload 4, 2) := by decide +kernel
theorem dL_law_2410 : decode cL_law 2410 = .ok (.iconst 1, 1) := by decide +kernel
theorem dL_law_2411 : decode cL_law 2411 = .ok (.iadd, 1) := by decide +kernel
theorem dL_law_2412 : decode cL_law 2412 = .ok (.iaload, 1) := by decide +kernel
theorem dL_law_2413 : decode cL_law 2413 = .ok (.aload_n 0, 1) := by decide +kernel
theorem dL_law_2414 : decode cL_law 2414 = .ok (.iload 4, 2) := by decide +kernel
theorem dL_law_2416 : decode cL_law 2416 = .ok (.iconst 2, 1) := by decide +kernel
theorem dL_law_2417 : decode cL_law 2417 = .ok (.iadd, 1) := by decide +kernel
theorem dL_law_2418 : decode cL_law 2418 = .ok (.iaload, 1) := by decide +kernel
theorem dL_law_2419 : decode cL_law 2419 = .ok (.aload_n 3, 1) := by decide +kernel
theorem dL_law_2420 : decode cL_law 2420 = .ok (.invokestatic 288, 3) := by decide +kernel
theorem dL_law_2423 : decode cL_law 2423 = .ok (.istore 5, 2) := by decide +kernel
theorem dL_law_2425 : decode cL_law 2425 = .ok (.aload_n 2, 1) := by decide +kernel
theorem dL_law_2426 : decode cL_law 2426 = .ok (.aload_n 0, 1) := by decide +kernel
theorem dL_law_2427 : decode cL_law 2427 = .ok (.iload 4, 2) := by decide +kernel
theorem dL_law_2429 : decode cL_law 2429 = .ok (.iconst 1, 1) := by decide +kernel
theorem dL_law_2430 : decode cL_law 2430 = .ok (.iadd, 1) := by decide +kernel
theorem dL_law_2431 : decode cL_law 2431 = .ok (.iaload, 1) := by decide +kernel
theorem dL_law_2432 : decode cL_law 2432 = .ok (.aload_n 0, 1) := by decide +kernel
theorem dL_law_2433 : decode cL_law 2433 = .ok (.iload 4, 2) := by decide +kernel
theorem dL_law_2435 : decode cL_law 2435 = .ok (.iconst 2, 1) := by decide +kernel
theorem dL_law_2436 : decode cL_law 2436 = .ok (.iadd, 1) := by decide +kernel
theorem dL_law_2437 : decode cL_law 2437 = .ok (.iaload, 1) := by decide +kernel
theorem dL_law_2438 : decode cL_law 2438 = .ok (.invokevirtual 290, 3) := by decide +kernel
theorem dL_law_2441 : decode cL_law 2441 = .ok (.istore 6, 2) := by decide +kernel
theorem dL_law_2443 : decode cL_law 2443 = .ok (.aload_n 2, 1) := by decide +kernel
theorem dL_law_2444 : decode cL_law 2444 = .ok (.invokevirtual 143, 3) := by decide +kernel
theorem dL_law_2447 : decode cL_law 2447 = .ok (.iload 5, 2) := by decide +kernel
theorem dL_law_2449 : decode cL_law 2449 = .ok (.if_icmp .eq 5, 3) := by decide +kernel
theorem dL_law_2452 : decode cL_law 2452 = .ok (.iconst 0, 1) := by decide +kernel
theorem dL_law_2453 : decode cL_law 2453 = .ok (.ireturn, 1) := by decide +kernel
theorem dL_law_2454 : decode cL_law 2454 = .ok (.iload 5, 2) := by decide +kernel
theorem dL_law_2456 : decode cL_law 2456 = .ok (.ifCond .ne 15, 3) := by decide +kernel
theorem dL_law_2459 : decode cL_law 2459 = .ok (.aload_n 3, 1) := by decide +kernel
theorem dL_law_2460 : decode cL_law 2460 = .ok (.iconst 0, 1) := by decide +kernel
theorem dL_law_2461 : decode cL_law 2461 = .ok (.laload, 1) := by decide +kernel
theorem dL_law_2462 : decode cL_law 2462 = .ok (.iload 6, 2) := by decide +kernel
theorem dL_law_2464 : decode cL_law 2464 = .ok (.i2l, 1) := by decide +kernel
theorem dL_law_2465 : decode cL_law 2465 = .ok (.lcmp, 1) := by decide +kernel
theorem dL_law_2466 : decode cL_law 2466 = .ok (.ifCond .eq 5, 3) := by decide +kernel
theorem dL_law_2469 : decode cL_law 2469 = .ok (.iconst 0, 1) := by decide +kernel
theorem dL_law_2470 : decode cL_law 2470 = .ok (.ireturn, 1) := by decide +kernel
theorem dL_law_2471 : decode cL_law 2471 = .ok (.goto 216, 3) := by decide +kernel
theorem dL_law_2474 : decode cL_law 2474 = .ok (.aload_n 1, 1) := by decide +kernel
theorem dL_law_2475 : decode cL_law 2475 = .ok (.aload_n 0, 1) := by decide +kernel
theorem dL_law_2476 : decode cL_law 2476 = .ok (.iload 4, 2) := by decide +kernel
theorem dL_law_2478 : decode cL_law 2478 = .ok (.iconst 1, 1) := by decide +kernel
theorem dL_law_2479 : decode cL_law 2479 = .ok (.iadd, 1) := by decide +kernel
theorem dL_law_2480 : decode cL_law 2480 = .ok (.iaload, 1) := by decide +kernel
theorem dL_law_2481 : decode cL_law 2481 = .ok (.invokevirtual 291, 3) := by decide +kernel
theorem dL_law_2484 : decode cL_law 2484 = .ok (.aload_n 2, 1) := by decide +kernel
theorem dL_law_2485 : decode cL_law 2485 = .ok (.aload_n 0, 1) := by decide +kernel
theorem dL_law_2486 : decode cL_law 2486 = .ok (.iload 4, 2) := by decide +kernel
theorem dL_law_2488 : decode cL_law 2488 = .ok (.iconst 1, 1) := by decide +kernel
theorem dL_law_2489 : decode cL_law 2489 = .ok (.iadd, 1) := by decide +kernel
theorem dL_law_2490 : decode cL_law 2490 = .ok (.iaload, 1) := by decide +kernel
theorem dL_law_2491 : decode cL_law 2491 = .ok (.invokevirtual 294, 3) := by decide +kernel
theorem dL_law_2494 : decode cL_law 2494 = .ok (.if_icmp .eq 193, 3) := by decide +kernel
theorem dL_law_2497 : decode cL_law 2497 = .ok (.iconst 0, 1) := by decide +kernel
theorem dL_law_2498 : decode cL_law 2498 = .ok (.ireturn, 1) := by decide +kernel
theorem dL_law_2499 : decode cL_law 2499 = .ok (.aload_n 1, 1) := by decide +kernel
theorem dL_law_2500 : decode cL_law 2500 = .ok (.invokevirtual 295, 3) := by decide +kernel
theorem dL_law_2503 : decode cL_law 2503 = .ok (.aload_n 2, 1) := by decide +kernel
theorem dL_law_2504 : decode cL_law 2504 = .ok (.invokevirtual 298, 3) := by decide +kernel
theorem dL_law_2507 : decode cL_law 2507 = .ok (.if_icmp .eq 180, 3) := by decide +kernel
theorem dL_law_2510 : decode cL_law 2510 = .ok (.iconst 0, 1) := by decide +kernel
theorem dL_law_2511 : decode cL_law 2511 = .ok (.ireturn, 1) := by decide +kernel
theorem dL_law_2512 : decode cL_law 2512 = .ok (.aload_n 1, 1) := by decide +kernel
theorem dL_law_2513 : decode cL_law 2513 = .ok (.aload_n 0, 1) := by decide +kernel
theorem dL_law_2514 : decode cL_law 2514 = .ok (.iload 4, 2) := by decide +kernel
theorem dL_law_2516 : decode cL_law 2516 = .ok (.iconst 1, 1) := by decide +kernel
theorem dL_law_2517 : decode cL_law 2517 = .ok (.iadd, 1) := by decide +kernel
theorem dL_law_2518 : decode cL_law 2518 = .ok (.iaload, 1) := by decide +kernel
theorem dL_law_2519 : decode cL_law 2519 = .ok (.invokevirtual 299, 3) := by decide +kernel
theorem dL_law_2522 : decode cL_law 2522 = .ok (.aload_n 2, 1) := by decide +kernel
theorem dL_law_2523 : decode cL_law 2523 = .ok (.aload_n 0, 1) := by decide +kernel
theorem dL_law_2524 : decode cL_law 2524 = .ok (.iload 4, 2) := by decide +kernel
theorem dL_law_2526 : decode cL_law 2526 = .ok (.iconst 1, 1) := by decide +kernel
theorem dL_law_2527 : decode cL_law 2527 = .ok (.iadd, 1) := by decide +kernel
theorem dL_law_2528 : decode cL_law 2528 = .ok (.iaload, 1) := by decide +kernel
theorem dL_law_2529 : decode cL_law 2529 = .ok (.invokevirtual 302, 3) := by decide +kernel
theorem dL_law_2532 : decode cL_law 2532 = .ok (.if_icmp .eq 155, 3) := by decide +kernel
theorem dL_law_2535 : decode cL_law 2535 = .ok (.iconst 0, 1) := by decide +kernel
theorem dL_law_2536 : decode cL_law 2536 = .ok (.ireturn, 1) := by decide +kernel
theorem dL_law_2537 : decode cL_law 2537 = .ok (.aload_n 1, 1) := by decide +kernel
theorem dL_law_2538 : decode cL_law 2538 = .ok (.invokevirtual 303, 3) := by decide +kernel
theorem dL_law_2541 : decode cL_law 2541 = .ok (.aload_n 2, 1) := by decide +kernel
theorem dL_law_2542 : decode cL_law 2542 = .ok (.invokevirtual 306, 3) := by decide +kernel
theorem dL_law_2545 : decode cL_law 2545 = .ok (.if_icmp .eq 142, 3) := by decide +kernel
theorem dL_law_2548 : decode cL_law 2548 = .ok (.iconst 0, 1) := by decide +kernel
theorem dL_law_2549 : decode cL_law 2549 = .ok (.ireturn, 1) := by decide +kernel
theorem dL_law_2550 : decode cL_law 2550 = .ok (.aload_n 1, 1) := by decide +kernel
theorem dL_law_2551 : decode cL_law 2551 = .ok (.aload_n 0, 1) := by decide +kernel
theorem dL_law_2552 : decode cL_law 2552 = .ok (.iload 4, 2) := by decide +kernel
theorem dL_law_2554 : decode cL_law 2554 = .ok (.iconst 1, 1) := by decide +kernel
theorem dL_law_2555 : decode cL_law 2555 = .ok (.iadd, 1) := by decide +kernel
theorem dL_law_2556 : decode cL_law 2556 = .ok (.iaload, 1) := by decide +kernel
theorem dL_law_2557 : decode cL_law 2557 = .ok (.aload_n 0, 1) := by decide +kernel
theorem dL_law_2558 : decode cL_law 2558 = .ok (.iload 4, 2) := by decide +kernel
theorem dL_law_2560 : decode cL_law 2560 = .ok (.iconst 2, 1) := by decide +kernel
theorem dL_law_2561 : decode cL_law 2561 = .ok (.iadd, 1) := by decide +kernel
theorem dL_law_2562 : decode cL_law 2562 = .ok (.iaload, 1) := by decide +kernel
theorem dL_law_2563 : decode cL_law 2563 = .ok (.aload_n 3, 1) := by decide +kernel
theorem dL_law_2564 : decode cL_law 2564 = .ok (.invokestatic 307, 3) := by decide +kernel
theorem dL_law_2567 : decode cL_law 2567 = .ok (.istore 5, 2) := by decide +kernel
theorem dL_law_2569 : decode cL_law 2569 = .ok (.aload_n 2, 1) := by decide +kernel
theorem dL_law_2570 : decode cL_law 2570 = .ok (.aload_n 0, 1) := by decide +kernel
theorem dL_law_2571 : decode cL_law 2571 = .ok (.iload 4, 2) := by decide +kernel
theorem dL_law_2573 : decode cL_law 2573 = .ok (.iconst 1, 1) := by decide +kernel
theorem dL_law_2574 : decode cL_law 2574 = .ok (.iadd, 1) := by decide +kernel
theorem dL_law_2575 : decode cL_law 2575 = .ok (.iaload, 1) := by decide +kernel
theorem dL_law_2576 : decode cL_law 2576 = .ok (.aload_n 0, 1) := by decide +kernel
theorem dL_law_2577 : decode cL_law 2577 = .ok (.iload 4, 2) := by decide +kernel
theorem dL_law_2579 : decode cL_law 2579 = .ok (.iconst 2, 1) := by decide +kernel
theorem dL_law_2580 : decode cL_law 2580 = .ok (.iadd, 1) := by decide +kernel
theorem dL_law_2581 : decode cL_law 2581 = .ok (.iaload, 1) := by decide +kernel
theorem dL_law_2582 : decode cL_law 2582 = .ok (.invokevirtual 309, 3) := by decide +kernel
theorem dL_law_2585 : decode cL_law 2585 = .ok (.istore 6, 2) := by decide +kernel
theorem dL_law_2587 : decode cL_law 2587 = .ok (.aload_n 2, 1) := by decide +kernel
theorem dL_law_2588 : decode cL_law 2588 = .ok (.invokevirtual 143, 3) := by decide +kernel
theorem dL_law_2591 : decode cL_law 2591 = .ok (.iload 5, 2) := by decide +kernel
theorem dL_law_2593 : decode cL_law 2593 = .ok (.if_icmp .eq 5, 3) := by decide +kernel
theorem dL_law_2596 : decode cL_law 2596 = .ok (.iconst 0, 1) := by decide +kernel
theorem dL_law_2597 : decode cL_law 2597 = .ok (.ireturn, 1) := by decide +kernel
theorem dL_law_2598 : decode cL_law 2598 = .ok (.iload 5, 2) := by decide +kernel
theorem dL_law_2600 : decode cL_law 2600 = .ok (.ifCond .ne 15, 3) := by decide +kernel
theorem dL_law_2603 : decode cL_law 2603 = .ok (.aload_n 3, 1) := by decide +kernel
theorem dL_law_2604 : decode cL_law 2604 = .ok (.iconst 0, 1) := by decide +kernel
theorem dL_law_2605 : decode cL_law 2605 = .ok (.laload, 1) := by decide +kernel
theorem dL_law_2606 : decode cL_law 2606 = .ok (.iload 6, 2) := by decide +kernel
theorem dL_law_2608 : decode cL_law 2608 = .ok (.i2l, 1) := by decide +kernel
theorem dL_law_2609 : decode cL_law 2609 = .ok (.lcmp, 1) := by decide +kernel
theorem dL_law_2610 : decode cL_law 2610 = .ok (.ifCond .eq 5, 3) := by decide +kernel
theorem dL_law_2613 : decode cL_law 2613 = .ok (.iconst 0, 1) := by decide +kernel
theorem dL_law_2614 : decode cL_law 2614 = .ok (.ireturn, 1) := by decide +kernel
theorem dL_law_2615 : decode cL_law 2615 = .ok (.goto 72, 3) := by decide +kernel
theorem dL_law_2618 : decode cL_law 2618 = .ok (.aload_n 1, 1) := by decide +kernel
theorem dL_law_2619 : decode cL_law 2619 = .ok (.aload_n 0, 1) := by decide +kernel
theorem dL_law_2620 : decode cL_law 2620 = .ok (.iload 4, 2) := by decide +kernel
theorem dL_law_2622 : decode cL_law 2622 = .ok (.iconst 1, 1) := by decide +kernel
theorem dL_law_2623 : decode cL_law 2623 = .ok (.iadd, 1) := by decide +kernel
theorem dL_law_2624 : decode cL_law 2624 = .ok (.iaload, 1) := by decide +kernel
theorem dL_law_2625 : decode cL_law 2625 = .ok (.aload_n 3, 1) := by decide +kernel
theorem dL_law_2626 : decode cL_law 2626 = .ok (.invokestatic 310, 3) := by decide +kernel
theorem dL_law_2629 : decode cL_law 2629 = .ok (.istore 5, 2) := by decide +kernel
theorem dL_law_2631 : decode cL_law 2631 = .ok (.aload_n 2, 1) := by decide +kernel
theorem dL_law_2632 : decode cL_law 2632 = .ok (.aload_n 0, 1) := by decide +kernel
theorem dL_law_2633 : decode cL_law 2633 = .ok (.iload 4, 2) := by decide +kernel
theorem dL_law_2635 : decode cL_law 2635 = .ok (.iconst 1, 1) := by decide +kernel
theorem dL_law_2636 : decode cL_law 2636 = .ok (.iadd, 1) := by decide +kernel
theorem dL_law_2637 : decode cL_law 2637 = .ok (.iaload, 1) := by decide +kernel
theorem dL_law_2638 : decode cL_law 2638 = .ok (.invokevirtual 312, 3) := by decide +kernel
theorem dL_law_2641 : decode cL_law 2641 = .ok (.istore 6, 2) := by decide +kernel
theorem dL_law_2643 : decode cL_law 2643 = .ok (.aload_n 2, 1) := by decide +kernel
theorem dL_law_2644 : decode cL_law 2644 = .ok (.invokevirtual 143, 3) := by decide +kernel
theorem dL_law_2647 : decode cL_law 2647 = .ok (.iload 5, 2) := by decide +kernel
theorem dL_law_2649 : decode cL_law 2649 = .ok (.if_icmp .eq 5, 3) := by decide +kernel
theorem dL_law_2652 : decode cL_law 2652 = .ok (.iconst 0, 1) := by decide +kernel
theorem dL_law_2653 : decode cL_law 2653 = .ok (.ireturn, 1) := by decide +kernel
theorem dL_law_2654 : decode cL_law 2654 = .ok (.iload 5, 2) := by decide +kernel
theorem dL_law_2656 : decode cL_law 2656 = .ok (.ifCond .ne 15, 3) := by decide +kernel
theorem dL_law_2659 : decode cL_law 2659 = .ok (.aload_n 3, 1) := by decide +kernel
theorem dL_law_2660 : decode cL_law 2660 = .ok (.iconst 0, 1) := by decide +kernel
theorem dL_law_2661 : decode cL_law 2661 = .ok (.laload, 1) := by decide +kernel
theorem dL_law_2662 : decode cL_law 2662 = .ok (.iload 6, 2) := by decide +kernel
theorem dL_law_2664 : decode cL_law 2664 = .ok (.i2l, 1) := by decide +kernel
theorem dL_law_2665 : decode cL_law 2665 = .ok (.lcmp, 1) := by decide +kernel
theorem dL_law_2666 : decode cL_law 2666 = .ok (.ifCond .eq 5, 3) := by decide +kernel
theorem dL_law_2669 : decode cL_law 2669 = .ok (.iconst 0, 1) := by decide +kernel
theorem dL_law_2670 : decode cL_law 2670 = .ok (.ireturn, 1) := by decide +kernel
theorem dL_law_2671 : decode cL_law 2671 = .ok (.goto 16, 3) := by decide +kernel
theorem dL_law_2674 : decode cL_law 2674 = .ok (.aload_n 1, 1) := by decide +kernel
theorem dL_law_2675 : decode cL_law 2675 = .ok (.invokevirtual 313, 3) := by decide +kernel
theorem dL_law_2678 : decode cL_law 2678 = .ok (.aload_n 2, 1) := by decide +kernel
theorem dL_law_2679 : decode cL_law 2679 = .ok (.invokevirtual 316, 3) := by decide +kernel
theorem dL_law_2682 : decode cL_law 2682 = .ok (.if_icmp .eq 5, 3) := by decide +kernel
theorem dL_law_2685 : decode cL_law 2685 = .ok (.iconst 0, 1) := by decide +kernel
theorem dL_law_2686 : decode cL_law 2686 = .ok (.ireturn, 1) := by decide +kernel
theorem dL_law_2687 : decode cL_law 2687 = .ok (.iinc 4 6, 3) := by decide +kernel
theorem dL_law_2690 : decode cL_law 2690 = .ok (.goto (-2667), 3) := by decide +kernel
theorem dL_law_2693 : decode cL_law 2693 = .ok (.iconst 1, 1) := by decide +kernel
theorem dL_law_2694 : decode cL_law 2694 = .ok (.ireturn, 1) := by decide +kernel
