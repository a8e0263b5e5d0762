/-! the law's decode rows -/
theorem dL_law__2148 : decode cL_law_ 2148 = .ok (.invokestatic 232, 3) := by decide +kernel
theorem dL_law__2151 : decode cL_law_ 2151 = .ok (.istore 5, 2) := by decide +kernel
theorem dL_law__2153 : decode cL_law_ 2153 = .ok (.aload_n 2, 1) := by decide +kernel
theorem dL_law__2154 : decode cL_law_ 2154 = .ok (.aload_n 0, 1) := by decide +kernel
theorem dL_law__2155 : decode cL_law_ 2155 = .ok (.iload 4, 2) := by decide +kernel
theorem dL_law__2157 : decode cL_law_ 2157 = .ok (.iconst 1, 1) := by decide +kernel
theorem dL_law__2158 : decode cL_law_ 2158 = .ok (.iadd, 1) := by decide +kernel
theorem dL_law__2159 : decode cL_law_ 2159 = .ok (.iaload, 1) := by decide +kernel
theorem dL_law__2160 : decode cL_law_ 2160 = .ok (.invokevirtual 234, 3) := by decide +kernel
theorem dL_law__2163 : decode cL_law_ 2163 = .ok (.istore 6, 2) := by decide +kernel
theorem dL_law__2165 : decode cL_law_ 2165 = .ok (.aload_n 2, 1) := by decide +kernel
theorem dL_law__2166 : decode cL_law_ 2166 = .ok (.invokevirtual 142, 3) := by decide +kernel
theorem dL_law__2169 : decode cL_law_ 2169 = .ok (.iload 5, 2) := by decide +kernel
theorem dL_law__2171 : decode cL_law_ 2171 = .ok (.if_icmp .eq 5, 3) := by decide +kernel
theorem dL_law__2174 : decode cL_law_ 2174 = .ok (.iconst 0, 1) := by decide +kernel
theorem dL_law__2175 : decode cL_law_ 2175 = .ok (.ireturn, 1) := by decide +kernel
theorem dL_law__2176 : decode cL_law_ 2176 = .ok (.iload 5, 2) := by decide +kernel
theorem dL_law__2178 : decode cL_law_ 2178 = .ok (.ifCond .ne 15, 3) := by decide +kernel
theorem dL_law__2181 : decode cL_law_ 2181 = .ok (.aload_n 3, 1) := by decide +kernel
theorem dL_law__2182 : decode cL_law_ 2182 = .ok (.iconst 0, 1) := by decide +kernel
theorem dL_law__2183 : decode cL_law_ 2183 = .ok (.laload, 1) := by decide +kernel
theorem dL_law__2184 : decode cL_law_ 2184 = .ok (.iload 6, 2) := by decide +kernel
theorem dL_law__2186 : decode cL_law_ 2186 = .ok (.i2l, 1) := by decide +kernel
theorem dL_law__2187 : decode cL_law_ 2187 = .ok (.lcmp, 1) := by decide +kernel
theorem dL_law__2188 : decode cL_law_ 2188 = .ok (.ifCond .eq 5, 3) := by decide +kernel
theorem dL_law__2191 : decode cL_law_ 2191 = .ok (.iconst 0, 1) := by decide +kernel
theorem dL_law__2192 : decode cL_law_ 2192 = .ok (.ireturn, 1) := by decide +kernel
theorem dL_law__2193 : decode cL_law_ 2193 = .ok (.goto 605, 3) := by decide +kernel
theorem dL_law__2196 : decode cL_law_ 2196 = .ok (.aload_n 1, 1) := by decide +kernel
theorem dL_law__2197 : decode cL_law_ 2197 = .ok (.invokevirtual 235, 3) := by decide +kernel
theorem dL_law__2200 : decode cL_law_ 2200 = .ok (.aload_n 2, 1) := by decide +kernel
theorem dL_law__2201 : decode cL_law_ 2201 = .ok (.invokevirtual 238, 3) := by decide +kernel
theorem dL_law__2204 : decode cL_law_ 2204 = .ok (.if_icmp .eq 594, 3) := by decide +kernel
theorem dL_law__2207 : decode cL_law_ 2207 = .ok (.iconst 0, 1) := by decide +kernel
theorem dL_law__2208 : decode cL_law_ 2208 = .ok (.ireturn, 1) := by decide +kernel
theorem dL_law__2209 : decode cL_law_ 2209 = .ok (.aload_n 1, 1) := by decide +kernel
theorem dL_law__2210 : decode cL_law_ 2210 = .ok (.aload_n 0, 1) := by decide +kernel
theorem dL_law__2211 : decode cL_law_ 2211 = .ok (.iload 4, 2) := by decide +kernel
theorem dL_law__2213 : decode cL_law_ 2213 = .ok (.iconst 1, 1) := by decide +kernel
theorem dL_law__2214 : decode cL_law_ 2214 = .ok (.iadd, 1) := by decide +kernel
theorem dL_law__2215 : decode cL_law_ 2215 = .ok (.iaload, 1) := by decide +kernel
theorem dL_law__2216 : decode cL_law_ 2216 = .ok (.aload_n 0, 1) := by decide +kernel
theorem dL_law__2217 : decode cL_law_ 2217 = .ok (.iload 4, 2) := by decide +kernel
theorem dL_law__2219 : decode cL_law_ 2219 = .ok (.iconst 2, 1) := by decide +kernel
theorem dL_law__2220 : decode cL_law_ 2220 = .ok (.iadd, 1) := by decide +kernel
theorem dL_law__2221 : decode cL_law_ 2221 = .ok (.iaload, 1) := by decide +kernel
theorem dL_law__2222 : decode cL_law_ 2222 = .ok (.ifCond .eq 7, 3) := by decide +kernel
theorem dL_law__2225 : decode cL_law_ 2225 = .ok (.iconst 1, 1) := by decide +kernel
theorem dL_law__2226 : decode cL_law_ 2226 = .ok (.goto 4, 3) := by decide +kernel
theorem dL_law__2229 : decode cL_law_ 2229 = .ok (.iconst 0, 1) := by decide +kernel
theorem dL_law__2230 : decode cL_law_ 2230 = .ok (.invokevirtual 239, 3) := by decide +kernel
theorem dL_law__2233 : decode cL_law_ 2233 = .ok (.aload_n 2, 1) := by decide +kernel
theorem dL_law__2234 : decode cL_law_ 2234 = .ok (.aload_n 0, 1) := by decide +kernel
theorem dL_law__2235 : decode cL_law_ 2235 = .ok (.iload 4, 2) := by decide +kernel
theorem dL_law__2237 : decode cL_law_ 2237 = .ok (.iconst 1, 1) := by decide +kernel
theorem dL_law__2238 : decode cL_law_ 2238 = .ok (.iadd, 1) := by decide +kernel
theorem dL_law__2239 : decode cL_law_ 2239 = .ok (.iaload, 1) := by decide +kernel
theorem dL_law__2240 : decode cL_law_ 2240 = .ok (.aload_n 0, 1) := by decide +kernel
theorem dL_law__2241 : decode cL_law_ 2241 = .ok (.iload 4, 2) := by decide +kernel
theorem dL_law__2243 : decode cL_law_ 2243 = .ok (.iconst 2, 1) := by decide +kernel
theorem dL_law__2244 : decode cL_law_ 2244 = .ok (.iadd, 1) := by decide +kernel
theorem dL_law__2245 : decode cL_law_ 2245 = .ok (.iaload, 1) := by decide +kernel
theorem dL_law__2246 : decode cL_law_ 2246 = .ok (.ifCond .eq 7, 3) := by decide +kernel
theorem dL_law__2249 : decode cL_law_ 2249 = .ok (.iconst 1, 1) := by decide +kernel
theorem dL_law__2250 : decode cL_law_ 2250 = .ok (.goto 4, 3) := by decide +kernel
theorem dL_law__2253 : decode cL_law_ 2253 = .ok (.iconst 0, 1) := by decide +kernel
theorem dL_law__2254 : decode cL_law_ 2254 = .ok (.invokevirtual 242, 3) := by decide +kernel
theorem dL_law__2257 : decode cL_law_ 2257 = .ok (.if_icmp .eq 541, 3) := by decide +kernel
theorem dL_law__2260 : decode cL_law_ 2260 = .ok (.iconst 0, 1) := by decide +kernel
theorem dL_law__2261 : decode cL_law_ 2261 = .ok (.ireturn, 1) := by decide +kernel
theorem dL_law__2262 : decode cL_law_ 2262 = .ok (.aload_n 1, 1) := by decide +kernel
theorem dL_law__2263 : decode cL_law_ 2263 = .ok (.aload_n 0, 1) := by decide +kernel
theorem dL_law__2264 : decode cL_law_ 2264 = .ok (.iload 4, 2) := by decide +kernel
theorem dL_law__2266 : decode cL_law_ 2266 = .ok (.iconst 1, 1) := by decide +kernel
theorem dL_law__2267 : decode cL_law_ 2267 = .ok (.iadd, 1) := by decide +kernel
theorem dL_law__2268 : decode cL_law_ 2268 = .ok (.iaload, 1) := by decide +kernel
theorem dL_law__2269 : decode cL_law_ 2269 = .ok (.aload_n 0, 1) := by decide +kernel
theorem dL_law__2270 : decode cL_law_ 2270 = .ok (.iload 4, 2) := by decide +kernel
theorem dL_law__2272 : decode cL_law_ 2272 = .ok (.iconst 2, 1) := by decide +kernel
theorem dL_law__2273 : decode cL_law_ 2273 = .ok (.iadd, 1) := by decide +kernel
theorem dL_law__2274 : decode cL_law_ 2274 = .ok (.iaload, 1) := by decide +kernel
theorem dL_law__2275 : decode cL_law_ 2275 = .ok (.aload_n 3, 1) := by decide +kernel
theorem dL_law__2276 : decode cL_law_ 2276 = .ok (.invokestatic 243, 3) := by decide +kernel
theorem dL_law__2279 : decode cL_law_ 2279 = .ok (.istore 5, 2) := by decide +kernel
theorem dL_law__2281 : decode cL_law_ 2281 = .ok (.aload_n 2, 1) := by decide +kernel
theorem dL_law__2282 : decode cL_law_ 2282 = .ok (.aload_n 0, 1) := by decide +kernel
theorem dL_law__2283 : decode cL_law_ 2283 = .ok (.iload 4, 2) := by decide +kernel
theorem dL_law__2285 : decode cL_law_ 2285 = .ok (.iconst 1, 1) := by decide +kernel
theorem dL_law__2286 : decode cL_law_ 2286 = .ok (.iadd, 1) := by decide +kernel
theorem dL_law__2287 : decode cL_law_ 2287 = .ok (.iaload, 1) := by decide +kernel
theorem dL_law__2288 : decode cL_law_ 2288 = .ok (.aload_n 0, 1) := by decide +kernel
theorem dL_law__2289 : decode cL_law_ 2289 = .ok (.iload 4, 2) := by decide +kernel
theorem dL_law__2291 : decode cL_law_ 2291 = .ok (.iconst 2, 1) := by decide +kernel
theorem dL_law__2292 : decode cL_law_ 2292 = .ok (.iadd, 1) := by decide +kernel
theorem dL_law__2293 : decode cL_law_ 2293 = .ok (.iaload, 1) := by decide +kernel
theorem dL_law__2294 : decode cL_law_ 2294 = .ok (.invokevirtual 245, 3) := by decide +kernel
theorem dL_law__2297 : decode cL_law_ 2297 = .ok (.istore 6, 2) := by decide +kernel
theorem dL_law__2299 : decode cL_law_ 2299 = .ok (.aload_n 2, 1) := by decide +kernel
theorem dL_law__2300 : decode cL_law_ 2300 = .ok (.invokevirtual 142, 3) := by decide +kernel
theorem dL_law__2303 : decode cL_law_ 2303 = .ok (.iload 5, 2) := by decide +kernel
theorem dL_law__2305 : decode cL_law_ 2305 = .ok (.if_icmp .eq 5, 3) := by decide +kernel
theorem dL_law__2308 : decode cL_law_ 2308 = .ok (.iconst 0, 1) := by decide +kernel
theorem dL_law__2309 : decode cL_law_ 2309 = .ok (.ireturn, 1) := by decide +kernel
theorem dL_law__2310 : decode cL_law_ 2310 = .ok (.iload 5, 2) := by decide +kernel
theorem dL_law__2312 : decode cL_law_ 2312 = .ok (.ifCond .ne 15, 3) := by decide +kernel
theorem dL_law__2315 : decode cL_law_ 2315 = .ok (.aload_n 3, 1) := by decide +kernel
theorem dL_law__2316 : decode cL_law_ 2316 = .ok (.iconst 0, 1) := by decide +kernel
theorem dL_law__2317 : decode cL_law_ 2317 = .ok (.laload, 1) := by decide +kernel
theorem dL_law__2318 : decode cL_law_ 2318 = .ok (.iload 6, 2) := by decide +kernel
theorem dL_law__2320 : decode cL_law_ 2320 = .ok (.i2l, 1) := by decide +kernel
theorem dL_law__2321 : decode cL_law_ 2321 = .ok (.lcmp, 1) := by decide +kernel
theorem dL_law__2322 : decode cL_law_ 2322 = .ok (.ifCond .eq 5, 3) := by decide +kernel
theorem dL_law__2325 : decode cL_law_ 2325 = .ok (.iconst 0, 1) := by decide +kernel
theorem dL_law__2326 : decode cL_law_ 2326 = .ok (.ireturn, 1) := by decide +kernel
theorem dL_law__2327 : decode cL_law_ 2327 = .ok (.goto 471, 3) := by decide +kernel
theorem dL_law__2330 : decode cL_law_ 2330 = .ok (.aload_n 1, 1) := by decide +kernel
theorem dL_law__2331 : decode cL_law_ 2331 = .ok (.aload_n 0, 1) := by decide +kernel
theorem dL_law__2332 : decode cL_law_ 2332 = .ok (.iload 4, 2) := by decide +kernel
theorem dL_law__2334 : decode cL_law_ 2334 = .ok (.iconst 1, 1) := by decide +kernel
theorem dL_law__2335 : decode cL_law_ 2335 = .ok (.iadd, 1) := by decide +kernel
theorem dL_law__2336 : decode cL_law_ 2336 = .ok (.iaload, 1) := by decide +kernel
theorem dL_law__2337 : decode cL_law_ 2337 = .ok (.aload_n 0, 1) := by decide +kernel
theorem dL_law__2338 : decode cL_law_ 2338 = .ok (.iload 4, 2) := by decide +kernel
theorem dL_law__2340 : decode cL_law_ 2340 = .ok (.iconst 2, 1) := by decide +kernel
theorem dL_law__2341 : decode cL_law_ 2341 = .ok (.iadd, 1) := by decide +kernel
theorem dL_law__2342 : decode cL_law_ 2342 = .ok (.iaload, 1) := by decide +kernel
theorem dL_law__2343 : decode cL_law_ 2343 = .ok (.aload_n 3, 1) := by decide +kernel
theorem dL_law__2344 : decode cL_law_ 2344 = .ok (.invokestatic 246, 3) := by decide +kernel
theorem dL_law__2347 : decode cL_law_ 2347 = .ok (.istore 5, 2) := by decide +kernel
theorem dL_law__2349 : decode cL_law_ 2349 = .ok (.aload_n 2, 1) := by decide +kernel
theorem dL_law__2350 : decode cL_law_ 2350 = .ok (.aload_n 0, 1) := by decide +kernel
theorem dL_law__2351 : decode cL_law_ 2351 = .ok (.iload 4, 2) := by decide +kernel
theorem dL_law__2353 : decode cL_law_ 2353 = .ok (.iconst 1, 1) := by decide +kernel
theorem dL_law__2354 : decode cL_law_ 2354 = .ok (.iadd, 1) := by decide +kernel
theorem dL_law__2355 : decode cL_law_ 2355 = .ok (.iaload, 1) := by decide +kernel
theorem dL_law__2356 : decode cL_law_ 2356 = .ok (.aload_n 0, 1) := by decide +kernel
theorem dL_law__2357 : decode cL_law_ 2357 = .ok (.iload 4, 2) := by decide +kernel
theorem dL_law__2359 : decode cL_law_ 2359 = .ok (.iconst 2, 1) := by decide +kernel
theorem dL_law__2360 : decode cL_law_ 2360 = .ok (.iadd, 1) := by decide +kernel
theorem dL_law__2361 : decode cL_law_ 2361 = .ok (.iaload, 1) := by decide +kernel
theorem dL_law__2362 : decode cL_law_ 2362 = .ok (.invokevirtual 248, 3) := by decide +kernel
theorem dL_law__2365 : decode cL_law_ 2365 = .ok (.istore 6, 2) := by decide +kernel
theorem dL_law__2367 : decode cL_law_ 2367 = .ok (.aload_n 2, 1) := by decide +kernel
theorem dL_law__2368 : decode cL_law_ 2368 = .ok (.invokevirtual 142, 3) := by decide +kernel
theorem dL_law__2371 : decode cL_law_ 2371 = .ok (.iload 5, 2) := by decide +kernel
theorem dL_law__2373 : decode cL_law_ 2373 = .ok (.if_icmp .eq 5, 3) := by decide +kernel
theorem dL_law__2376 : decode cL_law_ 2376 = .ok (.iconst 0, 1) := by decide +kernel
theorem dL_law__2377 : decode cL_law_ 2377 = .ok (.ireturn, 1) := by decide +kernel
theorem dL_law__2378 : decode cL_law_ 2378 = .ok (.iload 5, 2) := by decide +kernel
theorem dL_law__2380 : decode cL_law_ 2380 = .ok (.ifCond .ne 15, 3) := by decide +kernel
theorem dL_law__2383 : decode cL_law_ 2383 = .ok (.aload_n 3, 1) := by decide +kernel
theorem dL_law__2384 : decode cL_law_ 2384 = .ok (.iconst 0, 1) := by decide +kernel
theorem dL_law__2385 : decode cL_law_ 2385 = .ok (.laload, 1) := by decide +kernel
theorem dL_law__2386 : decode cL_law_ 2386 = .ok (.iload 6, 2) := by decide +kernel
theorem dL_law__2388 : decode cL_law_ 2388 = .ok (.i2l, 1) := by decide +kernel
theorem dL_law__2389 : decode cL_law_ 2389 = .ok (.lcmp, 1) := by decide +kernel
theorem dL_law__2390 : decode cL_law_ 2390 = .ok (.ifCond .eq 5, 3) := by decide +kernel
theorem dL_law__2393 : decode cL_law_ 2393 = .ok (.iconst 0, 1) := by decide +kernel
theorem dL_law__2394 : decode cL_law_ 2394 = .ok (.ireturn, 1) := by decide +kernel
theorem dL_law__2395 : decode cL_law_ 2395 = .ok (.goto 403, 3) := by decide +kernel
theorem dL_law__2398 : decode cL_law_ 2398 = .ok (.aload_n 1, 1) := by decide +kernel
theorem dL_law__2399 : decode cL_law_ 2399 = .ok (.aload_n 0, 1) := by decide +kernel
theorem dL_law__2400 : decode cL_law_ 2400 = .ok (.iload 4, 2) := by decide +kernel
theorem dL_law__2402 : decode cL_law_ 2402 = .ok (.iconst 1, 1) := by decide +kernel
theorem dL_law__2403 : decode cL_law_ 2403 = .ok (.iadd, 1) := by decide +kernel
theorem dL_law__2404 : decode cL_law_ 2404 = .ok (.iaload, 1) := by decide +kernel
theorem dL_law__2405 : decode cL_law_ 2405 = .ok (.aload_n 0, 1) := by decide +kernel
theorem dL_law__2406 : decode cL_law_ 2406 = .ok (.iload 4, 2) := by decide +kernel
theorem dL_law__2408 : decode cL_law_ 2408 = .ok (.iconst 2, 1) := by decide +kernel
theorem dL_law__2409 : decode cL_law_ 2409 = .ok (.iadd, 1) := by decide +kernel
theorem dL_law__2410 : decode cL_law_ 2410 = .ok (.iaload, 1) := by decide +kernel
theorem dL_law__2411 : decode cL_law_ 2411 = .ok (.aload_n 0, 1) := by decide +kernel
theorem dL_law__2412 : decode cL_law_ 2412 = .ok (.iload 4, 2) := by decide +kernel
theorem dL_law__2414 : decode cL_law_ 2414 = .ok (.iconst 3, 1) := by decide +kernel
theorem dL_law__2415 : decode cL_law_ 2415 = .ok (.iadd, 1) := by decide +kernel
theorem dL_law__2416 : decode cL_law_ 2416 = .ok (.iaload, 1) := by decide +kernel
theorem dL_law__2417 : decode cL_law_ 2417 = .ok (.ifCond .eq 7, 3) := by decide +kernel
theorem dL_law__2420 : decode cL_law_ 2420 = .ok (.iconst 1, 1) := by decide +kernel
theorem dL_law__2421 : decode cL_law_ 2421 = .ok (.goto 4, 3) := by decide +kernel
theorem dL_law__2424 : decode cL_law_ 2424 = .ok (.iconst 0, 1) := by decide +kernel
theorem dL_law__2425 : decode cL_law_ 2425 = .ok (.aload_n 3, 1) := by decide +kernel
theorem dL_law__2426 : decode cL_law_ 2426 = .ok (.invokestatic 249, 3) := by decide +kernel
theorem dL_law__2429 : decode cL_law_ 2429 = .ok (.istore 5, 2) := by decide +kernel
theorem dL_law__2431 : decode cL_law_ 2431 = .ok (.aload_n 2, 1) := by decide +kernel
theorem dL_law__2432 : decode cL_law_ 2432 = .ok (.aload_n 0, 1) := by decide +kernel
theorem dL_law__2433 : decode cL_law_ 2433 = .ok (.iload 4, 2) := by decide +kernel
theorem dL_law__2435 : decode cL_law_ 2435 = .ok (.iconst 1, 1) := by decide +kernel
theorem dL_law__2436 : decode cL_law_ 2436 = .ok (.iadd, 1) := by decide +kernel
theorem dL_law__2437 : decode cL_law_ 2437 = .ok (.iaload, 1) := by decide +kernel
theorem dL_law__2438 : decode cL_law_ 2438 = .ok (.aload_n 0, 1) := by decide +kernel
theorem dL_law__2439 : decode cL_law_ 2439 = .ok (.iload 4, 2) := by decide +kernel
theorem dL_law__2441 : decode cL_law_ 2441 = .ok (.iconst 2, 1) := by decide +kernel
theorem dL_law__2442 : decode cL_law_ 2442 = .ok (.iadd, 1) := by decide +kernel
theorem dL_law__2443 : decode cL_law_ 2443 = .ok (.iaload, 1) := by decide +kernel
theorem dL_law__2444 : decode cL_law_ 2444 = .ok (.aload_n 0, 1) := by decide +kernel
theorem dL_law__2445 : decode cL_law_ 2445 = .ok (.iload 4, 2) := by decide +kernel
theorem dL_law__2447 : decode cL_law_ 2447 = .ok (.iconst 3, 1) := by decide +kernel
theorem dL_law__2448 : decode cL_law_ 2448 = .ok (.iadd, 1) := by decide +kernel
theorem dL_law__2449 : decode cL_law_ 2449 = .ok (.iaload, 1) := by decide +kernel
theorem dL_law__2450 : decode cL_law_ 2450 = .ok (.ifCond .eq 7, 3) := by decide +kernel
theorem dL_law__2453 : decode cL_law_ 2453 = .ok (.iconst 1, 1) := by decide +kernel
theorem dL_law__2454 : decode cL_law_ 2454 = .ok (.goto 4, 3) := by decide +kernel
theorem dL_law__2457 : decode cL_law_ 2457 = .ok (.iconst 0, 1) := by decide +kernel
theorem dL_law__2458 : decode cL_law_ 2458 = .ok (.invokevirtual 251, 3) := by decide +kernel
theorem dL_law__2461 : decode cL_law_ 2461 = .ok (.istore 6, 2) := by decide +kernel
theorem dL_law__2463 : decode cL_law_ 2463 = .ok (.aload_n 2, 1) := by decide +kernel
theorem dL_law__2464 : decode cL_law_ 2464 = .ok (.invokevirtual 142, 3) := by decide +kernel
theorem dL_law__2467 : decode cL_law_ 2467 = .ok (.iload 5, 2) := by decide +kernel
theorem dL_law__2469 : decode cL_law_ 2469 = .ok (.if_icmp .eq 5, 3) := by decide +kernel
theorem dL_law__2472 : decode cL_law_ 2472 = .ok (.iconst 0, 1) := by decide +kernel
theorem dL_law__2473 : decode cL_law_ 2473 = .ok (.ireturn, 1) := by decide +kernel
theorem dL_law__2474 : decode cL_law_ 2474 = .ok (.iload 5, 2) := by decide +kernel
