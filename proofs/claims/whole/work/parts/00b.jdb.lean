def jd_276_l36 (x1 : Int) (x2 : Int) (x3 : Int) (x4 : Int) (x5 : Int) (x6 : Int) (m : jM) : Option (jM ⊕ jM) :=
  jlp (fun s : (Int × jM) => jd_276_s36 x1 x2 x3 x4 x5 s.1 s.2) jfu (x6, m)
def jd_276 (p0 : Int) (p1 : Int) (m : jM) : Option jM :=
  ((some ((jd_206 (m 76 33) p1) * (jd_206 (m 76 34) p1))).bind fun z1 => ((jd_276_l36 p0 p1 (jd_206 (m 76 33) p1) z1 ((864 * p0) + (jd_207 p1)) 0 m).bind fun x50 => jse x50 (fun y52 => some y52) (fun y53 => some y53)))
def jd_277_s7 (x1 : Int) (x2 : Int) (m : jM) : Option ((Int × jM) ⊕ jM) :=
  (if 3 ≤ (jw x2) then some (.inr m) else (if (jw (m 76 52)) = 0 then ((jd_276 x1 x2 m).bind fun m5 => some (.inl ((x2 + 1), m5))) else some (.inr m)))
def jd_277_l7 (x1 : Int) (x2 : Int) (m : jM) : Option jM :=
  jlp (fun s : (Int × jM) => jd_277_s7 x1 s.1 s.2) jfu (x2, m)
def jd_277_b165  (m : jM) : Option jM :=
  some m
def jd_277_b128 (x1 : Int) (x2 : Int) (x3 : Int) (x4 : Int) (x5 : Int) (m : jM) : Option ((Int × Int × jM) ⊕ (Int × jM)) :=
  some (.inl ((x2 + (-1)), (x5 + 1), m))
def jd_277_b125 (x1 : Int) (x2 : Int) (x3 : Int) (x4 : Int) (x5 : Int) (y0 : Int) (y1 : Int) (y2 : Int) (y3 : Int) (y4 : Int) (m : jM) : Option ((Int × Int × jM) ⊕ (Int × jM)) :=
  ((jd_241 y4 y3 y2 y1 y0 m).bind fun m27 => jd_277_b128 x1 x2 x3 x4 x5 m27)
def jd_277_s73 (x1 : Int) (x3 : Int) (x4 : Int) (x2 : Int) (x5 : Int) (m : jM) : Option ((Int × Int × jM) ⊕ (Int × jM)) :=
  (if (jw (x4 * (jd_206 (m 76 34) x3))) ≤ (jw x5) then some (.inr (x2, m)) else (if 0 < (jw x2) then jd_277_b128 x1 x2 x3 x4 x5 m else ((jnz x4).bind fun u20 => ((jnz x4).bind fun u22 => ((jma m 102 x1).bind fun v24 => (if (jw v24) = 0 then jd_277_b125 x1 x2 x3 x4 x5 (-1) (jdiv x5 x4) (jrem x5 x4) x3 x1 m else ((jd_239 x1 1 m).bind fun v29 => jd_277_b125 x1 x2 x3 x4 x5 v29 (jdiv x5 x4) (jrem x5 x4) x3 x1 m)))))))
def jd_277_l73 (x1 : Int) (x3 : Int) (x4 : Int) (x2 : Int) (x5 : Int) (m : jM) : Option (Int × jM) :=
  jlp (fun s : (Int × Int × jM) => jd_277_s73 x1 x3 x4 s.1 s.2.1 s.2.2) jfu (x2, x5, m)
def jd_277_s55 (x1 : Int) (x2 : Int) (x3 : Int) (m : jM) : Option ((Int × Int × jM) ⊕ jM) :=
  (if 3 ≤ (jw x3) then some (.inr m) else ((jd_277_l73 x1 x3 (jd_206 (m 76 33) x3) x2 0 m).bind fun x31 => some (.inl (x31.1, (x3 + 1), x31.2))))
def jd_277_l55 (x1 : Int) (x2 : Int) (x3 : Int) (m : jM) : Option jM :=
  jlp (fun s : (Int × Int × jM) => jd_277_s55 x1 s.1 s.2.1 s.2.2) jfu (x2, x3, m)
def jd_277 (p0 : Int) (m : jM) : Option jM :=
  ((some (jms m 76 69 0)).bind fun m1 => ((jd_277_l7 p0 0 m1).bind fun x7 => (if (jw (x7 76 52)) ≤ 0 then ((jd_269 x7).bind fun m10 => (if (jw (m10 76 52)) ≤ 0 then jd_277_b165  m10 else ((jmw m10 108 p0 (m10 76 69)).bind fun m13 => jd_277_b165  m13))) else ((jmw x7 108 p0 (x7 76 69)).bind fun m15 => ((jd_277_l55 p0 (m15 76 69) 0 m15).bind fun x33 => some x33)))))
def jd_278_b91 (x1 : Int) (m : jM) : Option jM :=
  ((jmw m 107 x1 (m 76 52)).bind fun m21 => some m21)
def jd_278_b30 (x1 : Int) (y0 : Int) (m : jM) : Option jM :=
  ((some (jms m 76 50 y0)).bind fun m8 => ((some (jms m8 76 51 0)).bind fun m10 => ((some (jms m10 76 52 0)).bind fun m12 => ((jmw m12 108 x1 (-1)).bind fun m14 => ((jd_242 x1 m14).bind fun m16 => (if (jw (m16 76 32)) = 0 then ((jd_270 x1 m16).bind fun m19 => jd_278_b91 x1 m19) else (if (jw (m16 76 32)) = 1 then ((jd_275 x1 m16).bind fun m24 => jd_278_b91 x1 m24) else ((jd_277 x1 m16).bind fun m26 => jd_278_b91 x1 m26))))))))
def jd_278 (p0 : Int) (p1 : Int) (m : jM) : Option jM :=
  ((jma m 106 p0).bind fun v1 => ((some (jms m 76 49 (v1 + 5))).bind fun m3 => (if (jw p1) = 0 then ((jma m3 105 p0).bind fun v6 => jd_278_b30 p0 (8 * v6) m3) else jd_278_b30 p0 0 m3)))
def jd_279 (p0 : Int) (p1 : Int) (p2 : Int) (p3 : Int) (m : jM) : Option Int :=
  ((jma m 103 p0).bind fun v1 => ((jma m 121 ((((864 * v1) + (jd_207 p1)) + (p3 * (jd_206 (m 76 33) p1))) + p2)).bind fun v3 => some v3))
def jd_280 (p0 : Int) (p1 : Int) (p2 : Int) (p3 : Int) (m : jM) : Option Int :=
  ((jd_245 p1 m).bind fun v1 => ((jnz (jd_243 p2)).bind fun u3 => ((jd_246 p1 m).bind fun v5 => ((jnz (jd_243 p2)).bind fun u7 => ((jd_279 p0 p2 (((jd_243 p2) * v1) + (jrem p3 (jd_243 p2))) (((jd_243 p2) * v5) + (jdiv p3 (jd_243 p2))) m).bind fun v9 => some v9)))))
def jd_281_s16 (x1 : Int) (x2 : Int) (x3 : Int) (x4 : Int) (x5 : Int) (x7 : Int) (m : jM) : Option ((Int × jM) ⊕ jM) :=
  (if 16 ≤ (jw x7) then some (.inr m) else ((some (jd_253 x3 (jrem x7 4) (jdiv x7 4))).bind fun z2 => ((jd_280 x1 x2 x5 (z2 - (jd_244 x5)) m).bind fun v4 => ((jma m 114 z2).bind fun v6 => ((jmw m 116 x7 (v4 - v6)).bind fun m8 => some (.inl ((x7 + 1), m8)))))))
def jd_281_l16 (x1 : Int) (x2 : Int) (x3 : Int) (x4 : Int) (x5 : Int) (x7 : Int) (m : jM) : Option jM :=
  jlp (fun s : (Int × jM) => jd_281_s16 x1 x2 x3 x4 x5 s.1 s.2) jfu (x7, m)
def jd_281_b149 (x4 : Int) (x7 : Int) (x8 : Int) (y0 : Int) (m : jM) : Option ((Int × Int × jM) ⊕ (Int × jM)) :=
  ((jma m 116 x8).bind fun v22 => ((jmw m 116 x8 (if 0 ≤ (jw v22) then y0 else (-y0))).bind fun m24 => ((some (x7 + (if (jw y0) = 0 then 0 else 1))).bind fun z26 => some (.inl (z26, (x8 + 1), m24)))))
def jd_281_b123 (x4 : Int) (x7 : Int) (x8 : Int) (y0 : Int) (m : jM) : Option ((Int × Int × jM) ⊕ (Int × jM)) :=
  ((jnz x4).bind fun u20 => jd_281_b149 x4 x7 x8 (if (jw (jdiv (y0 + (jdiv x4 2)) x4)) ≤ 4095 then (jdiv (y0 + (jdiv x4 2)) x4) else 4095) m)
def jd_281_s88 (x4 : Int) (x7 : Int) (x8 : Int) (m : jM) : Option ((Int × Int × jM) ⊕ (Int × jM)) :=
  (if 16 ≤ (jw x8) then some (.inr (x7, m)) else ((jma m 116 x8).bind fun v15 => (if 0 ≤ (jw v15) then ((jma m 116 x8).bind fun v18 => jd_281_b123 x4 x7 x8 v18 m) else ((jma m 116 x8).bind fun v34 => jd_281_b123 x4 x7 x8 (-v34) m))))
def jd_281_l88 (x4 : Int) (x7 : Int) (x8 : Int) (m : jM) : Option (Int × jM) :=
  jlp (fun s : (Int × Int × jM) => jd_281_s88 x4 s.1 s.2.1 s.2.2) jfu (x7, x8, m)
def jd_281 (p0 : Int) (p1 : Int) (p2 : Int) (p3 : Int) (m : jM) : Option (Int × jM) :=
  ((jd_281_l16 p0 p1 p2 p3 (jd_252 p2) 0 m).bind fun x10 => ((jd_256 x10).bind fun m12 => ((jd_281_l88 p3 0 0 m12).bind fun x36 => some (x36.1, x36.2))))
def jd_282_b82 (x3 : Int) (x4 : Int) (x6 : Int) (x7 : Int) (m : jM) : Option ((Int × Int × jM) ⊕ jM) :=
  some (.inl (x6, (x7 + 1), m))
def jd_282_s34 (x3 : Int) (x4 : Int) (x6 : Int) (x7 : Int) (m : jM) : Option ((Int × Int × jM) ⊕ jM) :=
  (if 16 ≤ (jw x7) then some (.inr m) else ((jma m 116 (jd_254 x7)).bind fun v8 => (if (jw v8) = 0 then jd_282_b82 x3 x4 (x6 + 1) x7 m else ((jd_234 x6 m).bind fun m11 => ((jd_234 (jd_236 v8) m11).bind fun m13 => jd_282_b82 x3 x4 0 x7 m13)))))
def jd_282_l34 (x3 : Int) (x4 : Int) (x6 : Int) (x7 : Int) (m : jM) : Option jM :=
  jlp (fun s : (Int × Int × jM) => jd_282_s34 x3 x4 s.1 s.2.1 s.2.2) jfu (x6, x7, m)
def jd_282 (p0 : Int) (p1 : Int) (p2 : Int) (p3 : Int) (m : jM) : Option jM :=
  ((jd_281 p0 p1 p2 p3 m).bind fun q1 => ((jd_234 q1.1 q1.2).bind fun m3 => ((some (jms m3 76 59 ((m3 76 59) + q1.1))).bind fun m5 => ((jd_282_l34 p2 p3 0 0 m5).bind fun x15 => ((jd_257 p2 p3 x15).bind fun m17 => some m17)))))
def jd_283_b149 (x1 : Int) (x2 : Int) (x3 : Int) (x4 : Int) (x5 : Int) (x6 : Int) (x8 : Int) (x9 : Int) (x10 : Int) (x13 : Int) (y0 : Int) (y1 : Int) (m : jM) : Option ((Int × Int) ⊕ Int) :=
  some (.inl ((y1 + y0), (x13 + 1)))
def jd_283_s66 (x1 : Int) (x2 : Int) (x3 : Int) (x4 : Int) (x5 : Int) (x6 : Int) (x8 : Int) (x9 : Int) (x10 : Int) (x11 : Int) (x13 : Int) (m : jM) : Option ((Int × Int) ⊕ Int) :=
  (if 64 ≤ (jw x13) then some (.inr x11) else ((jd_245 x2 m).bind fun v10 => ((jd_246 x2 m).bind fun v12 => ((jd_251 x3 0 ((8 * v10) + (jrem x13 8)) ((8 * v12) + (jdiv x13 8)) x10 x9 m).bind fun v14 => ((jd_279 x1 0 ((8 * v10) + (jrem x13 8)) ((8 * v12) + (jdiv x13 8)) m).bind fun v16 => jd_283_b149 x1 x2 x3 x4 x5 x6 x8 x9 x10 x13 (if 0 ≤ (jw (v14 - v16)) then (jw (v14 - v16)) else (jw (-(v14 - v16)))) x11 m)))))
def jd_283_l66 (x1 : Int) (x2 : Int) (x3 : Int) (x4 : Int) (x5 : Int) (x6 : Int) (x8 : Int) (x9 : Int) (x10 : Int) (x11 : Int) (x13 : Int) (m : jM) : Option Int :=
  jlp (fun s : (Int × Int) => jd_283_s66 x1 x2 x3 x4 x5 x6 x8 x9 x10 s.1 s.2 m) jfu (x11, x13)
def jd_283_b192 (x1 : Int) (x2 : Int) (x3 : Int) (x4 : Int) (x5 : Int) (x6 : Int) (x8 : Int) (x9 : Int) (x10 : Int) (m : jM) : Option ((Int × Int × jM) ⊕ (Int × jM)) :=
  some (.inl (x6, (x10 + 1), m))
def jd_283_b176 (x1 : Int) (x2 : Int) (x3 : Int) (x4 : Int) (x5 : Int) (x8 : Int) (x9 : Int) (x10 : Int) (x11 : Int) (m : jM) : Option ((Int × Int × jM) ⊕ (Int × jM)) :=
  ((some (jms m 76 76 x10)).bind fun m23 => ((some (jms m23 76 77 x9)).bind fun m25 => jd_283_b192 x1 x2 x3 x4 x5 x11 x8 x9 x10 m25))
def jd_283_s30 (x1 : Int) (x2 : Int) (x3 : Int) (x4 : Int) (x5 : Int) (x8 : Int) (x9 : Int) (x6 : Int) (x10 : Int) (m : jM) : Option ((Int × Int × jM) ⊕ (Int × jM)) :=
  (if (jw x8) < (jw x10) then some (.inr (x6, m)) else ((jd_235 (jd_236 (x10 - x4))).bind fun v5 => ((jd_235 (jd_236 (x9 - x5))).bind fun v7 => ((jd_283_l66 x1 x2 x3 x4 x5 x6 x8 x9 x10 (jw (v5 + v7)) 0 m).bind fun x20 => (if (jwl x6) < 0 then jd_283_b176 x1 x2 x3 x4 x5 x8 x9 x10 x20 m else (if (jwl x20) < (jwl x6) then jd_283_b176 x1 x2 x3 x4 x5 x8 x9 x10 x20 m else jd_283_b192 x1 x2 x3 x4 x5 x6 x8 x9 x10 m))))))
def jd_283_l30 (x1 : Int) (x2 : Int) (x3 : Int) (x4 : Int) (x5 : Int) (x8 : Int) (x9 : Int) (x6 : Int) (x10 : Int) (m : jM) : Option (Int × jM) :=
  jlp (fun s : (Int × Int × jM) => jd_283_s30 x1 x2 x3 x4 x5 x8 x9 s.1 s.2.1 s.2.2) jfu (x6, x10, m)
def jd_283_s18 (x1 : Int) (x2 : Int) (x3 : Int) (x4 : Int) (x5 : Int) (x8 : Int) (x6 : Int) (x9 : Int) (m : jM) : Option ((Int × Int × jM) ⊕ jM) :=
  (if (jw x8) < (jw x9) then some (.inr m) else ((jd_283_l30 x1 x2 x3 x4 x5 x8 x9 x6 (-x8) m).bind fun x28 => some (.inl (x28.1, (x9 + 1), x28.2))))
def jd_283_l18 (x1 : Int) (x2 : Int) (x3 : Int) (x4 : Int) (x5 : Int) (x8 : Int) (x6 : Int) (x9 : Int) (m : jM) : Option jM :=
  jlp (fun s : (Int × Int × jM) => jd_283_s18 x1 x2 x3 x4 x5 x8 s.1 s.2.1 s.2.2) jfu (x6, x9, m)
def jd_283 (p0 : Int) (p1 : Int) (p2 : Int) (p3 : Int) (p4 : Int) (m : jM) : Option jM :=
  ((jma m 82 3).bind fun v1 => ((jd_283_l18 p0 p1 p2 p3 p4 v1 (-1) (-v1) m).bind fun x30 => some x30))
def jd_284_s33 (x1 : Int) (x2 : Int) (x3 : Int) (x4 : Int) (x5 : Int) (x6 : Int) (m : jM) : Option ((Int × jM) ⊕ jM) :=
  (if 96 ≤ (jw x6) then some (.inr m) else ((jmw m 115 x6 0).bind fun m12 => some (.inl ((x6 + 1), m12))))
def jd_284_l33 (x1 : Int) (x2 : Int) (x3 : Int) (x4 : Int) (x5 : Int) (x6 : Int) (m : jM) : Option jM :=
  jlp (fun s : (Int × jM) => jd_284_s33 x1 x2 x3 x4 x5 s.1 s.2) jfu (x6, m)
def jd_284_b282 (x1 : Int) (x2 : Int) (x4 : Int) (x5 : Int) (x6 : Int) (x7 : Int) (x8 : Int) (x9 : Int) (m : jM) : Option ((Int × jM) ⊕ jM) :=
  some (.inl ((x9 + 1), m))
def jd_284_b262 (x1 : Int) (x2 : Int) (x4 : Int) (x5 : Int) (x6 : Int) (x7 : Int) (x8 : Int) (x9 : Int) (x10 : Int) (m : jM) : Option ((Int × jM) ⊕ jM) :=
  ((jd_260 x1 x2 (x9 + 1) m).bind fun v41 => ((jd_234 (jd_236 (x10 - v41)) m).bind fun m43 => jd_284_b282 x1 x2 x4 x5 x6 x7 x8 x9 m43))
def jd_284_b239 (x1 : Int) (x2 : Int) (x4 : Int) (x5 : Int) (x6 : Int) (x7 : Int) (x8 : Int) (x9 : Int) (y0 : Int) (m : jM) : Option ((Int × jM) ⊕ jM) :=
  (if 2 ≤ (jw x9) then (if (jw x8) = 1 then jd_284_b262 x1 x2 x4 x5 x6 x7 x8 x9 y0 m else jd_284_b282 x1 x2 x4 x5 x6 x7 x8 x9 m) else (if (jw x7) = 1 then jd_284_b262 x1 x2 x4 x5 x6 x7 x8 x9 y0 m else jd_284_b282 x1 x2 x4 x5 x6 x7 x8 x9 m))
def jd_284_s191 (x1 : Int) (x2 : Int) (x4 : Int) (x5 : Int) (x6 : Int) (x7 : Int) (x8 : Int) (x9 : Int) (m : jM) : Option ((Int × jM) ⊕ jM) :=
  (if 4 ≤ (jw x9) then some (.inr m) else jd_284_b239 x1 x2 x4 x5 x6 x7 x8 x9 (if (jw x9) = 0 then (m 76 62) else (if (jw x9) = 1 then (m 76 63) else (if (jw x9) = 2 then (m 76 64) else (m 76 65)))) m)
def jd_284_l191 (x1 : Int) (x2 : Int) (x4 : Int) (x5 : Int) (x6 : Int) (x7 : Int) (x8 : Int) (x9 : Int) (m : jM) : Option jM :=
  jlp (fun s : (Int × jM) => jd_284_s191 x1 x2 x4 x5 x6 x7 x8 s.1 s.2) jfu (x9, m)
def jd_284_s317 (x1 : Int) (x2 : Int) (x4 : Int) (x5 : Int) (x6 : Int) (x9 : Int) (m : jM) : Option ((Int × jM) ⊕ jM) :=
  (if 6 ≤ (jw x9) then some (.inr m) else (if (jw x6) = 0 then ((jd_282 x1 x2 x9 x4 m).bind fun m56 => some (.inl ((x9 + 1), m56))) else some (.inr m)))
def jd_284_l317 (x1 : Int) (x2 : Int) (x4 : Int) (x5 : Int) (x6 : Int) (x9 : Int) (m : jM) : Option jM :=
  jlp (fun s : (Int × jM) => jd_284_s317 x1 x2 x4 x5 x6 s.1 s.2) jfu (x9, m)
def jd_284_s375 (x1 : Int) (x2 : Int) (x5 : Int) (x11 : Int) (x9 : Int) (x12 : Int) (m : jM) : Option ((Int × Int) ⊕ Int) :=
  (if (jw ((jd_243 x11) * (jd_243 x11))) ≤ (jw x12) then some (.inr x9) else ((jma m 114 ((jd_244 x11) + x12)).bind fun v62 => ((jma m 115 ((jd_244 x11) + x12)).bind fun v64 => ((jd_280 x1 x2 x11 x12 m).bind fun v66 => ((some ((jd_205 (jw (v62 + v64)) 0 255) - v66)).bind fun z68 => some (.inl ((x9 + (jw (z68 * z68))), (x12 + 1))))))))
def jd_284_l375 (x1 : Int) (x2 : Int) (x5 : Int) (x11 : Int) (x9 : Int) (x12 : Int) (m : jM) : Option Int :=
  jlp (fun s : (Int × Int) => jd_284_s375 x1 x2 x5 x11 s.1 s.2 m) jfu (x9, x12)
def jd_284_s366 (x1 : Int) (x2 : Int) (x5 : Int) (x9 : Int) (x11 : Int) (m : jM) : Option ((Int × Int) ⊕ Int) :=
  (if 3 ≤ (jw x11) then some (.inr x9) else ((jd_284_l375 x1 x2 x5 x11 x9 0 m).bind fun x70 => some (.inl (x70, (x11 + 1)))))
def jd_284_l366 (x1 : Int) (x2 : Int) (x5 : Int) (x9 : Int) (x11 : Int) (m : jM) : Option Int :=
  jlp (fun s : (Int × Int) => jd_284_s366 x1 x2 x5 s.1 s.2 m) jfu (x9, x11)
def jd_284_s489 (x1 : Int) (x2 : Int) (x5 : Int) (x11 : Int) (m : jM) : Option ((Int × jM) ⊕ jM) :=
  (if 96 ≤ (jw x11) then some (.inr m) else ((jma m 114 x11).bind fun v78 => ((jma m 115 x11).bind fun v80 => ((jmw m 122 x11 (jd_205 (jw (v78 + v80)) 0 255)).bind fun m82 => some (.inl ((x11 + 1), m82))))))
def jd_284_l489 (x1 : Int) (x2 : Int) (x5 : Int) (x11 : Int) (m : jM) : Option jM :=
  jlp (fun s : (Int × jM) => jd_284_s489 x1 x2 x5 s.1 s.2) jfu (x11, m)
def jd_284_s548 (x1 : Int) (x2 : Int) (x5 : Int) (x11 : Int) (m : jM) : Option ((Int × jM) ⊕ jM) :=
  (if 7 ≤ (jw x11) then some (.inr m) else ((jd_259 x1 x2 x11 m).bind fun v89 => ((jmw m 123 x11 v89).bind fun m91 => some (.inl ((x11 + 1), m91)))))
def jd_284_l548 (x1 : Int) (x2 : Int) (x5 : Int) (x11 : Int) (m : jM) : Option jM :=
  jlp (fun s : (Int × jM) => jd_284_s548 x1 x2 x5 s.1 s.2) jfu (x11, m)
def jd_284_s590 (x5 : Int) (x11 : Int) (m : jM) : Option ((Int × jM) ⊕ jM) :=
  (if (jw (m 76 74)) ≤ (jw x11) then some (.inr m) else ((jmb m 113 (x5 + x11)).bind fun v98 => ((jmw m 124 x11 v98).bind fun m100 => some (.inl ((x11 + 1), m100)))))
def jd_284_l590 (x5 : Int) (x11 : Int) (m : jM) : Option jM :=
  jlp (fun s : (Int × jM) => jd_284_s590 x5 s.1 s.2) jfu (x11, m)
def jd_284_b480 (x1 : Int) (x2 : Int) (x5 : Int) (x9 : Int) (m : jM) : Option jM :=
  ((some (jms m 76 75 x9)).bind fun m75 => ((jd_284_l489 x1 x2 x5 0 m75).bind fun x84 => ((jd_266 x1 x2 ((x84 76 53) - x5) x84).bind fun m86 => ((jd_284_l548 x1 x2 x5 0 m86).bind fun x93 => ((some (jms x93 76 74 ((x93 76 53) - x5))).bind fun m95 => ((jd_284_l590 x5 0 m95).bind fun x102 => some x102))))))
def jd_284_b288 (x1 : Int) (x2 : Int) (x4 : Int) (x5 : Int) (x6 : Int) (m : jM) : Option jM :=
  ((jd_247 x1 x2 (m 76 61) (m 76 62) (m 76 63) (m 76 64) (m 76 65) m).bind fun m52 => ((jd_284_l317 x1 x2 x4 x5 x6 0 m52).bind fun x58 => ((jd_284_l366 x1 x2 x5 (((jw x4) * (jw x4)) * (jw ((x58 76 53) - x5))) 0 x58).bind fun x72 => (if (jwl (x58 76 75)) < 0 then jd_284_b480 x1 x2 x5 x72 x58 else (if (jwl x72) < (jwl (x58 76 75)) then jd_284_b480 x1 x2 x5 x72 x58 else some x58)))))
def jd_284_b129 (x1 : Int) (x2 : Int) (x4 : Int) (x5 : Int) (x6 : Int) (x7 : Int) (y0 : Int) (m : jM) : Option jM :=
  (if (jw x6) = 0 then ((jma m 125 0).bind fun v22 => ((some (jms m 76 62 (x7 * v22))).bind fun m24 => ((jma m24 125 1).bind fun v26 => ((some (jms m24 76 63 (x7 * v26))).bind fun m28 => ((jma m28 125 2).bind fun v30 => ((some (jms m28 76 64 (y0 * v30))).bind fun m32 => ((jma m32 125 3).bind fun v34 => ((some (jms m32 76 65 (y0 * v34))).bind fun m36 => ((jd_284_l191 x1 x2 x4 x5 x6 x7 y0 0 m36).bind fun x50 => jd_284_b288 x1 x2 x4 x5 x6 x50))))))))) else jd_284_b288 x1 x2 x4 x5 x6 m)
def jd_284_b106 (x1 : Int) (x2 : Int) (x4 : Int) (x5 : Int) (x6 : Int) (y0 : Int) (m : jM) : Option jM :=
  jd_284_b129 x1 x2 x4 x5 x6 y0 (if (jw (m 76 61)) = 4 then 1 else (if (jw (m 76 61)) = 5 then 1 else 0)) m
def jd_284_b85 (x1 : Int) (x2 : Int) (x4 : Int) (x5 : Int) (x6 : Int) (m : jM) : Option jM :=
  jd_284_b106 x1 x2 x4 x5 x6 (if (jw (m 76 61)) = 3 then 1 else (if (jw (m 76 61)) = 5 then 1 else 0)) m
def jd_284 (p0 : Int) (p1 : Int) (p2 : Int) (p3 : Int) (p4 : Int) (m : jM) : Option jM :=
  ((some (jms m 76 53 p4)).bind fun m1 => ((some (jms m1 76 60 p2)).bind fun m3 => ((jma m3 102 p0).bind fun v5 => ((some (jms m3 76 61 (jd_261 v5 p2))).bind fun m7 => ((some (jms m7 76 59 0)).bind fun m9 => ((jd_284_l33 p0 p1 p2 p3 p4 0 m9).bind fun x14 => ((jd_234 p2 x14).bind fun m16 => ((some (if (jw (m16 76 61)) = (-1) then 1 else 0)).bind fun z18 => (if (jw z18) = 0 then jd_284_b85 p0 p1 p3 p4 z18 m16 else ((jd_264 p0 p1 m16).bind fun m111 => jd_284_b85 p0 p1 p3 p4 z18 m111))))))))))
def jd_285_s141 (x1 : Int) (x2 : Int) (x3 : Int) (x4 : Int) (x5 : Int) (m : jM) : Option ((Int × jM) ⊕ jM) :=
  ((jma m 102 x1).bind fun v21 => (if (jw (jd_262 v21)) ≤ (jw x5) then some (.inr m) else ((jd_284 x1 x2 x5 x3 x4 m).bind fun m24 => some (.inl ((x5 + 1), m24)))))
def jd_285_l141 (x1 : Int) (x2 : Int) (x3 : Int) (x4 : Int) (x5 : Int) (m : jM) : Option jM :=
  jlp (fun s : (Int × jM) => jd_285_s141 x1 x2 x3 x4 s.1 s.2) jfu (x5, m)
def jd_285_s175 (x1 : Int) (x2 : Int) (x4 : Int) (x5 : Int) (m : jM) : Option ((Int × jM) ⊕ jM) :=
  (if 7 ≤ (jw x5) then some (.inr m) else ((jma m 123 x5).bind fun v29 => ((jmw m 111 (((63 * x1) + (7 * x2)) + x5) v29).bind fun m31 => some (.inl ((x5 + 1), m31)))))
def jd_285_l175 (x1 : Int) (x2 : Int) (x4 : Int) (x5 : Int) (m : jM) : Option jM :=
  jlp (fun s : (Int × jM) => jd_285_s175 x1 x2 x4 s.1 s.2) jfu (x5, m)
def jd_285_s215 (x1 : Int) (x2 : Int) (x4 : Int) (x5 : Int) (m : jM) : Option ((Int × jM) ⊕ jM) :=
  (if (jw (m 76 74)) ≤ (jw x5) then some (.inr m) else ((jmb m 124 x5).bind fun v36 => ((jmw m 113 (x4 + x5) v36).bind fun m38 => some (.inl ((x5 + 1), m38)))))
def jd_285_l215 (x1 : Int) (x2 : Int) (x4 : Int) (x5 : Int) (m : jM) : Option jM :=
  jlp (fun s : (Int × jM) => jd_285_s215 x1 x2 x4 s.1 s.2) jfu (x5, m)
def jd_285_s261 (x1 : Int) (x2 : Int) (x5 : Int) (m : jM) : Option ((Int × jM) ⊕ jM) :=
  (if 96 ≤ (jw x5) then some (.inr m) else ((jma m 122 x5).bind fun v45 => ((jmw m 114 x5 v45).bind fun m47 => ((jmw m47 115 x5 0).bind fun m49 => some (.inl ((x5 + 1), m49))))))
def jd_285_l261 (x1 : Int) (x2 : Int) (x5 : Int) (m : jM) : Option jM :=
  jlp (fun s : (Int × jM) => jd_285_s261 x1 x2 s.1 s.2) jfu (x5, m)
def jd_285_b138 (x1 : Int) (x2 : Int) (x3 : Int) (x4 : Int) (m : jM) : Option jM :=
  ((jd_285_l141 x1 x2 x3 x4 0 m).bind fun x26 => ((jd_285_l175 x1 x2 x4 0 x26).bind fun x33 => ((jd_285_l215 x1 x2 x4 0 x33).bind fun x40 => ((some (jms x40 76 53 (x4 + (x40 76 74)))).bind fun m42 => ((jd_285_l261 x1 x2 0 m42).bind fun x51 => ((jd_267 x1 x2 x51).bind fun m53 => some m53))))))
def jd_285_b82 (x1 : Int) (x2 : Int) (x3 : Int) (x4 : Int) (m : jM) : Option jM :=
  ((jma m 102 x1).bind fun v6 => (if (jw v6) = 2 then ((jd_239 x1 1 m).bind fun v9 => ((jd_260 x1 x2 3 m).bind fun v11 => ((jd_260 x1 x2 4 m).bind fun v13 => ((jd_283 x1 x2 v9 v11 v13 m).bind fun m15 => ((jmw m15 125 2 (m15 76 76)).bind fun m17 => ((jmw m17 125 3 (m17 76 77)).bind fun m19 => jd_285_b138 x1 x2 x3 x4 m19)))))) else jd_285_b138 x1 x2 x3 x4 m))
def jd_285 (p0 : Int) (p1 : Int) (p2 : Int) (m : jM) : Option jM :=
  ((some (jms m 76 75 (-1))).bind fun m1 => ((jma m1 102 p0).bind fun v3 => (if (jw v3) = 0 then jd_285_b82 p0 p1 p2 (m 76 53) m1 else ((jma m1 102 p0).bind fun v55 => ((jd_239 p0 (if (jw v55) = 2 then 2 else 1) m1).bind fun v57 => ((jd_260 p0 p1 1 m1).bind fun v59 => ((jd_260 p0 p1 2 m1).bind fun v61 => ((jd_283 p0 p1 v57 v59 v61 m1).bind fun m63 => ((jmw m63 125 0 (m63 76 76)).bind fun m65 => ((jmw m65 125 1 (m65 76 77)).bind fun m67 => jd_285_b82 p0 p1 p2 (m 76 53) m67))))))))))
def jd_286_s29 (x1 : Int) (x2 : Int) (x3 : Int) (x4 : Int) (x5 : Int) (m : jM) : Option ((Int × jM) ⊕ jM) :=
  (if (jw (x3 * x4)) ≤ (jw x5) then some (.inr m) else ((jma m 103 x1).bind fun v3 => ((jma m 121 (((864 * v3) + (jd_207 x2)) + x5)).bind fun v5 => ((jmw m 118 x5 v5).bind fun m7 => some (.inl ((x5 + 1), m7))))))
def jd_286_l29 (x1 : Int) (x2 : Int) (x3 : Int) (x4 : Int) (x5 : Int) (m : jM) : Option jM :=
  jlp (fun s : (Int × jM) => jd_286_s29 x1 x2 x3 x4 s.1 s.2) jfu (x5, m)
def jd_286_b176 (x1 : Int) (x2 : Int) (x3 : Int) (x4 : Int) (x5 : Int) (x6 : Int) (m : jM) : Option ((Int × Int × jM) ⊕ (Int × jM)) :=
  some (.inl (x5, (x6 + 1), m))
def jd_286_s128 (x1 : Int) (x2 : Int) (x3 : Int) (x4 : Int) (x5 : Int) (x6 : Int) (m : jM) : Option ((Int × Int × jM) ⊕ (Int × jM)) :=
  (if (jw (x3 * x4)) ≤ (jw x6) then some (.inr (x5, m)) else ((jma m 118 x6).bind fun v20 => (if (jw v20) = 0 then jd_286_b176 x1 x2 x3 x4 (x5 + 1) x6 m else ((jd_234 x5 m).bind fun m23 => ((jma m23 118 x6).bind fun v25 => ((jd_234 (jd_236 v25) m23).bind fun m27 => jd_286_b176 x1 x2 x3 x4 0 x6 m27))))))
def jd_286_l128 (x1 : Int) (x2 : Int) (x3 : Int) (x4 : Int) (x5 : Int) (x6 : Int) (m : jM) : Option (Int × jM) :=
  jlp (fun s : (Int × Int × jM) => jd_286_s128 x1 x2 x3 x4 s.1 s.2.1 s.2.2) jfu (x5, x6, m)
def jd_286_b193 (x1 : Int) (x2 : Int) (m : jM) : Option ((Int × jM) ⊕ jM) :=
  some (.inl ((x2 + 1), m))
def jd_286_s2 (x1 : Int) (x2 : Int) (m : jM) : Option ((Int × jM) ⊕ jM) :=
  (if 3 ≤ (jw x2) then some (.inr m) else ((jd_286_l29 x1 x2 (jd_206 (m 76 33) x2) (jd_206 (m 76 34) x2) 0 m).bind fun x9 => ((jd_273 (jd_206 (m 76 33) x2) (jd_206 (m 76 33) x2) (jd_206 (m 76 34) x2) 1 0 x9).bind fun m11 => ((jd_273 (jd_206 (m 76 33) x2) (jd_206 (m 76 33) x2) (jd_206 (m 76 34) x2) 0 0 m11).bind fun m13 => ((jd_273 (jd_206 (m 76 33) x2) (jdiv (jd_206 (m 76 33) x2) 2) (jdiv (jd_206 (m 76 34) x2) 2) 1 0 m13).bind fun m15 => ((jd_273 (jd_206 (m 76 33) x2) (jdiv (jd_206 (m 76 33) x2) 2) (jdiv (jd_206 (m 76 34) x2) 2) 0 0 m15).bind fun m17 => ((jd_286_l128 x1 x2 (jd_206 (m 76 33) x2) (jd_206 (m 76 34) x2) 0 0 m17).bind fun x29 => (if (jw x29.1) ≤ 0 then jd_286_b193 x1 x2 x29.2 else ((jd_234 x29.1 x29.2).bind fun m32 => jd_286_b193 x1 x2 m32)))))))))
def jd_286_l2 (x1 : Int) (x2 : Int) (m : jM) : Option jM :=
  jlp (fun s : (Int × jM) => jd_286_s2 x1 s.1 s.2) jfu (x2, m)
def jd_286 (p0 : Int) (m : jM) : Option jM :=
  ((jd_286_l2 p0 0 m).bind fun x34 => some x34)
def jd_287 (p0 : Int) (p1 : Int) (p2 : Int) (m : jM) : Option Int :=
  ((jma m 103 p0).bind fun v1 => ((jma m 121 (((864 * v1) + (jd_207 p1)) + p2)).bind fun v3 => some v3))
def jd_288 (p0 : Int) (p1 : Int) (p2 : Int) (m : jM) : Option Int :=
  ((jd_239 p0 1 m).bind fun v1 => ((jma m 109 (((864 * v1) + (jd_207 p1)) + p2)).bind fun v3 => some v3))
def jd_290_b93 (y0 : Int) (m : jM) : Option Int :=
  ((jbc y0).bind fun u14 => some y0)
def jd_290 (p0 : Int) (p1 : Int) (p2 : Int) (p3 : Int) (p4 : Int) (p5 : Int) (m : jM) : Option Int :=
  ((jd_287 p0 p1 ((p2 + p4) - 1) m).bind fun v1 => (if (jw p3) = 0 then ((jd_287 p0 p1 p2 m).bind fun v4 => some (if (jw v1) = (jw v4) then 1 else 0)) else (if (jw p3) = 1 then ((jd_288 p0 p1 ((p2 + p4) - 1) m).bind fun v9 => some (if (jw v1) = (jw v9) then 1 else 0)) else (if (jw p3) = 3 then jd_290_b93 1 m else ((jd_287 p0 p1 (((p2 + p4) - 1) - p5) m).bind fun v16 => jd_290_b93 (if (jw v1) = (jw v16) then 1 else 0) m)))))
def jd_289_b263 (x1 : Int) (x2 : Int) (x3 : Int) (x4 : Int) (x5 : Int) (x6 : Int) (m : jM) : Option ((Int × jM) ⊕ jM) :=
  some (.inl ((x6 + 1), m))
def jd_289_b257 (x1 : Int) (x2 : Int) (x3 : Int) (x4 : Int) (x5 : Int) (x6 : Int) (x7 : Int) (m : jM) : Option ((Int × jM) ⊕ jM) :=
  some (.inl ((x7 + 1), m))
def jd_289_b220 (x1 : Int) (x2 : Int) (x3 : Int) (x4 : Int) (x5 : Int) (x6 : Int) (x7 : Int) (x8 : Int) (y0 : Int) (m : jM) : Option ((Int × jM) ⊕ jM) :=
  (if (jw y0) = 0 then jd_289_b257 x1 x2 x3 x4 x5 x6 x7 m else ((jmw m 126 x5 x8).bind fun m29 => ((jmw m29 127 x5 x6).bind fun m31 => ((jmw m31 128 x5 x7).bind fun m33 => jd_289_b257 x1 x2 x3 x4 x5 x6 x7 m33))))
def jd_289_b215 (x1 : Int) (x2 : Int) (x3 : Int) (x4 : Int) (x5 : Int) (x6 : Int) (x7 : Int) (x8 : Int) (m : jM) : Option ((Int × jM) ⊕ jM) :=
  jd_289_b220 x1 x2 x3 x4 x5 x6 x7 x8 1 m
def jd_289_b154 (x1 : Int) (x2 : Int) (x3 : Int) (x4 : Int) (x5 : Int) (x6 : Int) (x7 : Int) (y0 : Int) (y1 : Int) (m : jM) : Option ((Int × jM) ⊕ jM) :=
  ((jma m 126 (x5 + x7)).bind fun v23 => ((jma m 126 x5).bind fun v25 => (if (jw v25) = (-1) then jd_289_b215 x1 x2 x3 x4 x5 x6 x7 ((y1 + y0) + v23) m else ((jma m 126 x5).bind fun v35 => (if (jw ((y1 + y0) + v23)) < (jw v35) then jd_289_b215 x1 x2 x3 x4 x5 x6 x7 ((y1 + y0) + v23) m else ((jma m 126 x5).bind fun v38 => (if (jw ((y1 + y0) + v23)) = (jw v38) then ((jma m 127 x5).bind fun v41 => jd_289_b220 x1 x2 x3 x4 x5 x6 x7 ((y1 + y0) + v23) (if (jw v41) = (jw x6) then 1 else 0) m) else jd_289_b220 x1 x2 x3 x4 x5 x6 x7 ((y1 + y0) + v23) 0 m)))))))
def jd_289_s90 (x1 : Int) (x2 : Int) (x3 : Int) (x4 : Int) (x5 : Int) (x6 : Int) (x7 : Int) (m : jM) : Option ((Int × jM) ⊕ jM) :=
  (if (jw x4) < (jw (x5 + x7)) then some (.inr m) else ((jd_290 x1 x2 x5 x6 x7 x3 m).bind fun v16 => (if (jw v16) = 0 then some (.inr m) else ((jd_235 x6).bind fun v19 => ((jd_235 (x7 - 1)).bind fun v21 => jd_289_b154 x1 x2 x3 x4 x5 x6 x7 (if (jw x6) = 0 then 8 else (if (jw x6) = 3 then (8 * x7) else 0)) (v19 + v21) m)))))
def jd_289_l90 (x1 : Int) (x2 : Int) (x3 : Int) (x4 : Int) (x5 : Int) (x6 : Int) (x7 : Int) (m : jM) : Option jM :=
  jlp (fun s : (Int × jM) => jd_289_s90 x1 x2 x3 x4 x5 x6 s.1 s.2) jfu (x7, m)
def jd_289_b87 (x1 : Int) (x2 : Int) (x3 : Int) (x4 : Int) (x5 : Int) (x6 : Int) (m : jM) : Option ((Int × jM) ⊕ jM) :=
  ((jd_289_l90 x1 x2 x3 x4 x5 x6 1 m).bind fun x48 => jd_289_b263 x1 x2 x3 x4 x5 x6 x48)
def jd_289_b72 (x1 : Int) (x2 : Int) (x3 : Int) (x4 : Int) (x5 : Int) (x6 : Int) (m : jM) : Option ((Int × jM) ⊕ jM) :=
  (if (jw x6) = 2 then (if (jw x3) ≤ (jw x5) then jd_289_b87 x1 x2 x3 x4 x5 x6 m else jd_289_b263 x1 x2 x3 x4 x5 x6 m) else jd_289_b87 x1 x2 x3 x4 x5 x6 m)
def jd_289_s51 (x1 : Int) (x2 : Int) (x3 : Int) (x4 : Int) (x5 : Int) (x6 : Int) (m : jM) : Option ((Int × jM) ⊕ jM) :=
  (if 4 ≤ (jw x6) then some (.inr m) else (if (jw x6) = 1 then ((jma m 102 x1).bind fun v10 => (if (jw v10) = 0 then jd_289_b263 x1 x2 x3 x4 x5 x6 m else jd_289_b72 x1 x2 x3 x4 x5 x6 m)) else jd_289_b72 x1 x2 x3 x4 x5 x6 m))
def jd_289_l51 (x1 : Int) (x2 : Int) (x3 : Int) (x4 : Int) (x5 : Int) (x6 : Int) (m : jM) : Option jM :=
  jlp (fun s : (Int × jM) => jd_289_s51 x1 x2 x3 x4 x5 s.1 s.2) jfu (x6, m)
def jd_289_s35 (x1 : Int) (x2 : Int) (x3 : Int) (x4 : Int) (x5 : Int) (m : jM) : Option ((Int × jM) ⊕ jM) :=
  (if (jw x5) < 0 then some (.inr m) else ((jmw m 126 x5 (-1)).bind fun m6 => ((jd_289_l51 x1 x2 x3 x4 x5 0 m6).bind fun x50 => some (.inl ((x5 + (-1)), x50)))))
def jd_289_l35 (x1 : Int) (x2 : Int) (x3 : Int) (x4 : Int) (x5 : Int) (m : jM) : Option jM :=
  jlp (fun s : (Int × jM) => jd_289_s35 x1 x2 x3 x4 s.1 s.2) jfu (x5, m)
def jd_289_s336 (x1 : Int) (x2 : Int) (x4 : Int) (x5 : Int) (x6 : Int) (m : jM) : Option ((Int × jM) ⊕ jM) :=
  ((jma m 128 x5).bind fun v70 => (if (jw v70) ≤ (jw x6) then some (.inr m) else ((jma m 127 x5).bind fun v73 => (if (jw v73) = 3 then ((jd_287 x1 x2 (x5 + x6) m).bind fun v76 => ((jd_232 v76 8 m).bind fun m78 => some (.inl ((x6 + 1), m78)))) else some (.inr m)))))
def jd_289_l336 (x1 : Int) (x2 : Int) (x4 : Int) (x5 : Int) (x6 : Int) (m : jM) : Option jM :=
  jlp (fun s : (Int × jM) => jd_289_s336 x1 x2 x4 x5 s.1 s.2) jfu (x6, m)
def jd_289_b333 (x1 : Int) (x2 : Int) (x4 : Int) (x5 : Int) (m : jM) : Option ((Int × jM) ⊕ jM) :=
  ((jd_289_l336 x1 x2 x4 x5 0 m).bind fun x80 => ((jma x80 128 x5).bind fun v82 => some (.inl ((x5 + v82), x80))))
def jd_289_s278 (x1 : Int) (x2 : Int) (x4 : Int) (x5 : Int) (m : jM) : Option ((Int × jM) ⊕ jM) :=
  (if (jw x4) ≤ (jw x5) then some (.inr m) else ((jma m 127 x5).bind fun v55 => ((jd_234 v55 m).bind fun m57 => ((jma m57 128 x5).bind fun v59 => ((jd_234 (v59 - 1) m57).bind fun m61 => ((jma m61 127 x5).bind fun v63 => (if (jw v63) = 0 then ((jd_287 x1 x2 x5 m61).bind fun v66 => ((jd_232 v66 8 m61).bind fun m68 => jd_289_b333 x1 x2 x4 x5 m68)) else jd_289_b333 x1 x2 x4 x5 m61)))))))
def jd_289_l278 (x1 : Int) (x2 : Int) (x4 : Int) (x5 : Int) (m : jM) : Option jM :=
  jlp (fun s : (Int × jM) => jd_289_s278 x1 x2 x4 s.1 s.2) jfu (x5, m)
def jd_289 (p0 : Int) (p1 : Int) (m : jM) : Option jM :=
  ((some ((jd_206 (m 76 33) p1) * (jd_206 (m 76 34) p1))).bind fun z1 => ((jmw m 126 z1 0).bind fun m3 => ((jd_289_l35 p0 p1 (jd_206 (m 76 33) p1) z1 (z1 - 1) m3).bind fun x52 => ((jd_289_l278 p0 p1 z1 0 x52).bind fun x84 => some x84))))
def jd_291_s37 (x1 : Int) (x2 : Int) (x3 : Int) (m : jM) : Option ((Int × jM) ⊕ jM) :=
  (if (jw (jd_238 m)) ≤ (jw x3) then some (.inr m) else ((jd_285 x1 x3 x2 m).bind fun m9 => some (.inl ((x3 + 1), m9))))
def jd_291_l37 (x1 : Int) (x2 : Int) (x3 : Int) (m : jM) : Option jM :=
  jlp (fun s : (Int × jM) => jd_291_s37 x1 x2 s.1 s.2) jfu (x3, m)
def jd_291_b145  (m : jM) : Option (Int × jM) :=
  some ((jdiv ((m 76 53) + 7) 8), m)
def jd_291_s63 (x1 : Int) (x3 : Int) (m : jM) : Option ((Int × jM) ⊕ jM) :=
  (if 864 ≤ (jw x3) then some (.inr m) else ((jma m 103 x1).bind fun v14 => ((jma m 121 ((864 * v14) + x3)).bind fun v16 => ((jmw m 109 ((864 * x1) + x3) v16).bind fun m18 => some (.inl ((x3 + 1), m18))))))
def jd_291_l63 (x1 : Int) (x3 : Int) (m : jM) : Option jM :=
  jlp (fun s : (Int × jM) => jd_291_s63 x1 s.1 s.2) jfu (x3, m)
def jd_291_s120 (x1 : Int) (x3 : Int) (m : jM) : Option ((Int × jM) ⊕ jM) :=
  (if 3 ≤ (jw x3) then some (.inr m) else (if (jw (m 76 32)) = 2 then ((jd_289 x1 x3 m).bind fun m27 => some (.inl ((x3 + 1), m27))) else some (.inr m)))
def jd_291_l120 (x1 : Int) (x3 : Int) (m : jM) : Option jM :=
  jlp (fun s : (Int × jM) => jd_291_s120 x1 s.1 s.2) jfu (x3, m)
def jd_291_b118 (x1 : Int) (m : jM) : Option (Int × jM) :=
  ((jd_291_l120 x1 0 m).bind fun x29 => jd_291_b145  x29)
def jd_291 (p0 : Int) (p1 : Int) (m : jM) : Option (Int × jM) :=
  ((some (jms m 76 53 0)).bind fun m1 => ((jd_242 p0 m1).bind fun m3 => ((jmw m3 104 p0 (if (jw (m3 76 32)) = 0 then p1 else 0)).bind fun m5 => (if (jw (m5 76 32)) = 0 then ((jd_291_l37 p0 p1 0 m5).bind fun x11 => jd_291_b145  x11) else ((jd_291_l63 p0 0 m5).bind fun x20 => (if (jw (x20 76 32)) = 1 then ((jd_286 p0 x20).bind fun m23 => jd_291_b118 p0 m23) else jd_291_b118 p0 x20))))))
def jd_292_b21  (m : jM) : Option jM :=
  ((some (jms m 76 47 ((m 76 47) + 1))).bind fun m2 => some m2)
def jd_292 (p0 : Int) (m : jM) : Option jM :=
  (if 24100 ≤ (jw (m 76 47)) then jd_292_b21  m else ((jmw m 112 (m 76 47) (jwb p0)).bind fun m4 => jd_292_b21  m4))
def jd_293_b149 (x1 : Int) (x2 : Int) (x3 : Int) (m : jM) : Option ((Int × Int × jM) ⊕ jM) :=
  some (.inl (x2, (x3 + 1), m))
def jd_293_s104 (x1 : Int) (x3 : Int) (x5 : Int) (m : jM) : Option ((Int × jM) ⊕ jM) :=
  (if (jw x3) ≤ (jw x5) then some (.inr m) else ((jmw m 102 (m 76 35) 2).bind fun m19 => ((jmw m19 103 (m19 76 35) x5).bind fun m21 => ((some (jms m21 76 35 ((m21 76 35) + 1))).bind fun m23 => some (.inl ((x5 + 1), m23))))))
def jd_293_l104 (x1 : Int) (x3 : Int) (x5 : Int) (m : jM) : Option jM :=
  jlp (fun s : (Int × jM) => jd_293_s104 x1 x3 s.1 s.2) jfu (x5, m)
def jd_293_b51 (x1 : Int) (x2 : Int) (x3 : Int) (y0 : Int) (m : jM) : Option ((Int × Int × jM) ⊕ jM) :=
  (if (jw y0) = 0 then jd_293_b149 x1 x2 x3 m else ((jmw m 102 (m 76 35) (if (jw x3) = 0 then 0 else 1)).bind fun m12 => ((jmw m12 103 (m12 76 35) x3).bind fun m14 => ((some (jms m14 76 35 ((m14 76 35) + 1))).bind fun m16 => ((jd_293_l104 x1 x3 (x2 + 1) m16).bind fun x25 => jd_293_b149 x1 x3 x3 x25)))))
def jd_293_s14 (x1 : Int) (x2 : Int) (x3 : Int) (m : jM) : Option ((Int × Int × jM) ⊕ jM) :=
  (if (jw x1) ≤ (jw x3) then some (.inr m) else (if (jw (m 76 32)) = 0 then ((jma m 82 2).bind fun v7 => ((jnz (v7 + 1)).bind fun u9 => jd_293_b51 x1 x2 x3 (if (jw (jrem x3 (v7 + 1))) = 0 then 1 else (if (jw x3) = (jw (x1 - 1)) then 1 else 0)) m)) else ((jmw m 102 (m 76 35) (if (jw x3) = 0 then 0 else 1)).bind fun m32 => ((jmw m32 103 (m32 76 35) x3).bind fun m34 => ((some (jms m34 76 35 ((m34 76 35) + 1))).bind fun m36 => ((jd_293_l104 x1 x3 (x2 + 1) m36).bind fun x38 => jd_293_b149 x1 x3 x3 x38))))))
def jd_293_l14 (x1 : Int) (x2 : Int) (x3 : Int) (m : jM) : Option jM :=
  jlp (fun s : (Int × Int × jM) => jd_293_s14 x1 s.1 s.2.1 s.2.2) jfu (x2, x3, m)
def jd_293 (p0 : Int) (m : jM) : Option jM :=
  ((some (jms m 76 35 0)).bind fun m1 => ((some (jms m1 76 36 0)).bind fun m3 => ((jd_293_l14 p0 0 0 m3).bind fun x42 => some x42)))
def jd_294_s13 (x1 : Int) (x3 : Int) (x4 : Int) (x5 : Int) (x6 : Int) (m : jM) : Option ((Int × jM) ⊕ jM) :=
  (if (jw (m 76 35)) ≤ (jw x6) then some (.inr m) else ((jma m 103 x6).bind fun v6 => ((jmw m 103 x6 (v6 + x1)).bind fun m8 => some (.inl ((x6 + 1), m8)))))
def jd_294_l13 (x1 : Int) (x3 : Int) (x4 : Int) (x5 : Int) (x6 : Int) (m : jM) : Option jM :=
  jlp (fun s : (Int × jM) => jd_294_s13 x1 x3 x4 x5 s.1 s.2) jfu (x6, m)
def jd_294_b352 (x1 : Int) (x3 : Int) (x4 : Int) (x5 : Int) (x6 : Int) (m : jM) : Option ((Int × jM) ⊕ (jM ⊕ (jM ⊕ jM))) :=
  some (.inl ((x6 + 1), m))
def jd_294_b331 (x1 : Int) (x3 : Int) (x4 : Int) (x5 : Int) (x6 : Int) (x8 : Int) (x9 : Int) (x11 : Int) (y0 : Int) (y1 : Int) (m : jM) : Option ((Int × Int) ⊕ Int) :=
  some (.inl ((y1 + y0), (x11 + 1)))
def jd_294_s288 (x1 : Int) (x3 : Int) (x4 : Int) (x5 : Int) (x6 : Int) (x8 : Int) (x9 : Int) (x10 : Int) (x11 : Int) (m : jM) : Option ((Int × Int) ⊕ Int) :=
  (if 8 ≤ (jw x11) then some (.inr x10) else (if (jw (m 76 53)) ≤ (jw ((8 * x9) + x11)) then jd_294_b331 x1 x3 x4 x5 x6 x8 x9 x11 0 (2 * x10) m else ((jmb m 113 ((8 * x9) + x11)).bind fun v39 => jd_294_b331 x1 x3 x4 x5 x6 x8 x9 x11 v39 (2 * x10) m)))
def jd_294_l288 (x1 : Int) (x3 : Int) (x4 : Int) (x5 : Int) (x6 : Int) (x8 : Int) (x9 : Int) (x10 : Int) (x11 : Int) (m : jM) : Option Int :=
  jlp (fun s : (Int × Int) => jd_294_s288 x1 x3 x4 x5 x6 x8 x9 s.1 s.2 m) jfu (x10, x11)
def jd_294_s275 (x1 : Int) (x3 : Int) (x4 : Int) (x5 : Int) (x6 : Int) (x8 : Int) (x9 : Int) (m : jM) : Option ((Int × jM) ⊕ jM) :=
  (if (jw x8) ≤ (jw x9) then some (.inr m) else ((jd_294_l288 x1 x3 x4 x5 x6 x8 x9 0 0 m).bind fun x41 => ((jd_292 x41 m).bind fun m43 => some (.inl ((x9 + 1), m43)))))
def jd_294_l275 (x1 : Int) (x3 : Int) (x4 : Int) (x5 : Int) (x6 : Int) (x8 : Int) (x9 : Int) (m : jM) : Option jM :=
  jlp (fun s : (Int × jM) => jd_294_s275 x1 x3 x4 x5 x6 x8 s.1 s.2) jfu (x9, m)
def jd_294_b207 (x1 : Int) (x3 : Int) (x4 : Int) (x5 : Int) (x6 : Int) (x8 : Int) (m : jM) : Option ((Int × jM) ⊕ (jM ⊕ (jM ⊕ jM))) :=
  (if (jw x3) = (-1) then jd_294_b352 x1 x3 x4 x5 x6 m else ((jma m 102 x6).bind fun v20 => ((jd_292 v20 m).bind fun m22 => ((jma m22 103 x6).bind fun v24 => ((jd_292 ((v24 - x1) + x3) m22).bind fun m26 => ((jma m26 104 x6).bind fun v28 => ((jd_292 v28 m26).bind fun m30 => ((jd_292 (jdiv x8 256) m30).bind fun m32 => ((jd_292 (jrem x8 256) m32).bind fun m34 => ((jd_294_l275 x1 x3 x4 x5 x6 x8 0 m34).bind fun x45 => jd_294_b352 x1 x3 x4 x5 x6 x45))))))))))
def jd_294_b179 (x1 : Int) (x3 : Int) (x4 : Int) (x5 : Int) (x6 : Int) (x8 : Int) (m : jM) : Option ((Int × jM) ⊕ (jM ⊕ (jM ⊕ jM))) :=
  ((some (jms m 76 83 ((m 76 83) + (5 + x8)))).bind fun m16 => (if (jw x8) ≤ 2000 then jd_294_b207 x1 x3 x4 x5 x6 x8 m16 else (if (jw x3) = (-1) then jd_294_b207 x1 x3 x4 x5 x6 x8 m16 else some (.inr (.inr (.inl m16))))))
def jd_294_s116 (x1 : Int) (x3 : Int) (x4 : Int) (x5 : Int) (x6 : Int) (x7 : Int) (x8 : Int) (m : jM) : Option ((Int × Int × jM) ⊕ (Int × jM)) :=
  (if (jw (8 * x8)) ≤ (jw (m 76 82)) then some (.inr (x8, m)) else (if 31 ≤ (jw x7) then some (.inr (x8, m)) else ((jd_291 x6 (x7 + 1) m).bind fun q57 => some (.inl ((x7 + 1), q57.1, q57.2)))))
def jd_294_l116 (x1 : Int) (x3 : Int) (x4 : Int) (x5 : Int) (x6 : Int) (x7 : Int) (x8 : Int) (m : jM) : Option (Int × jM) :=
  jlp (fun s : (Int × Int × jM) => jd_294_s116 x1 x3 x4 x5 x6 s.1 s.2.1 s.2.2) jfu (x7, x8, m)
def jd_294_b113 (x1 : Int) (x3 : Int) (x4 : Int) (x5 : Int) (x6 : Int) (x7 : Int) (x8 : Int) (y0 : Int) (m : jM) : Option ((Int × jM) ⊕ (jM ⊕ (jM ⊕ jM))) :=
  ((some (jms m 76 82 y0)).bind fun m53 => ((jd_294_l116 x1 x3 x4 x5 x6 x7 x8 m53).bind fun x59 => (if (jw (8 * x59.1)) ≤ (jw (x59.2 76 82)) then ((some (jms x59.2 76 82 ((x59.2 76 82) - (8 * x59.1)))).bind fun m62 => jd_294_b179 x1 x3 x4 x5 x6 x59.1 m62) else some (.inr (.inl x59.2)))))
def jd_294_s42 (x1 : Int) (x3 : Int) (x4 : Int) (x5 : Int) (x6 : Int) (m : jM) : Option ((Int × jM) ⊕ (jM ⊕ (jM ⊕ jM))) :=
  (if (jw (m 76 35)) ≤ (jw x6) then some (.inr (.inr (.inr m))) else ((jd_291 x6 x4 m).bind fun q13 => (if (jw x5) = 0 then jd_294_b179 x1 x3 x4 x5 x6 q13.1 q13.2 else ((jma q13.2 82 5).bind fun v48 => ((jma q13.2 82 6).bind fun v50 => (if (jw v48) ≤ (jw ((q13.2 76 82) + v50)) then jd_294_b113 x1 x3 x4 x5 x6 x4 q13.1 v48 q13.2 else ((jma q13.2 82 6).bind fun v64 => jd_294_b113 x1 x3 x4 x5 x6 x4 q13.1 ((q13.2 76 82) + v64) q13.2)))))))
def jd_294_l42 (x1 : Int) (x3 : Int) (x4 : Int) (x5 : Int) (x6 : Int) (m : jM) : Option (jM ⊕ (jM ⊕ jM)) :=
  jlp (fun s : (Int × jM) => jd_294_s42 x1 x3 x4 x5 s.1 s.2) jfu (x6, m)
def jd_294 (p0 : Int) (p1 : Int) (p2 : Int) (p3 : Int) (p4 : Int) (m : jM) : Option (Int × jM) :=
  ((jd_293 p1 m).bind fun m1 => ((some (jms m1 76 83 0)).bind fun m3 => ((jd_294_l13 p0 p2 p3 p4 0 m3).bind fun x10 => ((jd_294_l42 p0 p2 p3 p4 0 x10).bind fun x66 => jse x66 (fun y68 => some (0, y68)) (fun y69 => jse y69 (fun y70 => some (0, y70)) (fun y71 => some (1, y71)))))))
def jd_295 (p0 : Int) (p1 : Int) (m : jM) : Option jM :=
  ((some (jms m 76 47 0)).bind fun m1 => ((jd_292 77 m1).bind fun m3 => ((jd_292 70 m3).bind fun m5 => ((jd_292 (m5 76 32) m5).bind fun m7 => ((jd_292 (jdiv (m7 76 33) 8) m7).bind fun m9 => ((jd_292 (jdiv (m9 76 34) 8) m9).bind fun m11 => ((jd_292 p0 m11).bind fun m13 => ((jd_292 p1 m13).bind fun m15 => some m15))))))))
def jd_296_b166 (x1 : Int) (x2 : Int) (x3 : Int) (m : jM) : Option (Int × jM) :=
  ((some (jms m 76 0 (if (jw x3) = 0 then 1 else 0))).bind fun m1 => (if (jw (m1 76 0)) ≤ 0 then ((jma m1 82 x1).bind fun v4 => ((jmw m1 82 x1 x2).bind fun m6 => some (v4, m6))) else some (0, m1)))
def jd_296 (p0 : Int) (p1 : Int) (m : jM) : Option (Int × jM) :=
  jd_296_b166 p0 p1 (if (jw p0) = 0 then (jd_204 (jw p1) 1 60) else (if (jw p0) = 1 then (jd_204 (jw p1) 1 12) else (if (jw p0) = 2 then (jd_204 (jw p1) 0 2) else (if (jw p0) = 3 then (jd_204 (jw p1) 0 8) else (if (jw p0) = 4 then (jd_204 (jw p1) 1 31) else (if (jw p0) = 5 then (if (jw p1) = 0 then 1 else (if (jw (jd_204 (jw p1) 100 20000)) = 0 then 0 else 1)) else (if (jw p0) = 6 then (jd_204 (jw p1) 50 10000) else (if (jw p0) = 7 then (jd_204 (jw p1) 0 1) else 0)))))))) m
def jd_297_s98 (x1 : Int) (x2 : Int) (m : jM) : Option ((Int × jM) ⊕ jM) :=
  (if 864 ≤ (jw x2) then some (.inr m) else ((jma m 79 ((864 * x1) + x2)).bind fun v14 => ((jmw m 81 ((864 * (m 76 7)) + x2) v14).bind fun m16 => some (.inl ((x2 + 1), m16)))))
def jd_297_l98 (x1 : Int) (x2 : Int) (m : jM) : Option jM :=
  jlp (fun s : (Int × jM) => jd_297_s98 x1 s.1 s.2) jfu (x2, m)
def jd_297_b64 (x1 : Int) (y0 : Int) (m : jM) : Option (Int × jM) :=
  ((some (jms m 76 0 y0)).bind fun m2 => (if (jw (m2 76 0)) ≤ 0 then ((jma m2 77 x1).bind fun v5 => ((some (jms m2 76 8 v5)).bind fun m7 => ((jma m7 78 x1).bind fun v9 => ((some (jms m7 76 9 v9)).bind fun m11 => ((jd_297_l98 x1 0 m11).bind fun x18 => ((some (jms x18 76 7 ((x18 76 7) + 1))).bind fun m20 => some ((m20 76 7), m20))))))) else some (0, m2)))
def jd_297 (p0 : Int) (m : jM) : Option (Int × jM) :=
  (if (jw (jd_210 p0 m)) = 0 then jd_297_b64 p0 1 m else (if (jw (m 76 7)) ≤ 0 then jd_297_b64 p0 (if (jw (m 76 7)) = 12 then 3 else 0) m else ((jma m 77 p0).bind fun v25 => (if (jw v25) = (jw (m 76 8)) then ((jma m 78 p0).bind fun v28 => jd_297_b64 p0 (if (jw v28) = (jw (m 76 9)) then (if (jw (m 76 7)) = 12 then 3 else 0) else 2) m) else jd_297_b64 p0 2 m))))
def jd_298  (m : jM) : Option (Int × jM) :=
  ((some (jms m 76 0 0)).bind fun m1 => ((some (jms m1 76 7 0)).bind fun m3 => some ((m1 76 7), m3)))
def jd_299_b114 (x1 : Int) (x2 : Int) (m : jM) : Option ((Int × jM) ⊕ jM) :=
  some (.inl ((x2 + 1), m))
def jd_299_b99 (x1 : Int) (x2 : Int) (x4 : Int) (m : jM) : Option ((Int × jM) ⊕ jM) :=
  ((jmw m 129 x1 x4).bind fun m17 => ((jmw m17 130 x1 x2).bind fun m19 => jd_299_b114 x1 x2 m19))
def jd_299_s30 (x1 : Int) (x2 : Int) (m : jM) : Option ((Int × jM) ⊕ jM) :=
  (if 4 < (jw x2) then some (.inr m) else (if (jw (m 76 7)) < (jw (x1 + x2)) then some (.inr m) else ((jma m 82 4).bind fun v8 => ((jd_294 x1 x2 (-1) v8 0 m).bind fun q10 => ((jma q10.2 129 (x1 + x2)).bind fun v12 => ((jma q10.2 129 x1).bind fun v14 => (if (jw v14) = (-1) then jd_299_b99 x1 x2 ((q10.2 76 83) + v12) q10.2 else ((jma q10.2 129 x1).bind fun v21 => (if (jw ((q10.2 76 83) + v12)) < (jw v21) then jd_299_b99 x1 x2 ((q10.2 76 83) + v12) q10.2 else jd_299_b114 x1 x2 q10.2)))))))))
def jd_299_l30 (x1 : Int) (x2 : Int) (m : jM) : Option jM :=
  jlp (fun s : (Int × jM) => jd_299_s30 x1 s.1 s.2) jfu (x2, m)
def jd_299_s17 (x1 : Int) (m : jM) : Option ((Int × jM) ⊕ jM) :=
  (if (jw x1) < 0 then some (.inr m) else ((jmw m 129 x1 (-1)).bind fun m4 => ((jd_299_l30 x1 1 m4).bind fun x24 => some (.inl ((x1 + (-1)), x24)))))
def jd_299_l17 (x1 : Int) (m : jM) : Option jM :=
  jlp (fun s : (Int × jM) => jd_299_s17 s.1 s.2) jfu (x1, m)
def jd_299  (m : jM) : Option jM :=
  ((jmw m 129 (m 76 7) 0).bind fun m1 => ((jd_299_l17 ((m1 76 7) - 1) m1).bind fun x26 => some x26))
def jd_302_b22 (y0 : Int) (m : jM) : Option Int :=
  some y0
def jd_302 (p0 : Int) (m : jM) : Option Int :=
  (if (jw (m 76 47)) ≤ (jw p0) then jd_302_b22 (-1) m else ((jmb m 112 p0).bind fun v2 => jd_302_b22 (jand v2 255) m))
def jd_303_b111 (x1 : Int) (y0 : Int) (m : jM) : Option (Int ⊕ (Int ⊕ Unit)) :=
  (if (jw y0) = 0 then some (.inr (.inl x1)) else some (.inl (x1 + 1)))
def jd_303_s2 (x1 : Int) (m : jM) : Option (Int ⊕ (Int ⊕ Unit)) :=
  (if 7 ≤ (jw x1) then some (.inr (.inr ())) else ((jd_302 x1 m).bind fun v2 => jd_303_b111 x1 (if (jw x1) = 0 then (if (jw v2) = 77 then 1 else 0) else (if (jw x1) = 1 then (if (jw v2) = 70 then 1 else 0) else (if (jw x1) = 2 then (jd_204 (jw v2) 0 2) else (if 5 ≤ (jw x1) then (if (jw x1) = 5 then (jd_204 (jw v2) 1 60) else (jd_204 (jw v2) 1 12)) else (jd_204 (jw v2) 1 3))))) m))
def jd_303_l2 (x1 : Int) (m : jM) : Option (Int ⊕ Unit) :=
  jlp (fun s : Int => jd_303_s2 s m) jfu x1
def jd_303  (m : jM) : Option Int :=
  ((jd_303_l2 0 m).bind fun x13 => jse x13 (fun y15 => some y15) (fun y16 => some (-1)))
def jd_304_b31 (x1 : Int) (x3 : Int) (y0 : Int) (m : jM) : Option ((Int × Int) ⊕ Int) :=
  some (.inl (y0, (x3 + 1)))
def jd_304_s4 (x1 : Int) (x2 : Int) (x3 : Int) (m : jM) : Option ((Int × Int) ⊕ Int) :=
  (if (jw (m 76 35)) ≤ (jw x3) then some (.inr x2) else (if (jw x2) = 0 then ((jma m 103 x3).bind fun v3 => jd_304_b31 x1 x3 (if (jw v3) = (jw x1) then 1 else 0) m) else jd_304_b31 x1 x3 1 m))
def jd_304_l4 (x1 : Int) (x2 : Int) (x3 : Int) (m : jM) : Option Int :=
  jlp (fun s : (Int × Int) => jd_304_s4 x1 s.1 s.2 m) jfu (x2, x3)
def jd_304 (p0 : Int) (m : jM) : Option Int :=
  ((jd_304_l4 p0 0 0 m).bind fun x7 => ((jbc x7).bind fun u9 => some x7))
def jd_305_b21  (m : jM) : Option Int :=
  some 0
def jd_305_b96 (y0 : Int) (m : jM) : Option Int :=
  ((jbc y0).bind fun u13 => some y0)
def jd_305_b61 (y0 : Int) (m : jM) : Option Int :=
  ((jbc y0).bind fun u20 => some y0)
def jd_305 (p0 : Int) (p1 : Int) (p2 : Int) (m : jM) : Option Int :=
  (if (jw (jd_204 (jw p1) 0 (jw (p2 - 1)))) = 0 then jd_305_b21  m else ((jd_304 p1 m).bind fun v2 => (if (jw v2) = 0 then ((jd_239 (m 76 35) 1 m).bind fun v5 => (if (jw p0) = 2 then ((jd_239 (m 76 35) 2 m).bind fun v8 => ((jma m 103 v8).bind fun v10 => (if (jw p1) ≤ (jw v10) then jd_305_b96 0 m else ((jma m 103 v5).bind fun v15 => jd_305_b96 (if (jw v15) ≤ (jw p1) then 0 else 1) m)))) else (if (jw v5) = (-1) then jd_305_b61 1 m else ((jma m 103 v5).bind fun v22 => jd_305_b61 (if (jw p1) ≤ (jw v22) then 0 else 1) m)))) else jd_305_b21  m)))
def jd_306_b46  (m : jM) : Option Int :=
  some 0
def jd_306_b99 (x1 : Int) (x2 : Int) (x4 : Int) (y0 : Int) (m : jM) : Option ((Int × Int) ⊕ Int) :=
  some (.inl (y0, (x4 + 1)))
def jd_306_s73 (x1 : Int) (x2 : Int) (x3 : Int) (x4 : Int) (m : jM) : Option ((Int × Int) ⊕ Int) :=
  (if (jw x2) ≤ (jw x4) then some (.inr x3) else (if (jw x3) = 0 then ((jd_305 x1 x4 x2 m).bind fun v15 => jd_306_b99 x1 x2 x4 (if (jw v15) = 0 then 0 else 1) m) else jd_306_b99 x1 x2 x4 1 m))
def jd_306_l73 (x1 : Int) (x2 : Int) (x3 : Int) (x4 : Int) (m : jM) : Option Int :=
  jlp (fun s : (Int × Int) => jd_306_s73 x1 x2 s.1 s.2 m) jfu (x3, x4)
def jd_306_b68 (x1 : Int) (x2 : Int) (m : jM) : Option Int :=
  ((jd_306_l73 x1 x2 0 0 m).bind fun x19 => ((jbc x19).bind fun u21 => some x19))
def jd_306_b48 (x1 : Int) (x2 : Int) (m : jM) : Option Int :=
  (if (jw x1) = 2 then ((jd_239 (m 76 35) 2 m).bind fun v10 => (if (jw v10) = (-1) then some 0 else jd_306_b68 x1 x2 m)) else jd_306_b68 x1 x2 m)
def jd_306_b33 (x1 : Int) (x2 : Int) (m : jM) : Option Int :=
  (if (jw (m 76 32)) = 2 then (if (jw x1) = 2 then jd_306_b46  m else jd_306_b48 x1 x2 m) else jd_306_b48 x1 x2 m)
def jd_306_b21 (x1 : Int) (x2 : Int) (m : jM) : Option Int :=
  (if (jw (m 76 32)) = 1 then (if (jw x1) = 0 then jd_306_b33 x1 x2 m else jd_306_b46  m) else jd_306_b33 x1 x2 m)
def jd_306 (p0 : Int) (p1 : Int) (m : jM) : Option Int :=
  (if (jw p0) = (-1) then jd_306_b46  m else (if 2 < (jw p0) then jd_306_b46  m else (if (jw (m 76 35)) = 0 then (if (jw p0) = 0 then jd_306_b21 p0 p1 m else jd_306_b46  m) else jd_306_b21 p0 p1 m)))
def jd_307_b99 (x1 : Int) (m : jM) : Option (Int × jM) :=
  some ((x1 + 2), m)
def jd_307_b136 (x1 : Int) (m : jM) : Option (Int × jM) :=
  some ((x1 + 3), m)
def jd_307_b224 (y0 : Int) (m : jM) : Option (Int × jM) :=
  some (y0, m)
def jd_307_b103 (x1 : Int) (x5 : Int) (m : jM) : Option (Int × jM) :=
  ((jmw m 104 (m 76 35) x5).bind fun m19 => ((jd_302 (x1 + 3) m19).bind fun v21 => (if (jw v21) = (-1) then jd_307_b136 x1 m19 else (if (jw v21) ≤ 7 then ((jd_302 (x1 + 4) m19).bind fun v25 => (if (jw v25) = (-1) then some ((x1 + 4), m19) else ((jmw m19 105 (m19 76 35) ((256 * v21) + v25)).bind fun m28 => ((jma m28 105 (m28 76 35)).bind fun v30 => (if (jw v30) ≤ 2000 then ((jma m28 105 (m28 76 35)).bind fun v33 => jd_307_b224 (if (jw ((x1 + 5) + v33)) ≤ (jw (m28 76 47)) then (-1) else (m28 76 47)) m28) else some ((x1 + 3), m28)))))) else jd_307_b136 x1 m19))))
def jd_307 (p0 : Int) (p1 : Int) (m : jM) : Option (Int × jM) :=
  ((jd_302 p0 m).bind fun v1 => ((jd_306 v1 p1 m).bind fun v3 => (if (jw v3) = 0 then some (p0, m) else ((jmw m 102 (m 76 35) v1).bind fun m6 => ((jd_302 (p0 + 1) m6).bind fun v8 => ((jd_305 v1 v8 p1 m6).bind fun v10 => (if (jw v10) = 0 then some ((p0 + 1), m6) else ((jmw m6 103 (m6 76 35) v8).bind fun m13 => ((jd_302 (p0 + 2) m13).bind fun v15 => (if (jw (m13 76 32)) = 0 then (if (jw (jd_204 (jw v15) 1 31)) = 0 then jd_307_b99 p0 m13 else jd_307_b103 p0 v15 m13) else (if (jw v15) = 0 then jd_307_b103 p0 v15 m13 else jd_307_b99 p0 m13)))))))))))
def jd_301_s69 (x2 : Int) (x3 : Int) (m : jM) : Option ((Int × jM) ⊕ ((Int × jM) ⊕ (Int × jM))) :=
  (if (jw x2) ≤ (jw (m 76 35)) then some (.inr (.inr (x3, m))) else ((jd_307 x3 x2 m).bind fun q23 => (if (jw q23.1) = (-1) then ((jmw q23.2 106 (q23.2 76 35) x3).bind fun m26 => ((jma m26 105 (m26 76 35)).bind fun v28 => ((some (jms m26 76 35 ((m26 76 35) + 1))).bind fun m30 => some (.inl ((x3 + (5 + v28)), m30))))) else some (.inr (.inl (q23.1, q23.2))))))
def jd_301_l69 (x2 : Int) (x3 : Int) (m : jM) : Option ((Int × jM) ⊕ (Int × jM)) :=
  jlp (fun s : (Int × jM) => jd_301_s69 x2 s.1 s.2) jfu (x3, m)
def jd_301  (m : jM) : Option (Int × jM) :=
  ((jd_303 m).bind fun v1 => (if (jw v1) = (-1) then ((jmb m 112 2).bind fun v4 => ((some (jms m 76 32 v4)).bind fun m6 => ((jmb m6 112 3).bind fun v8 => ((some (jms m6 76 33 (8 * v8))).bind fun m10 => ((jmb m10 112 4).bind fun v12 => ((some (jms m10 76 34 (8 * v12))).bind fun m14 => ((jmb m14 112 6).bind fun v16 => ((some (jms m14 76 36 0)).bind fun m18 => ((some (jms m18 76 35 0)).bind fun m20 => ((jd_301_l69 v16 7 m20).bind fun x32 => jse x32 (fun y34 => some (y34.1, y34.2)) (fun y35 => some ((if (jw (y35.2 76 47)) ≤ (jw y35.1) then (-1) else y35.1), y35.2)))))))))))) else some (v1, m)))
def jd_308_s69 (x1 : Int) (x2 : Int) (m : jM) : Option ((Int × jM) ⊕ jM) :=
  (if (jw (m 76 47)) ≤ (jw x2) then some (.inr m) else ((jmb m 112 x2).bind fun v16 => ((jmw m 89 ((24100 * x1) + x2) v16).bind fun m18 => some (.inl ((x2 + 1), m18)))))
def jd_308_l69 (x1 : Int) (x2 : Int) (m : jM) : Option jM :=
  jlp (fun s : (Int × jM) => jd_308_s69 x1 s.1 s.2) jfu (x2, m)
def jd_308_b284 (x1 : Int) (x2 : Int) (x3 : Int) (x4 : Int) (y0 : Int) (y1 : Int) (m : jM) : Option ((Int × jM) ⊕ jM) :=
  ((jmw m 95 y1 y0).bind fun m63 => some (.inl ((x4 + 1), m63)))
def jd_308_s240 (x1 : Int) (x2 : Int) (x3 : Int) (x4 : Int) (m : jM) : Option ((Int × jM) ⊕ jM) :=
  (if (jw (m 76 35)) ≤ (jw x4) then some (.inr m) else ((jmz m 95 x3).bind fun v60 => (if (jw v60) = 0 then jd_308_b284 x1 x2 x3 x4 0 x3 m else ((jma m 103 x4).bind fun v65 => ((jma m 103 x2).bind fun v67 => jd_308_b284 x1 x2 x3 x4 (if (jw v65) ≤ (jw v67) then 0 else 1) x3 m)))))
def jd_308_l240 (x1 : Int) (x2 : Int) (x3 : Int) (x4 : Int) (m : jM) : Option jM :=
  jlp (fun s : (Int × jM) => jd_308_s240 x1 x2 x3 s.1 s.2) jfu (x4, m)
def jd_308_s294 (x1 : Int) (x2 : Int) (x3 : Int) (x4 : Int) (m : jM) : Option ((Int × jM) ⊕ jM) :=
  (if 864 ≤ (jw x4) then some (.inr m) else ((jma m 109 ((864 * x2) + x4)).bind fun v74 => ((jmw m 99 ((864 * x3) + x4) v74).bind fun m76 => ((jmz m76 110 ((864 * x2) + x4)).bind fun v78 => ((jmw m76 100 ((864 * x3) + x4) v78).bind fun m80 => some (.inl ((x4 + 1), m80)))))))
def jd_308_l294 (x1 : Int) (x2 : Int) (x3 : Int) (x4 : Int) (m : jM) : Option jM :=
  jlp (fun s : (Int × jM) => jd_308_s294 x1 x2 x3 s.1 s.2) jfu (x4, m)
def jd_308_s363 (x1 : Int) (x2 : Int) (x3 : Int) (x4 : Int) (m : jM) : Option ((Int × jM) ⊕ jM) :=
  (if 63 ≤ (jw x4) then some (.inr m) else ((jma m 111 ((63 * x2) + x4)).bind fun v85 => ((jmw m 101 ((63 * x3) + x4) v85).bind fun m87 => some (.inl ((x4 + 1), m87)))))
def jd_308_l363 (x1 : Int) (x2 : Int) (x3 : Int) (x4 : Int) (m : jM) : Option jM :=
  jlp (fun s : (Int × jM) => jd_308_s363 x1 x2 x3 s.1 s.2) jfu (x4, m)
def jd_308_s103 (x1 : Int) (x2 : Int) (m : jM) : Option ((Int × jM) ⊕ jM) :=
  (if (jw (m 76 35)) ≤ (jw x2) then some (.inr m) else ((jd_278 x2 0 m).bind fun m23 => ((jma m23 102 x2).bind fun v25 => ((jmw m23 90 ((12 * x1) + x2) v25).bind fun m27 => ((jma m27 103 x2).bind fun v29 => ((jmw m27 91 ((12 * x1) + x2) v29).bind fun m31 => ((jma m31 104 x2).bind fun v33 => ((jmw m31 92 ((12 * x1) + x2) v33).bind fun m35 => ((jma m35 105 x2).bind fun v37 => ((jmw m35 93 ((12 * x1) + x2) v37).bind fun m39 => ((jma m39 106 x2).bind fun v41 => ((jmw m39 94 ((12 * x1) + x2) v41).bind fun m43 => ((jma m43 107 x2).bind fun v45 => ((jmw m43 96 ((12 * x1) + x2) v45).bind fun m47 => ((jma m47 108 x2).bind fun v49 => ((jmw m47 97 ((12 * x1) + x2) v49).bind fun m51 => ((jmw m51 98 ((12 * x1) + x2) 0).bind fun m53 => ((jma m53 102 x2).bind fun v55 => ((jmw m53 95 ((12 * x1) + x2) (if (jw v55) = 0 then 1 else 0)).bind fun m57 => ((jd_308_l240 x1 x2 ((12 * x1) + x2) (x2 + 1) m57).bind fun x71 => ((jd_308_l294 x1 x2 ((12 * x1) + x2) 0 x71).bind fun x82 => ((jd_308_l363 x1 x2 ((12 * x1) + x2) 0 x82).bind fun x89 => some (.inl ((x2 + 1), x89))))))))))))))))))))))))
def jd_308_l103 (x1 : Int) (x2 : Int) (m : jM) : Option jM :=
  jlp (fun s : (Int × jM) => jd_308_s103 x1 s.1 s.2) jfu (x2, m)
def jd_308  (m : jM) : Option (Int × jM) :=
  ((jmw m 83 (m 76 12) (m 76 32)).bind fun m1 => ((jmw m1 84 (m 76 12) (m1 76 33)).bind fun m3 => ((jmw m3 85 (m 76 12) (m3 76 34)).bind fun m5 => ((jmb m5 112 5).bind fun v7 => ((jmw m5 86 (m 76 12) v7).bind fun m9 => ((jmw m9 87 (m 76 12) (m9 76 35)).bind fun m11 => ((jmw m11 88 (m 76 12) (m11 76 47)).bind fun m13 => ((jd_308_l69 (m 76 12) 0 m13).bind fun x20 => ((jd_308_l103 (m 76 12) 0 x20).bind fun x93 => ((some (jms x93 76 12 ((x93 76 12) + 1))).bind fun m95 => some ((m 76 12), m95)))))))))))
def jd_300_s73 (x2 : Int) (m : jM) : Option ((Int × jM) ⊕ jM) :=
  (if (jw (864 * (m 76 7))) ≤ (jw x2) then some (.inr m) else ((jma m 81 x2).bind fun v11 => ((jmw m 121 x2 v11).bind fun m13 => some (.inl ((x2 + 1), m13)))))
def jd_300_l73 (x2 : Int) (m : jM) : Option jM :=
  jlp (fun s : (Int × jM) => jd_300_s73 s.1 s.2) jfu (x2, m)
def jd_300_b253 (x2 : Int) (x3 : Int) (x4 : Int) (y0 : Int) (m : jM) : Option ((Int × jM) ⊕ (jM ⊕ jM)) :=
  ((jma m 82 4).bind fun v35 => ((jd_294 x4 y0 x4 v35 x3 m).bind fun q37 => (if (jw q37.1) = 0 then some (.inr (.inl q37.2)) else some (.inl ((x4 + y0), q37.2)))))
def jd_300_b227 (x2 : Int) (x3 : Int) (x4 : Int) (y0 : Int) (m : jM) : Option ((Int × jM) ⊕ (jM ⊕ jM)) :=
  jd_300_b253 x2 x3 x4 (if (jw ((m 76 7) - x4)) ≤ (jw y0) then ((m 76 7) - x4) else y0) m
def jd_300_s186 (x2 : Int) (x3 : Int) (x4 : Int) (m : jM) : Option ((Int × jM) ⊕ (jM ⊕ jM)) :=
  (if (jw (m 76 7)) ≤ (jw x4) then some (.inr (.inr m)) else (if (jw x2) = 0 then (if (jw (m 76 32)) = 1 then jd_300_b227 x2 x3 x4 1 m else ((jma m 82 1).bind fun v42 => jd_300_b227 x2 x3 x4 v42 m)) else ((jma m 130 x4).bind fun v44 => jd_300_b227 x2 x3 x4 v44 m)))
def jd_300_l186 (x2 : Int) (x3 : Int) (x4 : Int) (m : jM) : Option (jM ⊕ jM) :=
  jlp (fun s : (Int × jM) => jd_300_s186 x2 x3 s.1 s.2) jfu (x4, m)
def jd_300_b307 (y0 : Int) (m : jM) : Option (Int × jM) :=
  some (y0, m)
def jd_300_b182 (x2 : Int) (y0 : Int) (m : jM) : Option (Int × jM) :=
  ((jd_300_l186 x2 y0 0 m).bind fun x46 => jse x46 (fun y48 => some ((-1), y48)) (fun y49 => ((jd_301 y49).bind fun q50 => (if (jw q50.1) = (-1) then ((jd_308 q50.2).bind fun q53 => jd_300_b307 q53.1 q53.2) else jd_300_b307 (-1) q50.2))))
def jd_300_b135 (x2 : Int) (m : jM) : Option (Int × jM) :=
  ((jma m 82 0).bind fun v21 => ((jd_295 v21 (m 76 7) m).bind fun m23 => ((jma m23 82 5).bind fun v25 => ((some (jms m23 76 82 (jdiv v25 2))).bind fun m27 => (if (jw (m27 76 32)) = 0 then ((jma m27 82 5).bind fun v30 => jd_300_b182 x2 (if (jw v30) ≤ 0 then 0 else 1) m27) else jd_300_b182 x2 0 m27)))))
def jd_300_b126 (y0 : Int) (m : jM) : Option (Int × jM) :=
  (if (jw y0) = 0 then jd_300_b135 y0 m else ((jd_299 m).bind fun m57 => jd_300_b135 y0 m57))
def jd_300_b38 (x1 : Int) (y0 : Int) (m : jM) : Option (Int × jM) :=
  ((some (jms m 76 0 y0)).bind fun m1 => (if (jw (m1 76 0)) ≤ 0 then ((some (jms m1 76 32 x1)).bind fun m4 => ((some (jms m4 76 33 (m4 76 8))).bind fun m6 => ((some (jms m6 76 34 (m6 76 9))).bind fun m8 => ((jd_300_l73 0 m8).bind fun x15 => (if (jw (x15 76 32)) = 0 then ((jma x15 82 7).bind fun v18 => jd_300_b126 (if (jw v18) = 1 then 1 else 0) x15) else jd_300_b126 0 x15))))) else some (0, m1)))
def jd_300 (p0 : Int) (m : jM) : Option (Int × jM) :=
  jd_300_b38 p0 (if (jw (jd_204 (jw p0) 0 2)) = 0 then 1 else (if (jw (m 76 7)) = 0 then 1 else (if (jw (m 76 12)) = 8 then 2 else 0))) m
def jd_309_s57 (x1 : Int) (x2 : Int) (m : jM) : Option ((Int × jM) ⊕ jM) :=
  (if (jw (m 76 47)) ≤ (jw x2) then some (.inr m) else ((jmb m 89 ((24100 * x1) + x2)).bind fun v24 => ((jmw m 112 x2 v24).bind fun m26 => some (.inl ((x2 + 1), m26)))))
def jd_309_l57 (x1 : Int) (x2 : Int) (m : jM) : Option jM :=
  jlp (fun s : (Int × jM) => jd_309_s57 x1 s.1 s.2) jfu (x2, m)
def jd_309_s91 (x1 : Int) (x2 : Int) (m : jM) : Option ((Int × jM) ⊕ jM) :=
  (if (jw (m 76 35)) ≤ (jw x2) then some (.inr m) else ((jma m 90 ((12 * x1) + x2)).bind fun v31 => ((jmw m 102 x2 v31).bind fun m33 => ((jma m33 91 ((12 * x1) + x2)).bind fun v35 => ((jmw m33 103 x2 v35).bind fun m37 => ((jma m37 92 ((12 * x1) + x2)).bind fun v39 => ((jmw m37 104 x2 v39).bind fun m41 => ((jma m41 93 ((12 * x1) + x2)).bind fun v43 => ((jmw m41 105 x2 v43).bind fun m45 => ((jma m45 94 ((12 * x1) + x2)).bind fun v47 => ((jmw m45 106 x2 v47).bind fun m49 => some (.inl ((x2 + 1), m49)))))))))))))
def jd_309_l91 (x1 : Int) (x2 : Int) (m : jM) : Option jM :=
  jlp (fun s : (Int × jM) => jd_309_s91 x1 s.1 s.2) jfu (x2, m)
def jd_309 (p0 : Int) (m : jM) : Option jM :=
  ((jma m 83 p0).bind fun v1 => ((some (jms m 76 32 v1)).bind fun m3 => ((jma m3 84 p0).bind fun v5 => ((some (jms m3 76 33 v5)).bind fun m7 => ((jma m7 85 p0).bind fun v9 => ((some (jms m7 76 34 v9)).bind fun m11 => ((jma m11 87 p0).bind fun v13 => ((some (jms m11 76 35 v13)).bind fun m15 => ((some (jms m15 76 36 0)).bind fun m17 => ((jma m17 88 p0).bind fun v19 => ((some (jms m17 76 47 v19)).bind fun m21 => ((jd_309_l57 p0 0 m21).bind fun x28 => ((jd_309_l91 p0 0 x28).bind fun x51 => some x51)))))))))))))
def jd_310_s37 (x1 : Int) (m : jM) : Option ((Int × jM) ⊕ jM) :=
  (if (jw (m 76 5)) ≤ (jw x1) then some (.inr m) else ((jma m 80 x1).bind fun v7 => ((jmw m 112 x1 (jwb v7)).bind fun m9 => some (.inl ((x1 + 1), m9)))))
def jd_310_l37 (x1 : Int) (m : jM) : Option jM :=
  jlp (fun s : (Int × jM) => jd_310_s37 s.1 s.2) jfu (x1, m)
def jd_310_b89 (y0 : Int) (m : jM) : Option (Int × jM) :=
  some (y0, m)
def jd_310  (m : jM) : Option (Int × jM) :=
  ((some (jms m 76 0 (if (jw (m 76 12)) = 8 then 1 else 0))).bind fun m1 => (if (jw (m1 76 0)) ≤ 0 then ((some (jms m1 76 47 (m1 76 5))).bind fun m4 => ((jd_310_l37 0 m4).bind fun x11 => ((some (jms x11 76 5 0)).bind fun m13 => ((jd_301 m13).bind fun q15 => (if (jw q15.1) = (-1) then ((jd_308 q15.2).bind fun q18 => jd_310_b89 q18.1 q18.2) else jd_310_b89 ((-1) - q15.1) q15.2))))) else some (0, m1)))
def jd_311 (p0 : Int) (m : jM) : Int := (jd_204 (jw p0) 0 (jw ((m 76 12) - 1)))
def jd_312_s52 (x1 : Int) (x2 : Int) (m : jM) : Option ((Int × jM) ⊕ jM) :=
  (if (jw (m 76 5)) ≤ (jw x2) then some (.inr m) else ((jmb m 89 ((24100 * x1) + x2)).bind fun v12 => ((jmw m 80 x2 (jand v12 255)).bind fun m14 => some (.inl ((x2 + 1), m14)))))
def jd_312_l52 (x1 : Int) (x2 : Int) (m : jM) : Option jM :=
  jlp (fun s : (Int × jM) => jd_312_s52 x1 s.1 s.2) jfu (x2, m)
def jd_312 (p0 : Int) (m : jM) : Option (Int × jM) :=
  ((some (jms m 76 0 (if (jw (jd_311 p0 m)) = 0 then 1 else 0))).bind fun m1 => (if (jw (m1 76 0)) ≤ 0 then ((jma m1 88 p0).bind fun v4 => (if (jw v4) ≤ 4000 then ((jma m1 88 p0).bind fun v7 => ((some (jms m1 76 5 v7)).bind fun m9 => ((jd_312_l52 p0 0 m9).bind fun x16 => some ((x16 76 5), x16)))) else some ((-1), m1))) else some (0, m1)))
def jd_313_s50 (x1 : Int) (x2 : Int) (x3 : Int) (x4 : Int) (x5 : Int) (m : jM) : Option ((Int × Int × Int) ⊕ (Int × Int)) :=
  ((jma m 87 x1).bind fun v4 => (if (jw v4) ≤ (jw x5) then some (.inr (x3, x4)) else ((jmz m 95 ((12 * x1) + x5)).bind fun v7 => ((some (x3 + (if (jw v7) = 0 then 0 else 1))).bind fun z9 => ((jma m 97 ((12 * x1) + x5)).bind fun v11 => ((some (x4 + (if (jw v11) = (-1) then 0 else 1))).bind fun z13 => some (.inl (z9, z13, (x5 + 1)))))))))
def jd_313_l50 (x1 : Int) (x2 : Int) (x3 : Int) (x4 : Int) (x5 : Int) (m : jM) : Option (Int × Int) :=
  jlp (fun s : (Int × Int × Int) => jd_313_s50 x1 x2 s.1 s.2.1 s.2.2 m) jfu (x3, x4, x5)
def jd_313_b30 (x1 : Int) (x2 : Int) (y0 : Int) (m : jM) : Option (Int × jM) :=
  ((some (jms m 76 0 y0)).bind fun m1 => (if (jw (m1 76 0)) ≤ 0 then ((jd_313_l50 x1 x2 0 0 0 m1).bind fun x19 => (if (jw x2) = 0 then ((jma m1 83 x1).bind fun v22 => some (v22, m1)) else (if (jw x2) = 1 then ((jma m1 84 x1).bind fun v25 => some (v25, m1)) else (if (jw x2) = 2 then ((jma m1 85 x1).bind fun v28 => some (v28, m1)) else (if (jw x2) = 3 then ((jma m1 86 x1).bind fun v31 => some (v31, m1)) else (if (jw x2) = 4 then ((jma m1 87 x1).bind fun v34 => some (v34, m1)) else (if (jw x2) = 5 then ((jma m1 88 x1).bind fun v37 => some (v37, m1)) else (if (jw x2) = 6 then some (x19.1, m1) else some (x19.2, m1))))))))) else some (0, m1)))
