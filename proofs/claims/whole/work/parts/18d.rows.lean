/-! every row is so (2) -/
set_option maxRecDepth 100000 in
theorem xok_200 : xt200.all (xok ym200) = true := by decide +kernel
set_option maxRecDepth 100000 in
theorem xok_201 : xt201.all (xok ym201) = true := by decide +kernel
set_option maxRecDepth 100000 in
theorem xok_202 : xt202.all (xok ym202) = true := by decide +kernel
set_option maxRecDepth 100000 in
theorem xok_203 : xt203.all (xok ym203) = true := by decide +kernel
set_option maxRecDepth 100000 in
theorem xok_204 : xt204.all (xok ym204) = true := by decide +kernel
set_option maxRecDepth 100000 in
theorem xok_205 : xt205.all (xok ym205) = true := by decide +kernel
set_option maxRecDepth 100000 in
theorem xok_206 : xt206.all (xok ym206) = true := by decide +kernel
set_option maxRecDepth 100000 in
theorem xok_207 : xt207.all (xok ym207) = true := by decide +kernel
set_option maxRecDepth 100000 in
theorem xok_208 : xt208.all (xok ym208) = true := by decide +kernel
set_option maxRecDepth 100000 in
theorem xok_209 : xt209.all (xok ym209) = true := by decide +kernel
set_option maxRecDepth 100000 in
theorem xok_210 : xt210.all (xok ym210) = true := by decide +kernel
set_option maxRecDepth 100000 in
theorem xok_211 : xt211.all (xok ym211) = true := by decide +kernel
set_option maxRecDepth 100000 in
theorem xok_212 : xt212.all (xok ym212) = true := by decide +kernel
set_option maxRecDepth 100000 in
theorem xok_213 : xt213.all (xok ym213) = true := by decide +kernel
set_option maxRecDepth 100000 in
theorem xok_214 : xt214.all (xok ym214) = true := by decide +kernel
set_option maxRecDepth 100000 in
theorem xok_215 : xt215.all (xok ym215) = true := by decide +kernel
set_option maxRecDepth 100000 in
theorem xok_216 : xt216.all (xok ym216) = true := by decide +kernel
set_option maxRecDepth 100000 in
theorem xok_217 : xt217.all (xok ym217) = true := by decide +kernel
set_option maxRecDepth 100000 in
theorem xok_218 : xt218.all (xok ym218) = true := by decide +kernel
set_option maxRecDepth 100000 in
theorem xok_219 : xt219.all (xok ym219) = true := by decide +kernel
set_option maxRecDepth 100000 in
theorem xok_220 : xt220.all (xok ym220) = true := by decide +kernel
set_option maxRecDepth 100000 in
theorem xok_221 : xt221.all (xok ym221) = true := by decide +kernel
set_option maxRecDepth 100000 in
theorem xok_222 : xt222.all (xok ym222) = true := by decide +kernel
set_option maxRecDepth 100000 in
theorem xok_223 : xt223.all (xok ym223) = true := by decide +kernel
set_option maxRecDepth 100000 in
theorem xok_224 : xt224.all (xok ym224) = true := by decide +kernel
set_option maxRecDepth 100000 in
theorem xok_225 : xt225.all (xok ym225) = true := by decide +kernel
set_option maxRecDepth 100000 in
theorem xok_226 : xt226.all (xok ym226) = true := by decide +kernel
set_option maxRecDepth 100000 in
theorem xok_227 : xt227.all (xok ym227) = true := by decide +kernel
set_option maxRecDepth 100000 in
theorem xok_228 : xt228.all (xok ym228) = true := by decide +kernel
set_option maxRecDepth 100000 in
theorem xok_229 : xt229.all (xok ym229) = true := by decide +kernel
set_option maxRecDepth 100000 in
theorem xok_230 : xt230.all (xok ym230) = true := by decide +kernel
set_option maxRecDepth 100000 in
theorem xok_231 : xt231.all (xok ym231) = true := by decide +kernel
set_option maxRecDepth 100000 in
theorem xok_232 : xt232.all (xok ym232) = true := by decide +kernel
set_option maxRecDepth 100000 in
theorem xok_233 : xt233.all (xok ym233) = true := by decide +kernel
set_option maxRecDepth 100000 in
theorem xok_234 : xt234.all (xok ym234) = true := by decide +kernel
set_option maxRecDepth 100000 in
theorem xok_235 : xt235.all (xok ym235) = true := by decide +kernel
set_option maxRecDepth 100000 in
theorem xok_236 : xt236.all (xok ym236) = true := by decide +kernel
set_option maxRecDepth 100000 in
theorem xok_237 : xt237.all (xok ym237) = true := by decide +kernel
set_option maxRecDepth 100000 in
theorem xok_238 : xt238.all (xok ym238) = true := by decide +kernel
set_option maxRecDepth 100000 in
theorem xok_239 : xt239.all (xok ym239) = true := by decide +kernel
set_option maxRecDepth 100000 in
theorem xok_240 : xt240.all (xok ym240) = true := by decide +kernel
set_option maxRecDepth 100000 in
theorem xok_241 : xt241.all (xok ym241) = true := by decide +kernel
set_option maxRecDepth 100000 in
theorem xok_242 : xt242.all (xok ym242) = true := by decide +kernel
set_option maxRecDepth 100000 in
theorem xok_243 : xt243.all (xok ym243) = true := by decide +kernel
set_option maxRecDepth 100000 in
theorem xok_244 : xt244.all (xok ym244) = true := by decide +kernel
set_option maxRecDepth 100000 in
theorem xok_245 : xt245.all (xok ym245) = true := by decide +kernel
set_option maxRecDepth 100000 in
theorem xok_246 : xt246.all (xok ym246) = true := by decide +kernel
set_option maxRecDepth 100000 in
theorem xok_247 : xt247.all (xok ym247) = true := by decide +kernel
set_option maxRecDepth 100000 in
theorem xok_248 : xt248.all (xok ym248) = true := by decide +kernel
set_option maxRecDepth 100000 in
theorem xok_249 : xt249.all (xok ym249) = true := by decide +kernel
set_option maxRecDepth 100000 in
theorem xok_250 : xt250.all (xok ym250) = true := by decide +kernel
set_option maxRecDepth 100000 in
theorem xok_251 : xt251.all (xok ym251) = true := by decide +kernel
set_option maxRecDepth 100000 in
theorem xok_252 : xt252.all (xok ym252) = true := by decide +kernel
set_option maxRecDepth 100000 in
theorem xok_253 : xt253.all (xok ym253) = true := by decide +kernel
set_option maxRecDepth 100000 in
theorem xok_254 : xt254.all (xok ym254) = true := by decide +kernel
set_option maxRecDepth 100000 in
theorem xok_255 : xt255.all (xok ym255) = true := by decide +kernel
set_option maxRecDepth 100000 in
theorem xok_256 : xt256.all (xok ym256) = true := by decide +kernel
set_option maxRecDepth 100000 in
theorem xok_257 : xt257.all (xok ym257) = true := by decide +kernel
set_option maxRecDepth 100000 in
theorem xok_258 : xt258.all (xok ym258) = true := by decide +kernel
set_option maxRecDepth 100000 in
theorem xok_259 : xt259.all (xok ym259) = true := by decide +kernel
set_option maxRecDepth 100000 in
theorem xok_260 : xt260.all (xok ym260) = true := by decide +kernel
set_option maxRecDepth 100000 in
theorem xok_261 : xt261.all (xok ym261) = true := by decide +kernel
set_option maxRecDepth 100000 in
theorem xok_262 : xt262.all (xok ym262) = true := by decide +kernel
set_option maxRecDepth 100000 in
theorem xok_263 : xt263.all (xok ym263) = true := by decide +kernel
set_option maxRecDepth 100000 in
theorem xok_264 : xt264.all (xok ym264) = true := by decide +kernel
set_option maxRecDepth 100000 in
theorem xok_265 : xt265.all (xok ym265) = true := by decide +kernel
set_option maxRecDepth 100000 in
theorem xok_266 : xt266.all (xok ym266) = true := by decide +kernel
set_option maxRecDepth 100000 in
theorem xok_267 : xt267.all (xok ym267) = true := by decide +kernel
set_option maxRecDepth 100000 in
theorem xok_268 : xt268.all (xok ym268) = true := by decide +kernel
set_option maxRecDepth 100000 in
theorem xok_269 : xt269.all (xok ym269) = true := by decide +kernel
set_option maxRecDepth 100000 in
theorem xok_270 : xt270.all (xok ym270) = true := by decide +kernel
set_option maxRecDepth 100000 in
theorem xok_271 : xt271.all (xok ym271) = true := by decide +kernel
set_option maxRecDepth 100000 in
theorem xok_272 : xt272.all (xok ym272) = true := by decide +kernel
set_option maxRecDepth 100000 in
theorem xok_273 : xt273.all (xok ym273) = true := by decide +kernel
set_option maxRecDepth 100000 in
theorem xok_274 : xt274.all (xok ym274) = true := by decide +kernel
set_option maxRecDepth 100000 in
theorem xok_275 : xt275.all (xok ym275) = true := by decide +kernel
set_option maxRecDepth 100000 in
theorem xok_276 : xt276.all (xok ym276) = true := by decide +kernel
set_option maxRecDepth 100000 in
theorem xok_277 : xt277.all (xok ym277) = true := by decide +kernel
set_option maxRecDepth 100000 in
theorem xok_278 : xt278.all (xok ym278) = true := by decide +kernel
set_option maxRecDepth 100000 in
theorem xok_279 : xt279.all (xok ym279) = true := by decide +kernel
set_option maxRecDepth 100000 in
theorem xok_280 : xt280.all (xok ym280) = true := by decide +kernel
set_option maxRecDepth 100000 in
theorem xok_281 : xt281.all (xok ym281) = true := by decide +kernel
set_option maxRecDepth 100000 in
theorem xok_282 : xt282.all (xok ym282) = true := by decide +kernel
set_option maxRecDepth 100000 in
theorem xok_283 : xt283.all (xok ym283) = true := by decide +kernel
set_option maxRecDepth 100000 in
theorem xok_284_0 : xt284_0.all (xok ym284) = true := by decide +kernel
set_option maxRecDepth 100000 in
theorem xok_284_1 : xt284_1.all (xok ym284) = true := by decide +kernel
set_option maxRecDepth 100000 in
theorem xok_284_2 : xt284_2.all (xok ym284) = true := by decide +kernel
set_option maxRecDepth 100000 in
theorem xok_284_3 : xt284_3.all (xok ym284) = true := by decide +kernel
set_option maxRecDepth 100000 in
theorem xok_284_4 : xt284_4.all (xok ym284) = true := by decide +kernel
set_option maxRecDepth 100000 in
theorem xok_284_5 : xt284_5.all (xok ym284) = true := by decide +kernel
set_option maxRecDepth 100000 in
theorem xok_284_6 : xt284_6.all (xok ym284) = true := by decide +kernel
set_option maxRecDepth 100000 in
theorem xok_284_7 : xt284_7.all (xok ym284) = true := by decide +kernel
set_option maxRecDepth 100000 in
theorem xok_284_8 : xt284_8.all (xok ym284) = true := by decide +kernel
set_option maxRecDepth 100000 in
theorem xok_284_9 : xt284_9.all (xok ym284) = true := by decide +kernel
set_option maxRecDepth 100000 in
theorem xok_284_10 : xt284_10.all (xok ym284) = true := by decide +kernel
set_option maxRecDepth 100000 in
theorem xok_284_11 : xt284_11.all (xok ym284) = true := by decide +kernel
set_option maxRecDepth 100000 in
theorem xok_284_12 : xt284_12.all (xok ym284) = true := by decide +kernel
set_option maxRecDepth 100000 in
theorem xok_284_13 : xt284_13.all (xok ym284) = true := by decide +kernel
set_option maxRecDepth 100000 in
theorem xok_284_14 : xt284_14.all (xok ym284) = true := by decide +kernel
set_option maxRecDepth 100000 in
theorem xok_284_15 : xt284_15.all (xok ym284) = true := by decide +kernel
set_option maxRecDepth 100000 in
theorem xok_284_16 : xt284_16.all (xok ym284) = true := by decide +kernel
set_option maxRecDepth 100000 in
theorem xok_284_17 : xt284_17.all (xok ym284) = true := by decide +kernel
theorem xok_284 : xt284.all (xok ym284) = true := by
  unfold xt284
  simp only [List.all_append, Bool.and_eq_true]
  exact ⟨xok_284_0, ⟨xok_284_1, ⟨xok_284_2, ⟨xok_284_3, ⟨xok_284_4, ⟨xok_284_5, ⟨xok_284_6, ⟨xok_284_7, ⟨xok_284_8, ⟨xok_284_9, ⟨xok_284_10, ⟨xok_284_11, ⟨xok_284_12, ⟨xok_284_13, ⟨xok_284_14, ⟨xok_284_15, ⟨xok_284_16, xok_284_17⟩⟩⟩⟩⟩⟩⟩⟩⟩⟩⟩⟩⟩⟩⟩⟩⟩
