/-! all methods together (laid by program) -/
theorem tw_nums : List.range tw_NM = [0, 1, 2, 3, 4, 5, 6, 7, 8, 9, 10, 11, 12, 13, 14, 15, 16, 17, 18, 19, 20, 21, 22, 23, 24, 25, 26, 27, 28, 29, 30, 31, 32, 33, 34, 35, 36, 37, 38, 39, 40, 41, 42, 43, 44, 45, 46, 47, 48, 49, 50, 51, 52, 53, 54, 55, 56, 57, 58, 59, 60, 61, 62, 63, 64, 65, 66, 67, 68, 69, 70, 71, 72, 73, 74, 75, 76, 77, 78, 79, 80, 81, 82, 83, 84, 85, 86, 87, 88, 89, 90, 91, 92, 93, 94, 95, 96, 97, 98, 99, 100, 101, 102, 103, 104, 105, 106, 107, 108, 109, 110, 111, 112, 113, 114, 115, 116, 117, 118, 119, 120, 121, 122, 123, 124, 125, 126, 127, 128, 129, 130, 131, 132, 133, 134, 135, 136, 137, 138, 139, 140, 141, 142, 143, 144, 145, 146, 147, 148, 149, 150, 151, 152, 153, 154, 155, 156, 157, 158, 159, 160, 161, 162, 163, 164, 165, 166, 167, 168, 169, 170, 171, 172, 173, 174, 175, 176, 177, 178, 179, 180, 181, 182, 183, 184, 185, 186, 187, 188, 189, 190, 191, 192, 193, 194, 195, 196, 197, 198, 199, 200, 201, 202, 203, 204, 205, 206, 207, 208, 209, 210, 211, 212, 213, 214, 215, 216, 217, 218, 219, 220, 221, 222, 223, 224, 225, 226, 227, 228, 229, 230, 231, 232, 233, 234, 235, 236, 237, 238, 239, 240, 241, 242, 243, 244, 245, 246, 247, 248, 249, 250, 251, 252, 253, 254, 255, 256, 257, 258, 259, 260, 261, 262, 263, 264] := by decide +kernel
set_option maxRecDepth 100000 in
theorem tw_okE_all : ∀ m ∈ [0, 1, 2, 3, 4, 5, 6, 7, 8, 9, 10, 11, 12, 13, 14, 15, 16, 17, 18, 19, 20, 21, 22, 23, 24, 25, 26, 27, 28, 29, 30, 31, 32, 33, 34, 35, 36, 37, 38, 39, 40, 41, 42, 43, 44, 45, 46, 47, 48, 49, 50, 51, 52, 53, 54, 55, 56, 57, 58, 59, 60, 61, 62, 63, 64, 65, 66, 67, 68, 69, 70, 71, 72, 73, 74, 75, 76, 77, 78, 79, 80, 81, 82, 83, 84, 85, 86, 87, 88, 89, 90, 91, 92, 93, 94, 95, 96, 97, 98, 99, 100, 101, 102, 103, 104, 105, 106, 107, 108, 109, 110, 111, 112, 113, 114, 115, 116, 117, 118, 119, 120, 121, 122, 123, 124, 125, 126, 127, 128, 129, 130, 131, 132, 133, 134, 135, 136, 137, 138, 139, 140, 141, 142, 143, 144, 145, 146, 147, 148, 149, 150, 151, 152, 153, 154, 155, 156, 157, 158, 159, 160, 161, 162, 163, 164, 165, 166, 167, 168, 169, 170, 171, 172, 173, 174, 175, 176, 177, 178, 179, 180, 181, 182, 183, 184, 185, 186, 187, 188, 189, 190, 191, 192, 193, 194, 195, 196, 197, 198, 199, 200, 201, 202, 203, 204, 205, 206, 207, 208, 209, 210, 211, 212, 213, 214, 215, 216, 217, 218, 219, 220, 221, 222, 223, 224, 225, 226, 227, 228, 229, 230, 231, 232, 233, 234, 235, 236, 237, 238, 239, 240, 241, 242, 243, 244, 245, 246, 247, 248, 249, 250, 251, 252, 253, 254, 255, 256, 257, 258, 259, 260, 261, 262, 263, 264], tw_okE m := List.forall_mem_cons.mpr ⟨tw_k0, List.forall_mem_cons.mpr ⟨tw_k1, List.forall_mem_cons.mpr ⟨tw_k2, List.forall_mem_cons.mpr ⟨tw_k3, List.forall_mem_cons.mpr ⟨tw_k4, List.forall_mem_cons.mpr ⟨tw_k5, List.forall_mem_cons.mpr ⟨tw_k6, List.forall_mem_cons.mpr ⟨tw_k7, List.forall_mem_cons.mpr ⟨tw_k8, List.forall_mem_cons.mpr ⟨tw_k9, List.forall_mem_cons.mpr ⟨tw_k10, List.forall_mem_cons.mpr ⟨tw_k11, List.forall_mem_cons.mpr ⟨tw_k12, List.forall_mem_cons.mpr ⟨tw_k13, List.forall_mem_cons.mpr ⟨tw_k14, List.forall_mem_cons.mpr ⟨tw_k15, List.forall_mem_cons.mpr ⟨tw_k16, List.forall_mem_cons.mpr ⟨tw_k17, List.forall_mem_cons.mpr ⟨tw_k18, List.forall_mem_cons.mpr ⟨tw_k19, List.forall_mem_cons.mpr ⟨tw_k20, List.forall_mem_cons.mpr ⟨tw_k21, List.forall_mem_cons.mpr ⟨tw_k22, List.forall_mem_cons.mpr ⟨tw_k23, List.forall_mem_cons.mpr ⟨tw_k24, List.forall_mem_cons.mpr ⟨tw_k25, List.forall_mem_cons.mpr ⟨tw_k26, List.forall_mem_cons.mpr ⟨tw_k27, List.forall_mem_cons.mpr ⟨tw_k28, List.forall_mem_cons.mpr ⟨tw_k29, List.forall_mem_cons.mpr ⟨tw_k30, List.forall_mem_cons.mpr ⟨tw_k31, List.forall_mem_cons.mpr ⟨tw_k32, List.forall_mem_cons.mpr ⟨tw_k33, List.forall_mem_cons.mpr ⟨tw_k34, List.forall_mem_cons.mpr ⟨tw_k35, List.forall_mem_cons.mpr ⟨tw_k36, List.forall_mem_cons.mpr ⟨tw_k37, List.forall_mem_cons.mpr ⟨tw_k38, List.forall_mem_cons.mpr ⟨tw_k39, List.forall_mem_cons.mpr ⟨tw_k40, List.forall_mem_cons.mpr ⟨tw_k41, List.forall_mem_cons.mpr ⟨tw_k42, List.forall_mem_cons.mpr ⟨tw_k43, List.forall_mem_cons.mpr ⟨tw_k44, List.forall_mem_cons.mpr ⟨tw_k45, List.forall_mem_cons.mpr ⟨tw_k46, List.forall_mem_cons.mpr ⟨tw_k47, List.forall_mem_cons.mpr ⟨tw_k48, List.forall_mem_cons.mpr ⟨tw_k49, List.forall_mem_cons.mpr ⟨tw_k50, List.forall_mem_cons.mpr ⟨tw_k51, List.forall_mem_cons.mpr ⟨tw_k52, List.forall_mem_cons.mpr ⟨tw_k53, List.forall_mem_cons.mpr ⟨tw_k54, List.forall_mem_cons.mpr ⟨tw_k55, List.forall_mem_cons.mpr ⟨tw_k56, List.forall_mem_cons.mpr ⟨tw_k57, List.forall_mem_cons.mpr ⟨tw_k58, List.forall_mem_cons.mpr ⟨tw_k59, List.forall_mem_cons.mpr ⟨tw_k60, List.forall_mem_cons.mpr ⟨tw_k61, List.forall_mem_cons.mpr ⟨tw_k62, List.forall_mem_cons.mpr ⟨tw_k63, List.forall_mem_cons.mpr ⟨tw_k64, List.forall_mem_cons.mpr ⟨tw_k65, List.forall_mem_cons.mpr ⟨tw_k66, List.forall_mem_cons.mpr ⟨tw_k67, List.forall_mem_cons.mpr ⟨tw_k68, List.forall_mem_cons.mpr ⟨tw_k69, List.forall_mem_cons.mpr ⟨tw_k70, List.forall_mem_cons.mpr ⟨tw_k71, List.forall_mem_cons.mpr ⟨tw_k72, List.forall_mem_cons.mpr ⟨tw_k73, List.forall_mem_cons.mpr ⟨tw_k74, List.forall_mem_cons.mpr ⟨tw_k75, List.forall_mem_cons.mpr ⟨tw_k76, List.forall_mem_cons.mpr ⟨tw_k77, List.forall_mem_cons.mpr ⟨tw_k78, List.forall_mem_cons.mpr ⟨tw_k79, List.forall_mem_cons.mpr ⟨tw_k80, List.forall_mem_cons.mpr ⟨tw_k81, List.forall_mem_cons.mpr ⟨tw_k82, List.forall_mem_cons.mpr ⟨tw_k83, List.forall_mem_cons.mpr ⟨tw_k84, List.forall_mem_cons.mpr ⟨tw_k85, List.forall_mem_cons.mpr ⟨tw_k86, List.forall_mem_cons.mpr ⟨tw_k87, List.forall_mem_cons.mpr ⟨tw_k88, List.forall_mem_cons.mpr ⟨tw_k89, List.forall_mem_cons.mpr ⟨tw_k90, List.forall_mem_cons.mpr ⟨tw_k91, List.forall_mem_cons.mpr ⟨tw_k92, List.forall_mem_cons.mpr ⟨tw_k93, List.forall_mem_cons.mpr ⟨tw_k94, List.forall_mem_cons.mpr ⟨tw_k95, List.forall_mem_cons.mpr ⟨tw_k96, List.forall_mem_cons.mpr ⟨tw_k97, List.forall_mem_cons.mpr ⟨tw_k98, List.forall_mem_cons.mpr ⟨tw_k99, List.forall_mem_cons.mpr ⟨tw_k100, List.forall_mem_cons.mpr ⟨tw_k101, List.forall_mem_cons.mpr ⟨tw_k102, List.forall_mem_cons.mpr ⟨tw_k103, List.forall_mem_cons.mpr ⟨tw_k104, List.forall_mem_cons.mpr ⟨tw_k105, List.forall_mem_cons.mpr ⟨tw_k106, List.forall_mem_cons.mpr ⟨tw_k107, List.forall_mem_cons.mpr ⟨tw_k108, List.forall_mem_cons.mpr ⟨tw_k109, List.forall_mem_cons.mpr ⟨tw_k110, List.forall_mem_cons.mpr ⟨tw_k111, List.forall_mem_cons.mpr ⟨tw_k112, List.forall_mem_cons.mpr ⟨tw_k113, List.forall_mem_cons.mpr ⟨tw_k114, List.forall_mem_cons.mpr ⟨tw_k115, List.forall_mem_cons.mpr ⟨tw_k116, List.forall_mem_cons.mpr ⟨tw_k117, List.forall_mem_cons.mpr ⟨tw_k118, List.forall_mem_cons.mpr ⟨tw_k119, List.forall_mem_cons.mpr ⟨tw_k120, List.forall_mem_cons.mpr ⟨tw_k121, List.forall_mem_cons.mpr ⟨tw_k122, List.forall_mem_cons.mpr ⟨tw_k123, List.forall_mem_cons.mpr ⟨tw_k124, List.forall_mem_cons.mpr ⟨tw_k125, List.forall_mem_cons.mpr ⟨tw_k126, List.forall_mem_cons.mpr ⟨tw_k127, List.forall_mem_cons.mpr ⟨tw_k128, List.forall_mem_cons.mpr ⟨tw_k129, List.forall_mem_cons.mpr ⟨tw_k130, List.forall_mem_cons.mpr ⟨tw_k131, List.forall_mem_cons.mpr ⟨tw_k132, List.forall_mem_cons.mpr ⟨tw_k133, List.forall_mem_cons.mpr ⟨tw_k134, List.forall_mem_cons.mpr ⟨tw_k135, List.forall_mem_cons.mpr ⟨tw_k136, List.forall_mem_cons.mpr ⟨tw_k137, List.forall_mem_cons.mpr ⟨tw_k138, List.forall_mem_cons.mpr ⟨tw_k139, List.forall_mem_cons.mpr ⟨tw_k140, List.forall_mem_cons.mpr ⟨tw_k141, List.forall_mem_cons.mpr ⟨tw_k142, List.forall_mem_cons.mpr ⟨tw_k143, List.forall_mem_cons.mpr ⟨tw_k144, List.forall_mem_cons.mpr ⟨tw_k145, List.forall_mem_cons.mpr ⟨tw_k146, List.forall_mem_cons.mpr ⟨tw_k147, List.forall_mem_cons.mpr ⟨tw_k148, List.forall_mem_cons.mpr ⟨tw_k149, List.forall_mem_cons.mpr ⟨tw_k150, List.forall_mem_cons.mpr ⟨tw_k151, List.forall_mem_cons.mpr ⟨tw_k152, List.forall_mem_cons.mpr ⟨tw_k153, List.forall_mem_cons.mpr ⟨tw_k154, List.forall_mem_cons.mpr ⟨tw_k155, List.forall_mem_cons.mpr ⟨tw_k156, List.forall_mem_cons.mpr ⟨tw_k157, List.forall_mem_cons.mpr ⟨tw_k158, List.forall_mem_cons.mpr ⟨tw_k159, List.forall_mem_cons.mpr ⟨tw_k160, List.forall_mem_cons.mpr ⟨tw_k161, List.forall_mem_cons.mpr ⟨tw_k162, List.forall_mem_cons.mpr ⟨tw_k163, List.forall_mem_cons.mpr ⟨tw_k164, List.forall_mem_cons.mpr ⟨tw_k165, List.forall_mem_cons.mpr ⟨tw_k166, List.forall_mem_cons.mpr ⟨tw_k167, List.forall_mem_cons.mpr ⟨tw_k168, List.forall_mem_cons.mpr ⟨tw_k169, List.forall_mem_cons.mpr ⟨tw_k170, List.forall_mem_cons.mpr ⟨tw_k171, List.forall_mem_cons.mpr ⟨tw_k172, List.forall_mem_cons.mpr ⟨tw_k173, List.forall_mem_cons.mpr ⟨tw_k174, List.forall_mem_cons.mpr ⟨tw_k175, List.forall_mem_cons.mpr ⟨tw_k176, List.forall_mem_cons.mpr ⟨tw_k177, List.forall_mem_cons.mpr ⟨tw_k178, List.forall_mem_cons.mpr ⟨tw_k179, List.forall_mem_cons.mpr ⟨tw_k180, List.forall_mem_cons.mpr ⟨tw_k181, List.forall_mem_cons.mpr ⟨tw_k182, List.forall_mem_cons.mpr ⟨tw_k183, List.forall_mem_cons.mpr ⟨tw_k184, List.forall_mem_cons.mpr ⟨tw_k185, List.forall_mem_cons.mpr ⟨tw_k186, List.forall_mem_cons.mpr ⟨tw_k187, List.forall_mem_cons.mpr ⟨tw_k188, List.forall_mem_cons.mpr ⟨tw_k189, List.forall_mem_cons.mpr ⟨tw_k190, List.forall_mem_cons.mpr ⟨tw_k191, List.forall_mem_cons.mpr ⟨tw_k192, List.forall_mem_cons.mpr ⟨tw_k193, List.forall_mem_cons.mpr ⟨tw_k194, List.forall_mem_cons.mpr ⟨tw_k195, List.forall_mem_cons.mpr ⟨tw_k196, List.forall_mem_cons.mpr ⟨tw_k197, List.forall_mem_cons.mpr ⟨tw_k198, List.forall_mem_cons.mpr ⟨tw_k199, List.forall_mem_cons.mpr ⟨tw_k200, List.forall_mem_cons.mpr ⟨tw_k201, List.forall_mem_cons.mpr ⟨tw_k202, List.forall_mem_cons.mpr ⟨tw_k203, List.forall_mem_cons.mpr ⟨tw_k204, List.forall_mem_cons.mpr ⟨tw_k205, List.forall_mem_cons.mpr ⟨tw_k206, List.forall_mem_cons.mpr ⟨tw_k207, List.forall_mem_cons.mpr ⟨tw_k208, List.forall_mem_cons.mpr ⟨tw_k209, List.forall_mem_cons.mpr ⟨tw_k210, List.forall_mem_cons.mpr ⟨tw_k211, List.forall_mem_cons.mpr ⟨tw_k212, List.forall_mem_cons.mpr ⟨tw_k213, List.forall_mem_cons.mpr ⟨tw_k214, List.forall_mem_cons.mpr ⟨tw_k215, List.forall_mem_cons.mpr ⟨tw_k216, List.forall_mem_cons.mpr ⟨tw_k217, List.forall_mem_cons.mpr ⟨tw_k218, List.forall_mem_cons.mpr ⟨tw_k219, List.forall_mem_cons.mpr ⟨tw_k220, List.forall_mem_cons.mpr ⟨tw_k221, List.forall_mem_cons.mpr ⟨tw_k222, List.forall_mem_cons.mpr ⟨tw_k223, List.forall_mem_cons.mpr ⟨tw_k224, List.forall_mem_cons.mpr ⟨tw_k225, List.forall_mem_cons.mpr ⟨tw_k226, List.forall_mem_cons.mpr ⟨tw_k227, List.forall_mem_cons.mpr ⟨tw_k228, List.forall_mem_cons.mpr ⟨tw_k229, List.forall_mem_cons.mpr ⟨tw_k230, List.forall_mem_cons.mpr ⟨tw_k231, List.forall_mem_cons.mpr ⟨tw_k232, List.forall_mem_cons.mpr ⟨tw_k233, List.forall_mem_cons.mpr ⟨tw_k234, List.forall_mem_cons.mpr ⟨tw_k235, List.forall_mem_cons.mpr ⟨tw_k236, List.forall_mem_cons.mpr ⟨tw_k237, List.forall_mem_cons.mpr ⟨tw_k238, List.forall_mem_cons.mpr ⟨tw_k239, List.forall_mem_cons.mpr ⟨tw_k240, List.forall_mem_cons.mpr ⟨tw_k241, List.forall_mem_cons.mpr ⟨tw_k242, List.forall_mem_cons.mpr ⟨tw_k243, List.forall_mem_cons.mpr ⟨tw_k244, List.forall_mem_cons.mpr ⟨tw_k245, List.forall_mem_cons.mpr ⟨tw_k246, List.forall_mem_cons.mpr ⟨tw_k247, List.forall_mem_cons.mpr ⟨tw_k248, List.forall_mem_cons.mpr ⟨tw_k249, List.forall_mem_cons.mpr ⟨tw_k250, List.forall_mem_cons.mpr ⟨tw_k251, List.forall_mem_cons.mpr ⟨tw_k252, List.forall_mem_cons.mpr ⟨tw_k253, List.forall_mem_cons.mpr ⟨tw_k254, List.forall_mem_cons.mpr ⟨tw_k255, List.forall_mem_cons.mpr ⟨tw_k256, List.forall_mem_cons.mpr ⟨tw_k257, List.forall_mem_cons.mpr ⟨tw_k258, List.forall_mem_cons.mpr ⟨tw_k259, List.forall_mem_cons.mpr ⟨tw_k260, List.forall_mem_cons.mpr ⟨tw_k261, List.forall_mem_cons.mpr ⟨tw_k262, List.forall_mem_cons.mpr ⟨tw_k263, List.forall_mem_cons.mpr ⟨tw_k264, fun _ h => absurd h List.not_mem_nil⟩⟩⟩⟩⟩⟩⟩⟩⟩⟩⟩⟩⟩⟩⟩⟩⟩⟩⟩⟩⟩⟩⟩⟩⟩⟩⟩⟩⟩⟩⟩⟩⟩⟩⟩⟩⟩⟩⟩⟩⟩⟩⟩⟩⟩⟩⟩⟩⟩⟩⟩⟩⟩⟩⟩⟩⟩⟩⟩⟩⟩⟩⟩⟩⟩⟩⟩⟩⟩⟩⟩⟩⟩⟩⟩⟩⟩⟩⟩⟩⟩⟩⟩⟩⟩⟩⟩⟩⟩⟩⟩⟩⟩⟩⟩⟩⟩⟩⟩⟩⟩⟩⟩⟩⟩⟩⟩⟩⟩⟩⟩⟩⟩⟩⟩⟩⟩⟩⟩⟩⟩⟩⟩⟩⟩⟩⟩⟩⟩⟩⟩⟩⟩⟩⟩⟩⟩⟩⟩⟩⟩⟩⟩⟩⟩⟩⟩⟩⟩⟩⟩⟩⟩⟩⟩⟩⟩⟩⟩⟩⟩⟩⟩⟩⟩⟩⟩⟩⟩⟩⟩⟩⟩⟩⟩⟩⟩⟩⟩⟩⟩⟩⟩⟩⟩⟩⟩⟩⟩⟩⟩⟩⟩⟩⟩⟩⟩⟩⟩⟩⟩⟩⟩⟩⟩⟩⟩⟩⟩⟩⟩⟩⟩⟩⟩⟩⟩⟩⟩⟩⟩⟩⟩⟩⟩⟩⟩⟩⟩⟩⟩⟩⟩⟩⟩⟩⟩⟩⟩⟩⟩⟩⟩⟩⟩⟩⟩⟩⟩⟩⟩⟩⟩⟩⟩⟩⟩⟩⟩⟩⟩⟩⟩⟩⟩
theorem tw_okE_at {m : Nat} (h : m < tw_NM) : tw_okE m := tw_okE_all m (tw_nums ▸ List.mem_range.mpr h)
set_option maxRecDepth 100000 in
theorem tw_c0 : tw_okC 0 := Or.inr rfl
set_option maxRecDepth 100000 in
theorem tw_m0 : tw_okM 0 := Or.inr (by decide +kernel)
set_option maxRecDepth 100000 in
theorem tw_c1 : tw_okC 1 := Or.inr rfl
set_option maxRecDepth 100000 in
theorem tw_m1 : tw_okM 1 := Or.inr (by decide +kernel)
set_option maxRecDepth 100000 in
theorem tw_c2 : tw_okC 2 := Or.inr rfl
set_option maxRecDepth 100000 in
theorem tw_m2 : tw_okM 2 := Or.inr (by decide +kernel)
set_option maxRecDepth 100000 in
theorem tw_c3 : tw_okC 3 := Or.inr rfl
set_option maxRecDepth 100000 in
theorem tw_m3 : tw_okM 3 := Or.inr (by decide +kernel)
set_option maxRecDepth 100000 in
theorem tw_c4 : tw_okC 4 := Or.inr rfl
set_option maxRecDepth 100000 in
theorem tw_m4 : tw_okM 4 := Or.inr (by decide +kernel)
set_option maxRecDepth 100000 in
theorem tw_c5 : tw_okC 5 := Or.inr rfl
set_option maxRecDepth 100000 in
theorem tw_m5 : tw_okM 5 := Or.inr (by decide +kernel)
set_option maxRecDepth 100000 in
theorem tw_c6 : tw_okC 6 := Or.inr rfl
set_option maxRecDepth 100000 in
theorem tw_m6 : tw_okM 6 := Or.inr (by decide +kernel)
set_option maxRecDepth 100000 in
theorem tw_c7 : tw_okC 7 := Or.inr rfl
set_option maxRecDepth 100000 in
theorem tw_m7 : tw_okM 7 := Or.inr (by decide +kernel)
set_option maxRecDepth 100000 in
theorem tw_c8 : tw_okC 8 := Or.inr rfl
set_option maxRecDepth 100000 in
theorem tw_m8 : tw_okM 8 := Or.inr (by decide +kernel)
set_option maxRecDepth 100000 in
theorem tw_c9 : tw_okC 9 := Or.inr rfl
set_option maxRecDepth 100000 in
theorem tw_m9 : tw_okM 9 := Or.inr (by decide +kernel)
set_option maxRecDepth 100000 in
theorem tw_c10 : tw_okC 10 := Or.inr rfl
set_option maxRecDepth 100000 in
theorem tw_m10 : tw_okM 10 := Or.inr (by decide +kernel)
set_option maxRecDepth 100000 in
theorem tw_c11 : tw_okC 11 := Or.inr rfl
set_option maxRecDepth 100000 in
theorem tw_m11 : tw_okM 11 := Or.inr (by decide +kernel)
set_option maxRecDepth 100000 in
theorem tw_c12 : tw_okC 12 := Or.inr rfl
set_option maxRecDepth 100000 in
theorem tw_m12 : tw_okM 12 := Or.inr (by decide +kernel)
set_option maxRecDepth 100000 in
theorem tw_c13 : tw_okC 13 := Or.inr rfl
set_option maxRecDepth 100000 in
theorem tw_m13 : tw_okM 13 := Or.inr (by decide +kernel)
set_option maxRecDepth 100000 in
theorem tw_c14 : tw_okC 14 := Or.inr rfl
set_option maxRecDepth 100000 in
theorem tw_m14 : tw_okM 14 := Or.inr (by decide +kernel)
set_option maxRecDepth 100000 in
theorem tw_c15 : tw_okC 15 := Or.inr rfl
set_option maxRecDepth 100000 in
theorem tw_m15 : tw_okM 15 := Or.inr (by decide +kernel)
set_option maxRecDepth 100000 in
theorem tw_c16 : tw_okC 16 := Or.inr rfl
set_option maxRecDepth 100000 in
theorem tw_m16 : tw_okM 16 := Or.inr (by decide +kernel)
set_option maxRecDepth 100000 in
theorem tw_c17 : tw_okC 17 := Or.inr rfl
set_option maxRecDepth 100000 in
theorem tw_m17 : tw_okM 17 := Or.inr (by decide +kernel)
set_option maxRecDepth 100000 in
theorem tw_c18 : tw_okC 18 := Or.inr rfl
set_option maxRecDepth 100000 in
theorem tw_m18 : tw_okM 18 := Or.inr (by decide +kernel)
set_option maxRecDepth 100000 in
theorem tw_c19 : tw_okC 19 := Or.inr rfl
set_option maxRecDepth 100000 in
theorem tw_m19 : tw_okM 19 := Or.inr (by decide +kernel)
set_option maxRecDepth 100000 in
theorem tw_c20 : tw_okC 20 := Or.inr rfl
set_option maxRecDepth 100000 in
theorem tw_m20 : tw_okM 20 := Or.inr (by decide +kernel)
set_option maxRecDepth 100000 in
theorem tw_c21 : tw_okC 21 := Or.inr rfl
set_option maxRecDepth 100000 in
theorem tw_m21 : tw_okM 21 := Or.inr (by decide +kernel)
set_option maxRecDepth 100000 in
theorem tw_c22 : tw_okC 22 := Or.inr rfl
set_option maxRecDepth 100000 in
theorem tw_m22 : tw_okM 22 := Or.inr (by decide +kernel)
set_option maxRecDepth 100000 in
theorem tw_c23 : tw_okC 23 := Or.inr rfl
set_option maxRecDepth 100000 in
theorem tw_m23 : tw_okM 23 := Or.inr (by decide +kernel)
set_option maxRecDepth 100000 in
theorem tw_c24 : tw_okC 24 := Or.inr rfl
set_option maxRecDepth 100000 in
theorem tw_m24 : tw_okM 24 := Or.inr (by decide +kernel)
set_option maxRecDepth 100000 in
theorem tw_c25 : tw_okC 25 := Or.inr rfl
set_option maxRecDepth 100000 in
theorem tw_m25 : tw_okM 25 := Or.inr (by decide +kernel)
set_option maxRecDepth 100000 in
theorem tw_c26 : tw_okC 26 := Or.inr rfl
set_option maxRecDepth 100000 in
theorem tw_m26 : tw_okM 26 := Or.inr (by decide +kernel)
set_option maxRecDepth 100000 in
theorem tw_c27 : tw_okC 27 := Or.inr rfl
set_option maxRecDepth 100000 in
theorem tw_m27 : tw_okM 27 := Or.inr (by decide +kernel)
set_option maxRecDepth 100000 in
theorem tw_c28 : tw_okC 28 := Or.inr rfl
set_option maxRecDepth 100000 in
theorem tw_m28 : tw_okM 28 := Or.inr (by decide +kernel)
set_option maxRecDepth 100000 in
theorem tw_c29 : tw_okC 29 := Or.inr rfl
set_option maxRecDepth 100000 in
theorem tw_m29 : tw_okM 29 := Or.inr (by decide +kernel)
set_option maxRecDepth 100000 in
theorem tw_c30 : tw_okC 30 := Or.inr rfl
set_option maxRecDepth 100000 in
theorem tw_m30 : tw_okM 30 := Or.inr (by decide +kernel)
set_option maxRecDepth 100000 in
theorem tw_c31 : tw_okC 31 := Or.inr rfl
set_option maxRecDepth 100000 in
theorem tw_m31 : tw_okM 31 := Or.inr (by decide +kernel)
set_option maxRecDepth 100000 in
theorem tw_c32 : tw_okC 32 := Or.inr rfl
set_option maxRecDepth 100000 in
theorem tw_m32 : tw_okM 32 := Or.inr (by decide +kernel)
set_option maxRecDepth 100000 in
theorem tw_c33 : tw_okC 33 := Or.inr rfl
set_option maxRecDepth 100000 in
theorem tw_m33 : tw_okM 33 := Or.inr (by decide +kernel)
set_option maxRecDepth 100000 in
theorem tw_c34 : tw_okC 34 := Or.inr rfl
set_option maxRecDepth 100000 in
theorem tw_m34 : tw_okM 34 := Or.inr (by decide +kernel)
set_option maxRecDepth 100000 in
theorem tw_c35 : tw_okC 35 := Or.inr rfl
set_option maxRecDepth 100000 in
theorem tw_m35 : tw_okM 35 := Or.inr (by decide +kernel)
set_option maxRecDepth 100000 in
theorem tw_c36 : tw_okC 36 := Or.inr rfl
set_option maxRecDepth 100000 in
theorem tw_m36 : tw_okM 36 := Or.inr (by decide +kernel)
set_option maxRecDepth 100000 in
theorem tw_c37 : tw_okC 37 := Or.inr rfl
set_option maxRecDepth 100000 in
theorem tw_m37 : tw_okM 37 := Or.inr (by decide +kernel)
set_option maxRecDepth 100000 in
theorem tw_c38 : tw_okC 38 := Or.inr rfl
set_option maxRecDepth 100000 in
theorem tw_m38 : tw_okM 38 := Or.inr (by decide +kernel)
set_option maxRecDepth 100000 in
theorem tw_c39 : tw_okC 39 := Or.inr rfl
set_option maxRecDepth 100000 in
theorem tw_m39 : tw_okM 39 := Or.inr (by decide +kernel)
set_option maxRecDepth 100000 in
theorem tw_c40 : tw_okC 40 := Or.inr rfl
set_option maxRecDepth 100000 in
theorem tw_m40 : tw_okM 40 := Or.inr (by decide +kernel)
set_option maxRecDepth 100000 in
theorem tw_c41 : tw_okC 41 := Or.inr rfl
set_option maxRecDepth 100000 in
theorem tw_m41 : tw_okM 41 := Or.inr (by decide +kernel)
set_option maxRecDepth 100000 in
theorem tw_c42 : tw_okC 42 := Or.inr rfl
set_option maxRecDepth 100000 in
theorem tw_m42 : tw_okM 42 := Or.inr (by decide +kernel)
set_option maxRecDepth 100000 in
theorem tw_c43 : tw_okC 43 := Or.inr rfl
set_option maxRecDepth 100000 in
theorem tw_m43 : tw_okM 43 := Or.inr (by decide +kernel)
set_option maxRecDepth 100000 in
theorem tw_c44 : tw_okC 44 := Or.inr rfl
set_option maxRecDepth 100000 in
theorem tw_m44 : tw_okM 44 := Or.inr (by decide +kernel)
set_option maxRecDepth 100000 in
theorem tw_c45 : tw_okC 45 := Or.inr rfl
set_option maxRecDepth 100000 in
theorem tw_m45 : tw_okM 45 := Or.inr (by decide +kernel)
set_option maxRecDepth 100000 in
theorem tw_c46 : tw_okC 46 := Or.inr rfl
set_option maxRecDepth 100000 in
theorem tw_m46 : tw_okM 46 := Or.inr (by decide +kernel)
set_option maxRecDepth 100000 in
theorem tw_c47 : tw_okC 47 := Or.inr rfl
set_option maxRecDepth 100000 in
theorem tw_m47 : tw_okM 47 := Or.inr (by decide +kernel)
set_option maxRecDepth 100000 in
theorem tw_c48 : tw_okC 48 := Or.inr rfl
set_option maxRecDepth 100000 in
theorem tw_m48 : tw_okM 48 := Or.inr (by decide +kernel)
set_option maxRecDepth 100000 in
theorem tw_c49 : tw_okC 49 := Or.inr rfl
set_option maxRecDepth 100000 in
theorem tw_m49 : tw_okM 49 := Or.inr (by decide +kernel)
set_option maxRecDepth 100000 in
theorem tw_c50 : tw_okC 50 := Or.inr rfl
set_option maxRecDepth 100000 in
theorem tw_m50 : tw_okM 50 := Or.inr (by decide +kernel)
set_option maxRecDepth 100000 in
theorem tw_c51 : tw_okC 51 := Or.inr rfl
set_option maxRecDepth 100000 in
theorem tw_m51 : tw_okM 51 := Or.inr (by decide +kernel)
set_option maxRecDepth 100000 in
theorem tw_c52 : tw_okC 52 := Or.inr rfl
set_option maxRecDepth 100000 in
theorem tw_m52 : tw_okM 52 := Or.inr (by decide +kernel)
set_option maxRecDepth 100000 in
theorem tw_c53 : tw_okC 53 := Or.inr rfl
set_option maxRecDepth 100000 in
theorem tw_m53 : tw_okM 53 := Or.inr (by decide +kernel)
set_option maxRecDepth 100000 in
theorem tw_c54 : tw_okC 54 := Or.inr rfl
set_option maxRecDepth 100000 in
theorem tw_m54 : tw_okM 54 := Or.inr (by decide +kernel)
set_option maxRecDepth 100000 in
theorem tw_c55 : tw_okC 55 := Or.inr rfl
set_option maxRecDepth 100000 in
theorem tw_m55 : tw_okM 55 := Or.inr (by decide +kernel)
set_option maxRecDepth 100000 in
theorem tw_c56 : tw_okC 56 := Or.inr rfl
set_option maxRecDepth 100000 in
theorem tw_m56 : tw_okM 56 := Or.inr (by decide +kernel)
set_option maxRecDepth 100000 in
theorem tw_c57 : tw_okC 57 := Or.inr rfl
set_option maxRecDepth 100000 in
theorem tw_m57 : tw_okM 57 := Or.inr (by decide +kernel)
set_option maxRecDepth 100000 in
theorem tw_c58 : tw_okC 58 := Or.inr rfl
set_option maxRecDepth 100000 in
theorem tw_m58 : tw_okM 58 := Or.inr (by decide +kernel)
set_option maxRecDepth 100000 in
theorem tw_c59 : tw_okC 59 := Or.inr rfl
set_option maxRecDepth 100000 in
theorem tw_m59 : tw_okM 59 := Or.inr (by decide +kernel)
set_option maxRecDepth 100000 in
theorem tw_c60 : tw_okC 60 := Or.inr rfl
set_option maxRecDepth 100000 in
theorem tw_m60 : tw_okM 60 := Or.inr (by decide +kernel)
set_option maxRecDepth 100000 in
theorem tw_c61 : tw_okC 61 := Or.inr rfl
set_option maxRecDepth 100000 in
theorem tw_m61 : tw_okM 61 := Or.inr (by decide +kernel)
set_option maxRecDepth 100000 in
theorem tw_c62 : tw_okC 62 := Or.inr rfl
set_option maxRecDepth 100000 in
theorem tw_m62 : tw_okM 62 := Or.inr (by decide +kernel)
set_option maxRecDepth 100000 in
theorem tw_c63 : tw_okC 63 := Or.inr rfl
set_option maxRecDepth 100000 in
theorem tw_m63 : tw_okM 63 := Or.inr (by decide +kernel)
set_option maxRecDepth 100000 in
theorem tw_c64 : tw_okC 64 := Or.inr rfl
set_option maxRecDepth 100000 in
theorem tw_m64 : tw_okM 64 := Or.inr (by decide +kernel)
set_option maxRecDepth 100000 in
theorem tw_c65 : tw_okC 65 := Or.inr rfl
set_option maxRecDepth 100000 in
theorem tw_m65 : tw_okM 65 := Or.inr (by decide +kernel)
set_option maxRecDepth 100000 in
theorem tw_c66 : tw_okC 66 := Or.inr rfl
set_option maxRecDepth 100000 in
theorem tw_m66 : tw_okM 66 := Or.inr (by decide +kernel)
set_option maxRecDepth 100000 in
theorem tw_c67 : tw_okC 67 := Or.inr rfl
set_option maxRecDepth 100000 in
theorem tw_m67 : tw_okM 67 := Or.inr (by decide +kernel)
set_option maxRecDepth 100000 in
theorem tw_c68 : tw_okC 68 := Or.inr rfl
set_option maxRecDepth 100000 in
theorem tw_m68 : tw_okM 68 := Or.inr (by decide +kernel)
set_option maxRecDepth 100000 in
theorem tw_c69 : tw_okC 69 := Or.inr rfl
set_option maxRecDepth 100000 in
theorem tw_m69 : tw_okM 69 := Or.inr (by decide +kernel)
set_option maxRecDepth 100000 in
theorem tw_c70 : tw_okC 70 := Or.inr rfl
set_option maxRecDepth 100000 in
theorem tw_m70 : tw_okM 70 := Or.inr (by decide +kernel)
set_option maxRecDepth 100000 in
theorem tw_c71 : tw_okC 71 := Or.inr rfl
set_option maxRecDepth 100000 in
theorem tw_m71 : tw_okM 71 := Or.inr (by decide +kernel)
set_option maxRecDepth 100000 in
theorem tw_c72 : tw_okC 72 := Or.inr rfl
set_option maxRecDepth 100000 in
theorem tw_m72 : tw_okM 72 := Or.inr (by decide +kernel)
set_option maxRecDepth 100000 in
theorem tw_c73 : tw_okC 73 := Or.inr rfl
set_option maxRecDepth 100000 in
theorem tw_m73 : tw_okM 73 := Or.inr (by decide +kernel)
set_option maxRecDepth 100000 in
theorem tw_c74 : tw_okC 74 := Or.inr rfl
set_option maxRecDepth 100000 in
theorem tw_m74 : tw_okM 74 := Or.inr (by decide +kernel)
set_option maxRecDepth 100000 in
theorem tw_c75 : tw_okC 75 := Or.inr rfl
set_option maxRecDepth 100000 in
theorem tw_m75 : tw_okM 75 := Or.inr (by decide +kernel)
set_option maxRecDepth 100000 in
theorem tw_c76 : tw_okC 76 := Or.inr rfl
set_option maxRecDepth 100000 in
theorem tw_m76 : tw_okM 76 := Or.inr (by decide +kernel)
set_option maxRecDepth 100000 in
theorem tw_c77 : tw_okC 77 := Or.inr rfl
set_option maxRecDepth 100000 in
theorem tw_m77 : tw_okM 77 := Or.inr (by decide +kernel)
set_option maxRecDepth 100000 in
theorem tw_c78 : tw_okC 78 := Or.inr rfl
set_option maxRecDepth 100000 in
theorem tw_m78 : tw_okM 78 := Or.inr (by decide +kernel)
set_option maxRecDepth 100000 in
theorem tw_c79 : tw_okC 79 := Or.inr rfl
set_option maxRecDepth 100000 in
theorem tw_m79 : tw_okM 79 := Or.inr (by decide +kernel)
set_option maxRecDepth 100000 in
theorem tw_c80 : tw_okC 80 := Or.inr rfl
set_option maxRecDepth 100000 in
theorem tw_m80 : tw_okM 80 := Or.inr (by decide +kernel)
set_option maxRecDepth 100000 in
theorem tw_c81 : tw_okC 81 := Or.inr rfl
set_option maxRecDepth 100000 in
theorem tw_m81 : tw_okM 81 := Or.inr (by decide +kernel)
set_option maxRecDepth 100000 in
theorem tw_c82 : tw_okC 82 := Or.inr rfl
set_option maxRecDepth 100000 in
theorem tw_m82 : tw_okM 82 := Or.inr (by decide +kernel)
set_option maxRecDepth 100000 in
theorem tw_c83 : tw_okC 83 := Or.inr rfl
set_option maxRecDepth 100000 in
theorem tw_m83 : tw_okM 83 := Or.inr (by decide +kernel)
set_option maxRecDepth 100000 in
theorem tw_c84 : tw_okC 84 := Or.inr rfl
set_option maxRecDepth 100000 in
theorem tw_m84 : tw_okM 84 := Or.inr (by decide +kernel)
set_option maxRecDepth 100000 in
theorem tw_c85 : tw_okC 85 := Or.inr rfl
set_option maxRecDepth 100000 in
theorem tw_m85 : tw_okM 85 := Or.inr (by decide +kernel)
set_option maxRecDepth 100000 in
theorem tw_c86 : tw_okC 86 := Or.inr rfl
set_option maxRecDepth 100000 in
theorem tw_m86 : tw_okM 86 := Or.inr (by decide +kernel)
set_option maxRecDepth 100000 in
theorem tw_c87 : tw_okC 87 := Or.inr rfl
set_option maxRecDepth 100000 in
theorem tw_m87 : tw_okM 87 := Or.inr (by decide +kernel)
set_option maxRecDepth 100000 in
theorem tw_c88 : tw_okC 88 := Or.inr rfl
set_option maxRecDepth 100000 in
theorem tw_m88 : tw_okM 88 := Or.inr (by decide +kernel)
set_option maxRecDepth 100000 in
theorem tw_c89 : tw_okC 89 := Or.inr rfl
set_option maxRecDepth 100000 in
theorem tw_m89 : tw_okM 89 := Or.inr (by decide +kernel)
set_option maxRecDepth 100000 in
theorem tw_c90 : tw_okC 90 := Or.inr rfl
set_option maxRecDepth 100000 in
theorem tw_m90 : tw_okM 90 := Or.inr (by decide +kernel)
set_option maxRecDepth 100000 in
theorem tw_c91 : tw_okC 91 := Or.inr rfl
set_option maxRecDepth 100000 in
theorem tw_m91 : tw_okM 91 := Or.inr (by decide +kernel)
set_option maxRecDepth 100000 in
theorem tw_c92 : tw_okC 92 := Or.inr rfl
set_option maxRecDepth 100000 in
theorem tw_m92 : tw_okM 92 := Or.inr (by decide +kernel)
set_option maxRecDepth 100000 in
theorem tw_c93 : tw_okC 93 := Or.inr rfl
set_option maxRecDepth 100000 in
theorem tw_m93 : tw_okM 93 := Or.inr (by decide +kernel)
set_option maxRecDepth 100000 in
theorem tw_c94 : tw_okC 94 := Or.inr rfl
set_option maxRecDepth 100000 in
theorem tw_m94 : tw_okM 94 := Or.inr (by decide +kernel)
set_option maxRecDepth 100000 in
theorem tw_c95 : tw_okC 95 := Or.inr rfl
set_option maxRecDepth 100000 in
theorem tw_m95 : tw_okM 95 := Or.inr (by decide +kernel)
set_option maxRecDepth 100000 in
theorem tw_c96 : tw_okC 96 := Or.inr rfl
set_option maxRecDepth 100000 in
theorem tw_m96 : tw_okM 96 := Or.inr (by decide +kernel)
set_option maxRecDepth 100000 in
theorem tw_c97 : tw_okC 97 := Or.inr rfl
set_option maxRecDepth 100000 in
theorem tw_m97 : tw_okM 97 := Or.inr (by decide +kernel)
set_option maxRecDepth 100000 in
theorem tw_c98 : tw_okC 98 := Or.inr rfl
set_option maxRecDepth 100000 in
theorem tw_m98 : tw_okM 98 := Or.inr (by decide +kernel)
set_option maxRecDepth 100000 in
theorem tw_c99 : tw_okC 99 := Or.inr rfl
set_option maxRecDepth 100000 in
theorem tw_m99 : tw_okM 99 := Or.inr (by decide +kernel)
set_option maxRecDepth 100000 in
theorem tw_c100 : tw_okC 100 := Or.inr rfl
set_option maxRecDepth 100000 in
theorem tw_m100 : tw_okM 100 := Or.inr (by decide +kernel)
set_option maxRecDepth 100000 in
theorem tw_c101 : tw_okC 101 := Or.inr rfl
set_option maxRecDepth 100000 in
theorem tw_m101 : tw_okM 101 := Or.inr (by decide +kernel)
set_option maxRecDepth 100000 in
theorem tw_c102 : tw_okC 102 := Or.inr rfl
set_option maxRecDepth 100000 in
theorem tw_m102 : tw_okM 102 := Or.inr (by decide +kernel)
set_option maxRecDepth 100000 in
theorem tw_c103 : tw_okC 103 := Or.inr rfl
set_option maxRecDepth 100000 in
theorem tw_m103 : tw_okM 103 := Or.inr (by decide +kernel)
set_option maxRecDepth 100000 in
theorem tw_c104 : tw_okC 104 := Or.inr rfl
set_option maxRecDepth 100000 in
theorem tw_m104 : tw_okM 104 := Or.inr (by decide +kernel)
set_option maxRecDepth 100000 in
theorem tw_c105 : tw_okC 105 := Or.inr rfl
set_option maxRecDepth 100000 in
theorem tw_m105 : tw_okM 105 := Or.inr (by decide +kernel)
set_option maxRecDepth 100000 in
theorem tw_c106 : tw_okC 106 := Or.inr rfl
set_option maxRecDepth 100000 in
theorem tw_m106 : tw_okM 106 := Or.inr (by decide +kernel)
set_option maxRecDepth 100000 in
theorem tw_c107 : tw_okC 107 := Or.inr rfl
set_option maxRecDepth 100000 in
theorem tw_m107 : tw_okM 107 := Or.inr (by decide +kernel)
set_option maxRecDepth 100000 in
theorem tw_c108 : tw_okC 108 := Or.inr rfl
set_option maxRecDepth 100000 in
theorem tw_m108 : tw_okM 108 := Or.inr (by decide +kernel)
set_option maxRecDepth 100000 in
theorem tw_c109 : tw_okC 109 := Or.inr rfl
set_option maxRecDepth 100000 in
theorem tw_m109 : tw_okM 109 := Or.inr (by decide +kernel)
set_option maxRecDepth 100000 in
theorem tw_c110 : tw_okC 110 := Or.inr rfl
set_option maxRecDepth 100000 in
theorem tw_m110 : tw_okM 110 := Or.inr (by decide +kernel)
set_option maxRecDepth 100000 in
theorem tw_c111 : tw_okC 111 := Or.inr rfl
set_option maxRecDepth 100000 in
theorem tw_m111 : tw_okM 111 := Or.inr (by decide +kernel)
set_option maxRecDepth 100000 in
theorem tw_c112 : tw_okC 112 := Or.inr rfl
set_option maxRecDepth 100000 in
theorem tw_m112 : tw_okM 112 := Or.inr (by decide +kernel)
set_option maxRecDepth 100000 in
theorem tw_c113 : tw_okC 113 := Or.inr rfl
set_option maxRecDepth 100000 in
theorem tw_m113 : tw_okM 113 := Or.inr (by decide +kernel)
set_option maxRecDepth 100000 in
theorem tw_c114 : tw_okC 114 := Or.inr rfl
set_option maxRecDepth 100000 in
theorem tw_m114 : tw_okM 114 := Or.inr (by decide +kernel)
set_option maxRecDepth 100000 in
theorem tw_c115 : tw_okC 115 := Or.inr rfl
set_option maxRecDepth 100000 in
theorem tw_m115 : tw_okM 115 := Or.inr (by decide +kernel)
set_option maxRecDepth 100000 in
theorem tw_c116 : tw_okC 116 := Or.inr rfl
set_option maxRecDepth 100000 in
theorem tw_m116 : tw_okM 116 := Or.inr (by decide +kernel)
set_option maxRecDepth 100000 in
theorem tw_c117 : tw_okC 117 := Or.inr rfl
set_option maxRecDepth 100000 in
theorem tw_m117 : tw_okM 117 := Or.inr (by decide +kernel)
set_option maxRecDepth 100000 in
theorem tw_c118 : tw_okC 118 := Or.inr rfl
set_option maxRecDepth 100000 in
theorem tw_m118 : tw_okM 118 := Or.inr (by decide +kernel)
set_option maxRecDepth 100000 in
theorem tw_c119 : tw_okC 119 := Or.inr rfl
set_option maxRecDepth 100000 in
theorem tw_m119 : tw_okM 119 := Or.inr (by decide +kernel)
set_option maxRecDepth 100000 in
theorem tw_c120 : tw_okC 120 := Or.inr rfl
set_option maxRecDepth 100000 in
theorem tw_m120 : tw_okM 120 := Or.inr (by decide +kernel)
set_option maxRecDepth 100000 in
theorem tw_c121 : tw_okC 121 := Or.inr rfl
set_option maxRecDepth 100000 in
theorem tw_m121 : tw_okM 121 := Or.inr (by decide +kernel)
set_option maxRecDepth 100000 in
theorem tw_c122 : tw_okC 122 := Or.inr rfl
set_option maxRecDepth 100000 in
theorem tw_m122 : tw_okM 122 := Or.inr (by decide +kernel)
set_option maxRecDepth 100000 in
theorem tw_c123 : tw_okC 123 := Or.inr rfl
set_option maxRecDepth 100000 in
theorem tw_m123 : tw_okM 123 := Or.inr (by decide +kernel)
set_option maxRecDepth 100000 in
theorem tw_c124 : tw_okC 124 := Or.inr rfl
set_option maxRecDepth 100000 in
theorem tw_m124 : tw_okM 124 := Or.inr (by decide +kernel)
set_option maxRecDepth 100000 in
theorem tw_c125 : tw_okC 125 := Or.inr rfl
set_option maxRecDepth 100000 in
theorem tw_m125 : tw_okM 125 := Or.inr (by decide +kernel)
set_option maxRecDepth 100000 in
theorem tw_c126 : tw_okC 126 := Or.inr rfl
set_option maxRecDepth 100000 in
theorem tw_m126 : tw_okM 126 := Or.inr (by decide +kernel)
set_option maxRecDepth 100000 in
theorem tw_c127 : tw_okC 127 := Or.inr rfl
set_option maxRecDepth 100000 in
theorem tw_m127 : tw_okM 127 := Or.inr (by decide +kernel)
set_option maxRecDepth 100000 in
theorem tw_c128 : tw_okC 128 := Or.inr rfl
set_option maxRecDepth 100000 in
theorem tw_m128 : tw_okM 128 := Or.inr (by decide +kernel)
set_option maxRecDepth 100000 in
theorem tw_c129 : tw_okC 129 := Or.inr rfl
set_option maxRecDepth 100000 in
theorem tw_m129 : tw_okM 129 := Or.inr (by decide +kernel)
set_option maxRecDepth 100000 in
theorem tw_c130 : tw_okC 130 := Or.inr rfl
set_option maxRecDepth 100000 in
theorem tw_m130 : tw_okM 130 := Or.inr (by decide +kernel)
set_option maxRecDepth 100000 in
theorem tw_c131 : tw_okC 131 := Or.inr rfl
set_option maxRecDepth 100000 in
theorem tw_m131 : tw_okM 131 := Or.inr (by decide +kernel)
set_option maxRecDepth 100000 in
theorem tw_c132 : tw_okC 132 := Or.inr rfl
set_option maxRecDepth 100000 in
theorem tw_m132 : tw_okM 132 := Or.inr (by decide +kernel)
set_option maxRecDepth 100000 in
theorem tw_c133 : tw_okC 133 := Or.inr rfl
set_option maxRecDepth 100000 in
theorem tw_m133 : tw_okM 133 := Or.inr (by decide +kernel)
set_option maxRecDepth 100000 in
theorem tw_c134 : tw_okC 134 := Or.inr rfl
set_option maxRecDepth 100000 in
theorem tw_m134 : tw_okM 134 := Or.inr (by decide +kernel)
set_option maxRecDepth 100000 in
theorem tw_c135 : tw_okC 135 := Or.inr rfl
set_option maxRecDepth 100000 in
theorem tw_m135 : tw_okM 135 := Or.inr (by decide +kernel)
set_option maxRecDepth 100000 in
theorem tw_c136 : tw_okC 136 := Or.inr rfl
set_option maxRecDepth 100000 in
theorem tw_m136 : tw_okM 136 := Or.inr (by decide +kernel)
set_option maxRecDepth 100000 in
theorem tw_c137 : tw_okC 137 := Or.inr rfl
set_option maxRecDepth 100000 in
theorem tw_m137 : tw_okM 137 := Or.inr (by decide +kernel)
set_option maxRecDepth 100000 in
theorem tw_c138 : tw_okC 138 := Or.inr rfl
set_option maxRecDepth 100000 in
theorem tw_m138 : tw_okM 138 := Or.inr (by decide +kernel)
set_option maxRecDepth 100000 in
theorem tw_c139 : tw_okC 139 := Or.inr rfl
set_option maxRecDepth 100000 in
theorem tw_m139 : tw_okM 139 := Or.inr (by decide +kernel)
set_option maxRecDepth 100000 in
theorem tw_c140 : tw_okC 140 := Or.inr rfl
set_option maxRecDepth 100000 in
theorem tw_m140 : tw_okM 140 := Or.inr (by decide +kernel)
set_option maxRecDepth 100000 in
theorem tw_c141 : tw_okC 141 := Or.inr rfl
set_option maxRecDepth 100000 in
theorem tw_m141 : tw_okM 141 := Or.inr (by decide +kernel)
set_option maxRecDepth 100000 in
theorem tw_c142 : tw_okC 142 := Or.inr rfl
set_option maxRecDepth 100000 in
theorem tw_m142 : tw_okM 142 := Or.inr (by decide +kernel)
set_option maxRecDepth 100000 in
theorem tw_c143 : tw_okC 143 := Or.inr rfl
set_option maxRecDepth 100000 in
theorem tw_m143 : tw_okM 143 := Or.inr (by decide +kernel)
set_option maxRecDepth 100000 in
theorem tw_c144 : tw_okC 144 := Or.inr rfl
set_option maxRecDepth 100000 in
theorem tw_m144 : tw_okM 144 := Or.inr (by decide +kernel)
set_option maxRecDepth 100000 in
theorem tw_c145 : tw_okC 145 := Or.inr rfl
set_option maxRecDepth 100000 in
theorem tw_m145 : tw_okM 145 := Or.inr (by decide +kernel)
set_option maxRecDepth 100000 in
theorem tw_c146 : tw_okC 146 := Or.inr rfl
set_option maxRecDepth 100000 in
theorem tw_m146 : tw_okM 146 := Or.inr (by decide +kernel)
set_option maxRecDepth 100000 in
theorem tw_c147 : tw_okC 147 := Or.inr rfl
set_option maxRecDepth 100000 in
theorem tw_m147 : tw_okM 147 := Or.inr (by decide +kernel)
set_option maxRecDepth 100000 in
theorem tw_c148 : tw_okC 148 := Or.inr rfl
set_option maxRecDepth 100000 in
theorem tw_m148 : tw_okM 148 := Or.inr (by decide +kernel)
set_option maxRecDepth 100000 in
theorem tw_c149 : tw_okC 149 := Or.inr rfl
set_option maxRecDepth 100000 in
theorem tw_m149 : tw_okM 149 := Or.inr (by decide +kernel)
set_option maxRecDepth 100000 in
theorem tw_c150 : tw_okC 150 := Or.inr rfl
set_option maxRecDepth 100000 in
theorem tw_m150 : tw_okM 150 := Or.inr (by decide +kernel)
set_option maxRecDepth 100000 in
theorem tw_c151 : tw_okC 151 := Or.inr rfl
set_option maxRecDepth 100000 in
theorem tw_m151 : tw_okM 151 := Or.inr (by decide +kernel)
set_option maxRecDepth 100000 in
theorem tw_c152 : tw_okC 152 := Or.inr rfl
set_option maxRecDepth 100000 in
theorem tw_m152 : tw_okM 152 := Or.inr (by decide +kernel)
set_option maxRecDepth 100000 in
theorem tw_c153 : tw_okC 153 := Or.inr rfl
set_option maxRecDepth 100000 in
theorem tw_m153 : tw_okM 153 := Or.inr (by decide +kernel)
set_option maxRecDepth 100000 in
theorem tw_c154 : tw_okC 154 := Or.inr rfl
set_option maxRecDepth 100000 in
theorem tw_m154 : tw_okM 154 := Or.inr (by decide +kernel)
set_option maxRecDepth 100000 in
theorem tw_c155 : tw_okC 155 := Or.inr rfl
set_option maxRecDepth 100000 in
theorem tw_m155 : tw_okM 155 := Or.inr (by decide +kernel)
set_option maxRecDepth 100000 in
theorem tw_c156 : tw_okC 156 := Or.inr rfl
set_option maxRecDepth 100000 in
theorem tw_m156 : tw_okM 156 := Or.inr (by decide +kernel)
set_option maxRecDepth 100000 in
theorem tw_c157 : tw_okC 157 := Or.inr rfl
set_option maxRecDepth 100000 in
theorem tw_m157 : tw_okM 157 := Or.inr (by decide +kernel)
set_option maxRecDepth 100000 in
theorem tw_c158 : tw_okC 158 := Or.inr rfl
set_option maxRecDepth 100000 in
theorem tw_m158 : tw_okM 158 := Or.inr (by decide +kernel)
set_option maxRecDepth 100000 in
theorem tw_c159 : tw_okC 159 := Or.inr rfl
set_option maxRecDepth 100000 in
theorem tw_m159 : tw_okM 159 := Or.inr (by decide +kernel)
set_option maxRecDepth 100000 in
theorem tw_c160 : tw_okC 160 := Or.inr rfl
set_option maxRecDepth 100000 in
theorem tw_m160 : tw_okM 160 := Or.inr (by decide +kernel)
set_option maxRecDepth 100000 in
theorem tw_c161 : tw_okC 161 := Or.inr rfl
set_option maxRecDepth 100000 in
theorem tw_m161 : tw_okM 161 := Or.inr (by decide +kernel)
set_option maxRecDepth 100000 in
theorem tw_c162 : tw_okC 162 := Or.inr rfl
set_option maxRecDepth 100000 in
theorem tw_m162 : tw_okM 162 := Or.inr (by decide +kernel)
set_option maxRecDepth 100000 in
theorem tw_c163 : tw_okC 163 := Or.inr rfl
set_option maxRecDepth 100000 in
theorem tw_m163 : tw_okM 163 := Or.inr (by decide +kernel)
set_option maxRecDepth 100000 in
theorem tw_c164 : tw_okC 164 := Or.inr rfl
set_option maxRecDepth 100000 in
theorem tw_m164 : tw_okM 164 := Or.inr (by decide +kernel)
set_option maxRecDepth 100000 in
theorem tw_c165 : tw_okC 165 := Or.inr rfl
set_option maxRecDepth 100000 in
theorem tw_m165 : tw_okM 165 := Or.inr (by decide +kernel)
set_option maxRecDepth 100000 in
theorem tw_c166 : tw_okC 166 := Or.inr rfl
set_option maxRecDepth 100000 in
theorem tw_m166 : tw_okM 166 := Or.inr (by decide +kernel)
set_option maxRecDepth 100000 in
theorem tw_c167 : tw_okC 167 := Or.inr rfl
set_option maxRecDepth 100000 in
theorem tw_m167 : tw_okM 167 := Or.inr (by decide +kernel)
set_option maxRecDepth 100000 in
theorem tw_c168 : tw_okC 168 := Or.inr rfl
set_option maxRecDepth 100000 in
theorem tw_m168 : tw_okM 168 := Or.inr (by decide +kernel)
set_option maxRecDepth 100000 in
theorem tw_c169 : tw_okC 169 := Or.inr rfl
set_option maxRecDepth 100000 in
theorem tw_m169 : tw_okM 169 := Or.inr (by decide +kernel)
set_option maxRecDepth 100000 in
theorem tw_c170 : tw_okC 170 := Or.inr rfl
set_option maxRecDepth 100000 in
theorem tw_m170 : tw_okM 170 := Or.inr (by decide +kernel)
set_option maxRecDepth 100000 in
theorem tw_c171 : tw_okC 171 := Or.inr rfl
set_option maxRecDepth 100000 in
theorem tw_m171 : tw_okM 171 := Or.inr (by decide +kernel)
set_option maxRecDepth 100000 in
theorem tw_c172 : tw_okC 172 := Or.inr rfl
set_option maxRecDepth 100000 in
theorem tw_m172 : tw_okM 172 := Or.inr (by decide +kernel)
set_option maxRecDepth 100000 in
theorem tw_c173 : tw_okC 173 := Or.inr rfl
set_option maxRecDepth 100000 in
theorem tw_m173 : tw_okM 173 := Or.inr (by decide +kernel)
set_option maxRecDepth 100000 in
theorem tw_c174 : tw_okC 174 := Or.inr rfl
set_option maxRecDepth 100000 in
theorem tw_m174 : tw_okM 174 := Or.inr (by decide +kernel)
set_option maxRecDepth 100000 in
theorem tw_c175 : tw_okC 175 := Or.inr rfl
set_option maxRecDepth 100000 in
theorem tw_m175 : tw_okM 175 := Or.inr (by decide +kernel)
set_option maxRecDepth 100000 in
theorem tw_c176 : tw_okC 176 := Or.inr rfl
set_option maxRecDepth 100000 in
theorem tw_m176 : tw_okM 176 := Or.inr (by decide +kernel)
set_option maxRecDepth 100000 in
theorem tw_c177 : tw_okC 177 := Or.inr rfl
set_option maxRecDepth 100000 in
theorem tw_m177 : tw_okM 177 := Or.inr (by decide +kernel)
set_option maxRecDepth 100000 in
theorem tw_c178 : tw_okC 178 := Or.inr rfl
set_option maxRecDepth 100000 in
theorem tw_m178 : tw_okM 178 := Or.inr (by decide +kernel)
set_option maxRecDepth 100000 in
theorem tw_c179 : tw_okC 179 := Or.inr rfl
set_option maxRecDepth 100000 in
theorem tw_m179 : tw_okM 179 := Or.inr (by decide +kernel)
set_option maxRecDepth 100000 in
theorem tw_c180 : tw_okC 180 := Or.inr rfl
set_option maxRecDepth 100000 in
theorem tw_m180 : tw_okM 180 := Or.inr (by decide +kernel)
set_option maxRecDepth 100000 in
theorem tw_c181 : tw_okC 181 := Or.inr rfl
set_option maxRecDepth 100000 in
theorem tw_m181 : tw_okM 181 := Or.inr (by decide +kernel)
set_option maxRecDepth 100000 in
theorem tw_c182 : tw_okC 182 := Or.inr rfl
set_option maxRecDepth 100000 in
theorem tw_m182 : tw_okM 182 := Or.inr (by decide +kernel)
set_option maxRecDepth 100000 in
theorem tw_c183 : tw_okC 183 := Or.inr rfl
set_option maxRecDepth 100000 in
theorem tw_m183 : tw_okM 183 := Or.inr (by decide +kernel)
set_option maxRecDepth 100000 in
theorem tw_c184 : tw_okC 184 := Or.inr rfl
set_option maxRecDepth 100000 in
theorem tw_m184 : tw_okM 184 := Or.inr (by decide +kernel)
set_option maxRecDepth 100000 in
theorem tw_c185 : tw_okC 185 := Or.inr rfl
set_option maxRecDepth 100000 in
theorem tw_m185 : tw_okM 185 := Or.inr (by decide +kernel)
set_option maxRecDepth 100000 in
theorem tw_c186 : tw_okC 186 := Or.inr rfl
set_option maxRecDepth 100000 in
theorem tw_m186 : tw_okM 186 := Or.inr (by decide +kernel)
set_option maxRecDepth 100000 in
theorem tw_c187 : tw_okC 187 := Or.inr rfl
set_option maxRecDepth 100000 in
theorem tw_m187 : tw_okM 187 := Or.inr (by decide +kernel)
set_option maxRecDepth 100000 in
theorem tw_c188 : tw_okC 188 := Or.inr rfl
set_option maxRecDepth 100000 in
theorem tw_m188 : tw_okM 188 := Or.inr (by decide +kernel)
set_option maxRecDepth 100000 in
theorem tw_c189 : tw_okC 189 := Or.inr rfl
set_option maxRecDepth 100000 in
theorem tw_m189 : tw_okM 189 := Or.inr (by decide +kernel)
set_option maxRecDepth 100000 in
theorem tw_c190 : tw_okC 190 := Or.inr rfl
set_option maxRecDepth 100000 in
theorem tw_m190 : tw_okM 190 := Or.inr (by decide +kernel)
set_option maxRecDepth 100000 in
theorem tw_c191 : tw_okC 191 := Or.inr rfl
set_option maxRecDepth 100000 in
theorem tw_m191 : tw_okM 191 := Or.inr (by decide +kernel)
set_option maxRecDepth 100000 in
theorem tw_c192 : tw_okC 192 := Or.inr rfl
set_option maxRecDepth 100000 in
theorem tw_m192 : tw_okM 192 := Or.inr (by decide +kernel)
set_option maxRecDepth 100000 in
theorem tw_c193 : tw_okC 193 := Or.inr rfl
set_option maxRecDepth 100000 in
theorem tw_m193 : tw_okM 193 := Or.inr (by decide +kernel)
set_option maxRecDepth 100000 in
theorem tw_c194 : tw_okC 194 := Or.inr rfl
set_option maxRecDepth 100000 in
theorem tw_m194 : tw_okM 194 := Or.inr (by decide +kernel)
set_option maxRecDepth 100000 in
theorem tw_c195 : tw_okC 195 := Or.inr rfl
set_option maxRecDepth 100000 in
theorem tw_m195 : tw_okM 195 := Or.inr (by decide +kernel)
set_option maxRecDepth 100000 in
theorem tw_c196 : tw_okC 196 := Or.inr rfl
set_option maxRecDepth 100000 in
theorem tw_m196 : tw_okM 196 := Or.inr (by decide +kernel)
set_option maxRecDepth 100000 in
theorem tw_c197 : tw_okC 197 := Or.inr rfl
set_option maxRecDepth 100000 in
theorem tw_m197 : tw_okM 197 := Or.inr (by decide +kernel)
set_option maxRecDepth 100000 in
theorem tw_c198 : tw_okC 198 := Or.inr rfl
set_option maxRecDepth 100000 in
theorem tw_m198 : tw_okM 198 := Or.inr (by decide +kernel)
set_option maxRecDepth 100000 in
theorem tw_c199 : tw_okC 199 := Or.inr rfl
set_option maxRecDepth 100000 in
theorem tw_m199 : tw_okM 199 := Or.inr (by decide +kernel)
set_option maxRecDepth 100000 in
theorem tw_c200 : tw_okC 200 := Or.inr rfl
set_option maxRecDepth 100000 in
theorem tw_m200 : tw_okM 200 := Or.inr (by decide +kernel)
set_option maxRecDepth 100000 in
theorem tw_c201 : tw_okC 201 := Or.inr rfl
set_option maxRecDepth 100000 in
theorem tw_m201 : tw_okM 201 := Or.inr (by decide +kernel)
set_option maxRecDepth 100000 in
theorem tw_c202 : tw_okC 202 := Or.inr rfl
set_option maxRecDepth 100000 in
theorem tw_m202 : tw_okM 202 := Or.inr (by decide +kernel)
set_option maxRecDepth 100000 in
theorem tw_c203 : tw_okC 203 := Or.inr rfl
set_option maxRecDepth 100000 in
theorem tw_m203 : tw_okM 203 := Or.inr (by decide +kernel)
set_option maxRecDepth 100000 in
theorem tw_c204 : tw_okC 204 := Or.inr rfl
set_option maxRecDepth 100000 in
theorem tw_m204 : tw_okM 204 := Or.inr (by decide +kernel)
set_option maxRecDepth 100000 in
theorem tw_c205 : tw_okC 205 := Or.inr rfl
set_option maxRecDepth 100000 in
theorem tw_m205 : tw_okM 205 := Or.inr (by decide +kernel)
set_option maxRecDepth 100000 in
theorem tw_c206 : tw_okC 206 := Or.inr rfl
set_option maxRecDepth 100000 in
theorem tw_m206 : tw_okM 206 := Or.inr (by decide +kernel)
set_option maxRecDepth 100000 in
theorem tw_c207 : tw_okC 207 := Or.inr rfl
set_option maxRecDepth 100000 in
theorem tw_m207 : tw_okM 207 := Or.inr (by decide +kernel)
set_option maxRecDepth 100000 in
theorem tw_c208 : tw_okC 208 := Or.inr rfl
set_option maxRecDepth 100000 in
theorem tw_m208 : tw_okM 208 := Or.inr (by decide +kernel)
set_option maxRecDepth 100000 in
theorem tw_c209 : tw_okC 209 := Or.inr rfl
set_option maxRecDepth 100000 in
theorem tw_m209 : tw_okM 209 := Or.inr (by decide +kernel)
set_option maxRecDepth 100000 in
theorem tw_c210 : tw_okC 210 := Or.inr rfl
set_option maxRecDepth 100000 in
theorem tw_m210 : tw_okM 210 := Or.inr (by decide +kernel)
set_option maxRecDepth 100000 in
theorem tw_c211 : tw_okC 211 := Or.inr rfl
set_option maxRecDepth 100000 in
theorem tw_m211 : tw_okM 211 := Or.inr (by decide +kernel)
set_option maxRecDepth 100000 in
theorem tw_c212 : tw_okC 212 := Or.inr rfl
set_option maxRecDepth 100000 in
theorem tw_m212 : tw_okM 212 := Or.inr (by decide +kernel)
set_option maxRecDepth 100000 in
theorem tw_c213 : tw_okC 213 := Or.inr rfl
set_option maxRecDepth 100000 in
theorem tw_m213 : tw_okM 213 := Or.inr (by decide +kernel)
set_option maxRecDepth 100000 in
theorem tw_c214 : tw_okC 214 := Or.inr rfl
set_option maxRecDepth 100000 in
theorem tw_m214 : tw_okM 214 := Or.inr (by decide +kernel)
set_option maxRecDepth 100000 in
theorem tw_c215 : tw_okC 215 := Or.inr rfl
set_option maxRecDepth 100000 in
theorem tw_m215 : tw_okM 215 := Or.inr (by decide +kernel)
set_option maxRecDepth 100000 in
theorem tw_c216 : tw_okC 216 := Or.inr rfl
set_option maxRecDepth 100000 in
theorem tw_m216 : tw_okM 216 := Or.inr (by decide +kernel)
set_option maxRecDepth 100000 in
theorem tw_c217 : tw_okC 217 := Or.inr rfl
set_option maxRecDepth 100000 in
theorem tw_m217 : tw_okM 217 := Or.inr (by decide +kernel)
set_option maxRecDepth 100000 in
theorem tw_c218 : tw_okC 218 := Or.inr rfl
set_option maxRecDepth 100000 in
theorem tw_m218 : tw_okM 218 := Or.inr (by decide +kernel)
set_option maxRecDepth 100000 in
theorem tw_c219 : tw_okC 219 := Or.inr rfl
set_option maxRecDepth 100000 in
theorem tw_m219 : tw_okM 219 := Or.inr (by decide +kernel)
set_option maxRecDepth 100000 in
theorem tw_c220 : tw_okC 220 := Or.inr rfl
set_option maxRecDepth 100000 in
theorem tw_m220 : tw_okM 220 := Or.inr (by decide +kernel)
set_option maxRecDepth 100000 in
theorem tw_c221 : tw_okC 221 := Or.inr rfl
set_option maxRecDepth 100000 in
theorem tw_m221 : tw_okM 221 := Or.inr (by decide +kernel)
set_option maxRecDepth 100000 in
theorem tw_c222 : tw_okC 222 := Or.inr rfl
set_option maxRecDepth 100000 in
theorem tw_m222 : tw_okM 222 := Or.inr (by decide +kernel)
set_option maxRecDepth 100000 in
theorem tw_c223 : tw_okC 223 := Or.inr rfl
set_option maxRecDepth 100000 in
theorem tw_m223 : tw_okM 223 := Or.inr (by decide +kernel)
set_option maxRecDepth 100000 in
theorem tw_c224 : tw_okC 224 := Or.inr rfl
set_option maxRecDepth 100000 in
theorem tw_m224 : tw_okM 224 := Or.inr (by decide +kernel)
set_option maxRecDepth 100000 in
theorem tw_c225 : tw_okC 225 := Or.inr rfl
set_option maxRecDepth 100000 in
theorem tw_m225 : tw_okM 225 := Or.inr (by decide +kernel)
set_option maxRecDepth 100000 in
theorem tw_c226 : tw_okC 226 := Or.inr rfl
set_option maxRecDepth 100000 in
theorem tw_m226 : tw_okM 226 := Or.inr (by decide +kernel)
set_option maxRecDepth 100000 in
theorem tw_c227 : tw_okC 227 := Or.inr rfl
set_option maxRecDepth 100000 in
theorem tw_m227 : tw_okM 227 := Or.inr (by decide +kernel)
set_option maxRecDepth 100000 in
theorem tw_c228 : tw_okC 228 := Or.inr rfl
set_option maxRecDepth 100000 in
theorem tw_m228 : tw_okM 228 := Or.inr (by decide +kernel)
set_option maxRecDepth 100000 in
theorem tw_c229 : tw_okC 229 := Or.inr rfl
set_option maxRecDepth 100000 in
theorem tw_m229 : tw_okM 229 := Or.inr (by decide +kernel)
set_option maxRecDepth 100000 in
theorem tw_c230 : tw_okC 230 := Or.inr rfl
set_option maxRecDepth 100000 in
theorem tw_m230 : tw_okM 230 := Or.inr (by decide +kernel)
set_option maxRecDepth 100000 in
theorem tw_c231 : tw_okC 231 := Or.inr rfl
set_option maxRecDepth 100000 in
theorem tw_m231 : tw_okM 231 := Or.inr (by decide +kernel)
set_option maxRecDepth 100000 in
theorem tw_c232 : tw_okC 232 := Or.inr rfl
set_option maxRecDepth 100000 in
theorem tw_m232 : tw_okM 232 := Or.inr (by decide +kernel)
set_option maxRecDepth 100000 in
theorem tw_c233 : tw_okC 233 := Or.inr rfl
set_option maxRecDepth 100000 in
theorem tw_m233 : tw_okM 233 := Or.inr (by decide +kernel)
set_option maxRecDepth 100000 in
theorem tw_c234 : tw_okC 234 := Or.inr rfl
set_option maxRecDepth 100000 in
theorem tw_m234 : tw_okM 234 := Or.inr (by decide +kernel)
set_option maxRecDepth 100000 in
theorem tw_c235 : tw_okC 235 := Or.inr rfl
set_option maxRecDepth 100000 in
theorem tw_m235 : tw_okM 235 := Or.inr (by decide +kernel)
set_option maxRecDepth 100000 in
theorem tw_c236 : tw_okC 236 := Or.inr rfl
set_option maxRecDepth 100000 in
theorem tw_m236 : tw_okM 236 := Or.inr (by decide +kernel)
set_option maxRecDepth 100000 in
theorem tw_c237 : tw_okC 237 := Or.inr rfl
set_option maxRecDepth 100000 in
theorem tw_m237 : tw_okM 237 := Or.inr (by decide +kernel)
set_option maxRecDepth 100000 in
theorem tw_c238 : tw_okC 238 := Or.inr rfl
set_option maxRecDepth 100000 in
theorem tw_m238 : tw_okM 238 := Or.inr (by decide +kernel)
set_option maxRecDepth 100000 in
theorem tw_c239 : tw_okC 239 := Or.inr rfl
set_option maxRecDepth 100000 in
theorem tw_m239 : tw_okM 239 := Or.inr (by decide +kernel)
set_option maxRecDepth 100000 in
theorem tw_c240 : tw_okC 240 := Or.inr rfl
set_option maxRecDepth 100000 in
theorem tw_m240 : tw_okM 240 := Or.inr (by decide +kernel)
set_option maxRecDepth 100000 in
theorem tw_c241 : tw_okC 241 := Or.inr rfl
set_option maxRecDepth 100000 in
theorem tw_m241 : tw_okM 241 := Or.inr (by decide +kernel)
set_option maxRecDepth 100000 in
theorem tw_c242 : tw_okC 242 := Or.inr rfl
set_option maxRecDepth 100000 in
theorem tw_m242 : tw_okM 242 := Or.inr (by decide +kernel)
set_option maxRecDepth 100000 in
theorem tw_c243 : tw_okC 243 := Or.inr rfl
set_option maxRecDepth 100000 in
theorem tw_m243 : tw_okM 243 := Or.inr (by decide +kernel)
set_option maxRecDepth 100000 in
theorem tw_c244 : tw_okC 244 := Or.inr rfl
set_option maxRecDepth 100000 in
theorem tw_m244 : tw_okM 244 := Or.inr (by decide +kernel)
set_option maxRecDepth 100000 in
theorem tw_c245 : tw_okC 245 := Or.inr rfl
set_option maxRecDepth 100000 in
theorem tw_m245 : tw_okM 245 := Or.inr (by decide +kernel)
set_option maxRecDepth 100000 in
theorem tw_c246 : tw_okC 246 := Or.inr rfl
set_option maxRecDepth 100000 in
theorem tw_m246 : tw_okM 246 := Or.inr (by decide +kernel)
set_option maxRecDepth 100000 in
theorem tw_c247 : tw_okC 247 := Or.inr rfl
set_option maxRecDepth 100000 in
theorem tw_m247 : tw_okM 247 := Or.inr (by decide +kernel)
set_option maxRecDepth 100000 in
theorem tw_c248 : tw_okC 248 := Or.inr rfl
set_option maxRecDepth 100000 in
theorem tw_m248 : tw_okM 248 := Or.inr (by decide +kernel)
set_option maxRecDepth 100000 in
theorem tw_c249 : tw_okC 249 := Or.inr rfl
set_option maxRecDepth 100000 in
theorem tw_m249 : tw_okM 249 := Or.inr (by decide +kernel)
set_option maxRecDepth 100000 in
theorem tw_c250 : tw_okC 250 := Or.inr rfl
set_option maxRecDepth 100000 in
theorem tw_m250 : tw_okM 250 := Or.inr (by decide +kernel)
set_option maxRecDepth 100000 in
theorem tw_c251 : tw_okC 251 := Or.inr rfl
set_option maxRecDepth 100000 in
theorem tw_m251 : tw_okM 251 := Or.inr (by decide +kernel)
set_option maxRecDepth 100000 in
theorem tw_c252 : tw_okC 252 := Or.inr rfl
set_option maxRecDepth 100000 in
theorem tw_m252 : tw_okM 252 := Or.inr (by decide +kernel)
set_option maxRecDepth 100000 in
theorem tw_c253 : tw_okC 253 := Or.inr rfl
set_option maxRecDepth 100000 in
theorem tw_m253 : tw_okM 253 := Or.inr (by decide +kernel)
set_option maxRecDepth 100000 in
theorem tw_c254 : tw_okC 254 := Or.inr rfl
set_option maxRecDepth 100000 in
theorem tw_m254 : tw_okM 254 := Or.inr (by decide +kernel)
set_option maxRecDepth 100000 in
theorem tw_c255 : tw_okC 255 := Or.inr rfl
set_option maxRecDepth 100000 in
theorem tw_m255 : tw_okM 255 := Or.inr (by decide +kernel)
set_option maxRecDepth 100000 in
theorem tw_c256 : tw_okC 256 := Or.inr rfl
set_option maxRecDepth 100000 in
theorem tw_m256 : tw_okM 256 := Or.inr (by decide +kernel)
set_option maxRecDepth 100000 in
theorem tw_c257 : tw_okC 257 := Or.inr rfl
set_option maxRecDepth 100000 in
theorem tw_m257 : tw_okM 257 := Or.inr (by decide +kernel)
set_option maxRecDepth 100000 in
theorem tw_c258 : tw_okC 258 := Or.inr rfl
set_option maxRecDepth 100000 in
theorem tw_m258 : tw_okM 258 := Or.inr (by decide +kernel)
set_option maxRecDepth 100000 in
theorem tw_c259 : tw_okC 259 := Or.inr rfl
set_option maxRecDepth 100000 in
theorem tw_m259 : tw_okM 259 := Or.inr (by decide +kernel)
set_option maxRecDepth 100000 in
theorem tw_c260 : tw_okC 260 := Or.inr rfl
set_option maxRecDepth 100000 in
theorem tw_m260 : tw_okM 260 := Or.inr (by decide +kernel)
set_option maxRecDepth 100000 in
theorem tw_c261 : tw_okC 261 := Or.inr rfl
set_option maxRecDepth 100000 in
theorem tw_m261 : tw_okM 261 := Or.inr (by decide +kernel)
set_option maxRecDepth 100000 in
theorem tw_c262 : tw_okC 262 := Or.inr rfl
set_option maxRecDepth 100000 in
theorem tw_m262 : tw_okM 262 := Or.inr (by decide +kernel)
set_option maxRecDepth 100000 in
theorem tw_c263 : tw_okC 263 := Or.inr rfl
set_option maxRecDepth 100000 in
theorem tw_m263 : tw_okM 263 := Or.inr (by decide +kernel)
theorem tw_c264 : tw_okC 264 := Or.inl rfl
theorem tw_m264 : tw_okM 264 := Or.inl rfl
set_option maxRecDepth 100000 in
theorem tw_okC_all : ∀ m ∈ [0, 1, 2, 3, 4, 5, 6, 7, 8, 9, 10, 11, 12, 13, 14, 15, 16, 17, 18, 19, 20, 21, 22, 23, 24, 25, 26, 27, 28, 29, 30, 31, 32, 33, 34, 35, 36, 37, 38, 39, 40, 41, 42, 43, 44, 45, 46, 47, 48, 49, 50, 51, 52, 53, 54, 55, 56, 57, 58, 59, 60, 61, 62, 63, 64, 65, 66, 67, 68, 69, 70, 71, 72, 73, 74, 75, 76, 77, 78, 79, 80, 81, 82, 83, 84, 85, 86, 87, 88, 89, 90, 91, 92, 93, 94, 95, 96, 97, 98, 99, 100, 101, 102, 103, 104, 105, 106, 107, 108, 109, 110, 111, 112, 113, 114, 115, 116, 117, 118, 119, 120, 121, 122, 123, 124, 125, 126, 127, 128, 129, 130, 131, 132, 133, 134, 135, 136, 137, 138, 139, 140, 141, 142, 143, 144, 145, 146, 147, 148, 149, 150, 151, 152, 153, 154, 155, 156, 157, 158, 159, 160, 161, 162, 163, 164, 165, 166, 167, 168, 169, 170, 171, 172, 173, 174, 175, 176, 177, 178, 179, 180, 181, 182, 183, 184, 185, 186, 187, 188, 189, 190, 191, 192, 193, 194, 195, 196, 197, 198, 199, 200, 201, 202, 203, 204, 205, 206, 207, 208, 209, 210, 211, 212, 213, 214, 215, 216, 217, 218, 219, 220, 221, 222, 223, 224, 225, 226, 227, 228, 229, 230, 231, 232, 233, 234, 235, 236, 237, 238, 239, 240, 241, 242, 243, 244, 245, 246, 247, 248, 249, 250, 251, 252, 253, 254, 255, 256, 257, 258, 259, 260, 261, 262, 263, 264], tw_okC m := List.forall_mem_cons.mpr ⟨tw_c0, List.forall_mem_cons.mpr ⟨tw_c1, List.forall_mem_cons.mpr ⟨tw_c2, List.forall_mem_cons.mpr ⟨tw_c3, List.forall_mem_cons.mpr ⟨tw_c4, List.forall_mem_cons.mpr ⟨tw_c5, List.forall_mem_cons.mpr ⟨tw_c6, List.forall_mem_cons.mpr ⟨tw_c7, List.forall_mem_cons.mpr ⟨tw_c8, List.forall_mem_cons.mpr ⟨tw_c9, List.forall_mem_cons.mpr ⟨tw_c10, List.forall_mem_cons.mpr ⟨tw_c11, List.forall_mem_cons.mpr ⟨tw_c12, List.forall_mem_cons.mpr ⟨tw_c13, List.forall_mem_cons.mpr ⟨tw_c14, List.forall_mem_cons.mpr ⟨tw_c15, List.forall_mem_cons.mpr ⟨tw_c16, List.forall_mem_cons.mpr ⟨tw_c17, List.forall_mem_cons.mpr ⟨tw_c18, List.forall_mem_cons.mpr ⟨tw_c19, List.forall_mem_cons.mpr ⟨tw_c20, List.forall_mem_cons.mpr ⟨tw_c21, List.forall_mem_cons.mpr ⟨tw_c22, List.forall_mem_cons.mpr ⟨tw_c23, List.forall_mem_cons.mpr ⟨tw_c24, List.forall_mem_cons.mpr ⟨tw_c25, List.forall_mem_cons.mpr ⟨tw_c26, List.forall_mem_cons.mpr ⟨tw_c27, List.forall_mem_cons.mpr ⟨tw_c28, List.forall_mem_cons.mpr ⟨tw_c29, List.forall_mem_cons.mpr ⟨tw_c30, List.forall_mem_cons.mpr ⟨tw_c31, List.forall_mem_cons.mpr ⟨tw_c32, List.forall_mem_cons.mpr ⟨tw_c33, List.forall_mem_cons.mpr ⟨tw_c34, List.forall_mem_cons.mpr ⟨tw_c35, List.forall_mem_cons.mpr ⟨tw_c36, List.forall_mem_cons.mpr ⟨tw_c37, List.forall_mem_cons.mpr ⟨tw_c38, List.forall_mem_cons.mpr ⟨tw_c39, List.forall_mem_cons.mpr ⟨tw_c40, List.forall_mem_cons.mpr ⟨tw_c41, List.forall_mem_cons.mpr ⟨tw_c42, List.forall_mem_cons.mpr ⟨tw_c43, List.forall_mem_cons.mpr ⟨tw_c44, List.forall_mem_cons.mpr ⟨tw_c45, List.forall_mem_cons.mpr ⟨tw_c46, List.forall_mem_cons.mpr ⟨tw_c47, List.forall_mem_cons.mpr ⟨tw_c48, List.forall_mem_cons.mpr ⟨tw_c49, List.forall_mem_cons.mpr ⟨tw_c50, List.forall_mem_cons.mpr ⟨tw_c51, List.forall_mem_cons.mpr ⟨tw_c52, List.forall_mem_cons.mpr ⟨tw_c53, List.forall_mem_cons.mpr ⟨tw_c54, List.forall_mem_cons.mpr ⟨tw_c55, List.forall_mem_cons.mpr ⟨tw_c56, List.forall_mem_cons.mpr ⟨tw_c57, List.forall_mem_cons.mpr ⟨tw_c58, List.forall_mem_cons.mpr ⟨tw_c59, List.forall_mem_cons.mpr ⟨tw_c60, List.forall_mem_cons.mpr ⟨tw_c61, List.forall_mem_cons.mpr ⟨tw_c62, List.forall_mem_cons.mpr ⟨tw_c63, List.forall_mem_cons.mpr ⟨tw_c64, List.forall_mem_cons.mpr ⟨tw_c65, List.forall_mem_cons.mpr ⟨tw_c66, List.forall_mem_cons.mpr ⟨tw_c67, List.forall_mem_cons.mpr ⟨tw_c68, List.forall_mem_cons.mpr ⟨tw_c69, List.forall_mem_cons.mpr ⟨tw_c70, List.forall_mem_cons.mpr ⟨tw_c71, List.forall_mem_cons.mpr ⟨tw_c72, List.forall_mem_cons.mpr ⟨tw_c73, List.forall_mem_cons.mpr ⟨tw_c74, List.forall_mem_cons.mpr ⟨tw_c75, List.forall_mem_cons.mpr ⟨tw_c76, List.forall_mem_cons.mpr ⟨tw_c77, List.forall_mem_cons.mpr ⟨tw_c78, List.forall_mem_cons.mpr ⟨tw_c79, List.forall_mem_cons.mpr ⟨tw_c80, List.forall_mem_cons.mpr ⟨tw_c81, List.forall_mem_cons.mpr ⟨tw_c82, List.forall_mem_cons.mpr ⟨tw_c83, List.forall_mem_cons.mpr ⟨tw_c84, List.forall_mem_cons.mpr ⟨tw_c85, List.forall_mem_cons.mpr ⟨tw_c86, List.forall_mem_cons.mpr ⟨tw_c87, List.forall_mem_cons.mpr ⟨tw_c88, List.forall_mem_cons.mpr ⟨tw_c89, List.forall_mem_cons.mpr ⟨tw_c90, List.forall_mem_cons.mpr ⟨tw_c91, List.forall_mem_cons.mpr ⟨tw_c92, List.forall_mem_cons.mpr ⟨tw_c93, List.forall_mem_cons.mpr ⟨tw_c94, List.forall_mem_cons.mpr ⟨tw_c95, List.forall_mem_cons.mpr ⟨tw_c96, List.forall_mem_cons.mpr ⟨tw_c97, List.forall_mem_cons.mpr ⟨tw_c98, List.forall_mem_cons.mpr ⟨tw_c99, List.forall_mem_cons.mpr ⟨tw_c100, List.forall_mem_cons.mpr ⟨tw_c101, List.forall_mem_cons.mpr ⟨tw_c102, List.forall_mem_cons.mpr ⟨tw_c103, List.forall_mem_cons.mpr ⟨tw_c104, List.forall_mem_cons.mpr ⟨tw_c105, List.forall_mem_cons.mpr ⟨tw_c106, List.forall_mem_cons.mpr ⟨tw_c107, List.forall_mem_cons.mpr ⟨tw_c108, List.forall_mem_cons.mpr ⟨tw_c109, List.forall_mem_cons.mpr ⟨tw_c110, List.forall_mem_cons.mpr ⟨tw_c111, List.forall_mem_cons.mpr ⟨tw_c112, List.forall_mem_cons.mpr ⟨tw_c113, List.forall_mem_cons.mpr ⟨tw_c114, List.forall_mem_cons.mpr ⟨tw_c115, List.forall_mem_cons.mpr ⟨tw_c116, List.forall_mem_cons.mpr ⟨tw_c117, List.forall_mem_cons.mpr ⟨tw_c118, List.forall_mem_cons.mpr ⟨tw_c119, List.forall_mem_cons.mpr ⟨tw_c120, List.forall_mem_cons.mpr ⟨tw_c121, List.forall_mem_cons.mpr ⟨tw_c122, List.forall_mem_cons.mpr ⟨tw_c123, List.forall_mem_cons.mpr ⟨tw_c124, List.forall_mem_cons.mpr ⟨tw_c125, List.forall_mem_cons.mpr ⟨tw_c126, List.forall_mem_cons.mpr ⟨tw_c127, List.forall_mem_cons.mpr ⟨tw_c128, List.forall_mem_cons.mpr ⟨tw_c129, List.forall_mem_cons.mpr ⟨tw_c130, List.forall_mem_cons.mpr ⟨tw_c131, List.forall_mem_cons.mpr ⟨tw_c132, List.forall_mem_cons.mpr ⟨tw_c133, List.forall_mem_cons.mpr ⟨tw_c134, List.forall_mem_cons.mpr ⟨tw_c135, List.forall_mem_cons.mpr ⟨tw_c136, List.forall_mem_cons.mpr ⟨tw_c137, List.forall_mem_cons.mpr ⟨tw_c138, List.forall_mem_cons.mpr ⟨tw_c139, List.forall_mem_cons.mpr ⟨tw_c140, List.forall_mem_cons.mpr ⟨tw_c141, List.forall_mem_cons.mpr ⟨tw_c142, List.forall_mem_cons.mpr ⟨tw_c143, List.forall_mem_cons.mpr ⟨tw_c144, List.forall_mem_cons.mpr ⟨tw_c145, List.forall_mem_cons.mpr ⟨tw_c146, List.forall_mem_cons.mpr ⟨tw_c147, List.forall_mem_cons.mpr ⟨tw_c148, List.forall_mem_cons.mpr ⟨tw_c149, List.forall_mem_cons.mpr ⟨tw_c150, List.forall_mem_cons.mpr ⟨tw_c151, List.forall_mem_cons.mpr ⟨tw_c152, List.forall_mem_cons.mpr ⟨tw_c153, List.forall_mem_cons.mpr ⟨tw_c154, List.forall_mem_cons.mpr ⟨tw_c155, List.forall_mem_cons.mpr ⟨tw_c156, List.forall_mem_cons.mpr ⟨tw_c157, List.forall_mem_cons.mpr ⟨tw_c158, List.forall_mem_cons.mpr ⟨tw_c159, List.forall_mem_cons.mpr ⟨tw_c160, List.forall_mem_cons.mpr ⟨tw_c161, List.forall_mem_cons.mpr ⟨tw_c162, List.forall_mem_cons.mpr ⟨tw_c163, List.forall_mem_cons.mpr ⟨tw_c164, List.forall_mem_cons.mpr ⟨tw_c165, List.forall_mem_cons.mpr ⟨tw_c166, List.forall_mem_cons.mpr ⟨tw_c167, List.forall_mem_cons.mpr ⟨tw_c168, List.forall_mem_cons.mpr ⟨tw_c169, List.forall_mem_cons.mpr ⟨tw_c170, List.forall_mem_cons.mpr ⟨tw_c171, List.forall_mem_cons.mpr ⟨tw_c172, List.forall_mem_cons.mpr ⟨tw_c173, List.forall_mem_cons.mpr ⟨tw_c174, List.forall_mem_cons.mpr ⟨tw_c175, List.forall_mem_cons.mpr ⟨tw_c176, List.forall_mem_cons.mpr ⟨tw_c177, List.forall_mem_cons.mpr ⟨tw_c178, List.forall_mem_cons.mpr ⟨tw_c179, List.forall_mem_cons.mpr ⟨tw_c180, List.forall_mem_cons.mpr ⟨tw_c181, List.forall_mem_cons.mpr ⟨tw_c182, List.forall_mem_cons.mpr ⟨tw_c183, List.forall_mem_cons.mpr ⟨tw_c184, List.forall_mem_cons.mpr ⟨tw_c185, List.forall_mem_cons.mpr ⟨tw_c186, List.forall_mem_cons.mpr ⟨tw_c187, List.forall_mem_cons.mpr ⟨tw_c188, List.forall_mem_cons.mpr ⟨tw_c189, List.forall_mem_cons.mpr ⟨tw_c190, List.forall_mem_cons.mpr ⟨tw_c191, List.forall_mem_cons.mpr ⟨tw_c192, List.forall_mem_cons.mpr ⟨tw_c193, List.forall_mem_cons.mpr ⟨tw_c194, List.forall_mem_cons.mpr ⟨tw_c195, List.forall_mem_cons.mpr ⟨tw_c196, List.forall_mem_cons.mpr ⟨tw_c197, List.forall_mem_cons.mpr ⟨tw_c198, List.forall_mem_cons.mpr ⟨tw_c199, List.forall_mem_cons.mpr ⟨tw_c200, List.forall_mem_cons.mpr ⟨tw_c201, List.forall_mem_cons.mpr ⟨tw_c202, List.forall_mem_cons.mpr ⟨tw_c203, List.forall_mem_cons.mpr ⟨tw_c204, List.forall_mem_cons.mpr ⟨tw_c205, List.forall_mem_cons.mpr ⟨tw_c206, List.forall_mem_cons.mpr ⟨tw_c207, List.forall_mem_cons.mpr ⟨tw_c208, List.forall_mem_cons.mpr ⟨tw_c209, List.forall_mem_cons.mpr ⟨tw_c210, List.forall_mem_cons.mpr ⟨tw_c211, List.forall_mem_cons.mpr ⟨tw_c212, List.forall_mem_cons.mpr ⟨tw_c213, List.forall_mem_cons.mpr ⟨tw_c214, List.forall_mem_cons.mpr ⟨tw_c215, List.forall_mem_cons.mpr ⟨tw_c216, List.forall_mem_cons.mpr ⟨tw_c217, List.forall_mem_cons.mpr ⟨tw_c218, List.forall_mem_cons.mpr ⟨tw_c219, List.forall_mem_cons.mpr ⟨tw_c220, List.forall_mem_cons.mpr ⟨tw_c221, List.forall_mem_cons.mpr ⟨tw_c222, List.forall_mem_cons.mpr ⟨tw_c223, List.forall_mem_cons.mpr ⟨tw_c224, List.forall_mem_cons.mpr ⟨tw_c225, List.forall_mem_cons.mpr ⟨tw_c226, List.forall_mem_cons.mpr ⟨tw_c227, List.forall_mem_cons.mpr ⟨tw_c228, List.forall_mem_cons.mpr ⟨tw_c229, List.forall_mem_cons.mpr ⟨tw_c230, List.forall_mem_cons.mpr ⟨tw_c231, List.forall_mem_cons.mpr ⟨tw_c232, List.forall_mem_cons.mpr ⟨tw_c233, List.forall_mem_cons.mpr ⟨tw_c234, List.forall_mem_cons.mpr ⟨tw_c235, List.forall_mem_cons.mpr ⟨tw_c236, List.forall_mem_cons.mpr ⟨tw_c237, List.forall_mem_cons.mpr ⟨tw_c238, List.forall_mem_cons.mpr ⟨tw_c239, List.forall_mem_cons.mpr ⟨tw_c240, List.forall_mem_cons.mpr ⟨tw_c241, List.forall_mem_cons.mpr ⟨tw_c242, List.forall_mem_cons.mpr ⟨tw_c243, List.forall_mem_cons.mpr ⟨tw_c244, List.forall_mem_cons.mpr ⟨tw_c245, List.forall_mem_cons.mpr ⟨tw_c246, List.forall_mem_cons.mpr ⟨tw_c247, List.forall_mem_cons.mpr ⟨tw_c248, List.forall_mem_cons.mpr ⟨tw_c249, List.forall_mem_cons.mpr ⟨tw_c250, List.forall_mem_cons.mpr ⟨tw_c251, List.forall_mem_cons.mpr ⟨tw_c252, List.forall_mem_cons.mpr ⟨tw_c253, List.forall_mem_cons.mpr ⟨tw_c254, List.forall_mem_cons.mpr ⟨tw_c255, List.forall_mem_cons.mpr ⟨tw_c256, List.forall_mem_cons.mpr ⟨tw_c257, List.forall_mem_cons.mpr ⟨tw_c258, List.forall_mem_cons.mpr ⟨tw_c259, List.forall_mem_cons.mpr ⟨tw_c260, List.forall_mem_cons.mpr ⟨tw_c261, List.forall_mem_cons.mpr ⟨tw_c262, List.forall_mem_cons.mpr ⟨tw_c263, List.forall_mem_cons.mpr ⟨tw_c264, fun _ h => absurd h List.not_mem_nil⟩⟩⟩⟩⟩⟩⟩⟩⟩⟩⟩⟩⟩⟩⟩⟩⟩⟩⟩⟩⟩⟩⟩⟩⟩⟩⟩⟩⟩⟩⟩⟩⟩⟩⟩⟩⟩⟩⟩⟩⟩⟩⟩⟩⟩⟩⟩⟩⟩⟩⟩⟩⟩⟩⟩⟩⟩⟩⟩⟩⟩⟩⟩⟩⟩⟩⟩⟩⟩⟩⟩⟩⟩⟩⟩⟩⟩⟩⟩⟩⟩⟩⟩⟩⟩⟩⟩⟩⟩⟩⟩⟩⟩⟩⟩⟩⟩⟩⟩⟩⟩⟩⟩⟩⟩⟩⟩⟩⟩⟩⟩⟩⟩⟩⟩⟩⟩⟩⟩⟩⟩⟩⟩⟩⟩⟩⟩⟩⟩⟩⟩⟩⟩⟩⟩⟩⟩⟩⟩⟩⟩⟩⟩⟩⟩⟩⟩⟩⟩⟩⟩⟩⟩⟩⟩⟩⟩⟩⟩⟩⟩⟩⟩⟩⟩⟩⟩⟩⟩⟩⟩⟩⟩⟩⟩⟩⟩⟩⟩⟩⟩⟩⟩⟩⟩⟩⟩⟩⟩⟩⟩⟩⟩⟩⟩⟩⟩⟩⟩⟩⟩⟩⟩⟩⟩⟩⟩⟩⟩⟩⟩⟩⟩⟩⟩⟩⟩⟩⟩⟩⟩⟩⟩⟩⟩⟩⟩⟩⟩⟩⟩⟩⟩⟩⟩⟩⟩⟩⟩⟩⟩⟩⟩⟩⟩⟩⟩⟩⟩⟩⟩⟩⟩⟩⟩⟩⟩⟩⟩⟩⟩⟩⟩⟩⟩
theorem tw_okC_at {m : Nat} (h : m < tw_NM) : tw_okC m := tw_okC_all m (tw_nums ▸ List.mem_range.mpr h)
set_option maxRecDepth 100000 in
theorem tw_okM_all : ∀ m ∈ [0, 1, 2, 3, 4, 5, 6, 7, 8, 9, 10, 11, 12, 13, 14, 15, 16, 17, 18, 19, 20, 21, 22, 23, 24, 25, 26, 27, 28, 29, 30, 31, 32, 33, 34, 35, 36, 37, 38, 39, 40, 41, 42, 43, 44, 45, 46, 47, 48, 49, 50, 51, 52, 53, 54, 55, 56, 57, 58, 59, 60, 61, 62, 63, 64, 65, 66, 67, 68, 69, 70, 71, 72, 73, 74, 75, 76, 77, 78, 79, 80, 81, 82, 83, 84, 85, 86, 87, 88, 89, 90, 91, 92, 93, 94, 95, 96, 97, 98, 99, 100, 101, 102, 103, 104, 105, 106, 107, 108, 109, 110, 111, 112, 113, 114, 115, 116, 117, 118, 119, 120, 121, 122, 123, 124, 125, 126, 127, 128, 129, 130, 131, 132, 133, 134, 135, 136, 137, 138, 139, 140, 141, 142, 143, 144, 145, 146, 147, 148, 149, 150, 151, 152, 153, 154, 155, 156, 157, 158, 159, 160, 161, 162, 163, 164, 165, 166, 167, 168, 169, 170, 171, 172, 173, 174, 175, 176, 177, 178, 179, 180, 181, 182, 183, 184, 185, 186, 187, 188, 189, 190, 191, 192, 193, 194, 195, 196, 197, 198, 199, 200, 201, 202, 203, 204, 205, 206, 207, 208, 209, 210, 211, 212, 213, 214, 215, 216, 217, 218, 219, 220, 221, 222, 223, 224, 225, 226, 227, 228, 229, 230, 231, 232, 233, 234, 235, 236, 237, 238, 239, 240, 241, 242, 243, 244, 245, 246, 247, 248, 249, 250, 251, 252, 253, 254, 255, 256, 257, 258, 259, 260, 261, 262, 263, 264], tw_okM m := List.forall_mem_cons.mpr ⟨tw_m0, List.forall_mem_cons.mpr ⟨tw_m1, List.forall_mem_cons.mpr ⟨tw_m2, List.forall_mem_cons.mpr ⟨tw_m3, List.forall_mem_cons.mpr ⟨tw_m4, List.forall_mem_cons.mpr ⟨tw_m5, List.forall_mem_cons.mpr ⟨tw_m6, List.forall_mem_cons.mpr ⟨tw_m7, List.forall_mem_cons.mpr ⟨tw_m8, List.forall_mem_cons.mpr ⟨tw_m9, List.forall_mem_cons.mpr ⟨tw_m10, List.forall_mem_cons.mpr ⟨tw_m11, List.forall_mem_cons.mpr ⟨tw_m12, List.forall_mem_cons.mpr ⟨tw_m13, List.forall_mem_cons.mpr ⟨tw_m14, List.forall_mem_cons.mpr ⟨tw_m15, List.forall_mem_cons.mpr ⟨tw_m16, List.forall_mem_cons.mpr ⟨tw_m17, List.forall_mem_cons.mpr ⟨tw_m18, List.forall_mem_cons.mpr ⟨tw_m19, List.forall_mem_cons.mpr ⟨tw_m20, List.forall_mem_cons.mpr ⟨tw_m21, List.forall_mem_cons.mpr ⟨tw_m22, List.forall_mem_cons.mpr ⟨tw_m23, List.forall_mem_cons.mpr ⟨tw_m24, List.forall_mem_cons.mpr ⟨tw_m25, List.forall_mem_cons.mpr ⟨tw_m26, List.forall_mem_cons.mpr ⟨tw_m27, List.forall_mem_cons.mpr ⟨tw_m28, List.forall_mem_cons.mpr ⟨tw_m29, List.forall_mem_cons.mpr ⟨tw_m30, List.forall_mem_cons.mpr ⟨tw_m31, List.forall_mem_cons.mpr ⟨tw_m32, List.forall_mem_cons.mpr ⟨tw_m33, List.forall_mem_cons.mpr ⟨tw_m34, List.forall_mem_cons.mpr ⟨tw_m35, List.forall_mem_cons.mpr ⟨tw_m36, List.forall_mem_cons.mpr ⟨tw_m37, List.forall_mem_cons.mpr ⟨tw_m38, List.forall_mem_cons.mpr ⟨tw_m39, List.forall_mem_cons.mpr ⟨tw_m40, List.forall_mem_cons.mpr ⟨tw_m41, List.forall_mem_cons.mpr ⟨tw_m42, List.forall_mem_cons.mpr ⟨tw_m43, List.forall_mem_cons.mpr ⟨tw_m44, List.forall_mem_cons.mpr ⟨tw_m45, List.forall_mem_cons.mpr ⟨tw_m46, List.forall_mem_cons.mpr ⟨tw_m47, List.forall_mem_cons.mpr ⟨tw_m48, List.forall_mem_cons.mpr ⟨tw_m49, List.forall_mem_cons.mpr ⟨tw_m50, List.forall_mem_cons.mpr ⟨tw_m51, List.forall_mem_cons.mpr ⟨tw_m52, List.forall_mem_cons.mpr ⟨tw_m53, List.forall_mem_cons.mpr ⟨tw_m54, List.forall_mem_cons.mpr ⟨tw_m55, List.forall_mem_cons.mpr ⟨tw_m56, List.forall_mem_cons.mpr ⟨tw_m57, List.forall_mem_cons.mpr ⟨tw_m58, List.forall_mem_cons.mpr ⟨tw_m59, List.forall_mem_cons.mpr ⟨tw_m60, List.forall_mem_cons.mpr ⟨tw_m61, List.forall_mem_cons.mpr ⟨tw_m62, List.forall_mem_cons.mpr ⟨tw_m63, List.forall_mem_cons.mpr ⟨tw_m64, List.forall_mem_cons.mpr ⟨tw_m65, List.forall_mem_cons.mpr ⟨tw_m66, List.forall_mem_cons.mpr ⟨tw_m67, List.forall_mem_cons.mpr ⟨tw_m68, List.forall_mem_cons.mpr ⟨tw_m69, List.forall_mem_cons.mpr ⟨tw_m70, List.forall_mem_cons.mpr ⟨tw_m71, List.forall_mem_cons.mpr ⟨tw_m72, List.forall_mem_cons.mpr ⟨tw_m73, List.forall_mem_cons.mpr ⟨tw_m74, List.forall_mem_cons.mpr ⟨tw_m75, List.forall_mem_cons.mpr ⟨tw_m76, List.forall_mem_cons.mpr ⟨tw_m77, List.forall_mem_cons.mpr ⟨tw_m78, List.forall_mem_cons.mpr ⟨tw_m79, List.forall_mem_cons.mpr ⟨tw_m80, List.forall_mem_cons.mpr ⟨tw_m81, List.forall_mem_cons.mpr ⟨tw_m82, List.forall_mem_cons.mpr ⟨tw_m83, List.forall_mem_cons.mpr ⟨tw_m84, List.forall_mem_cons.mpr ⟨tw_m85, List.forall_mem_cons.mpr ⟨tw_m86, List.forall_mem_cons.mpr ⟨tw_m87, List.forall_mem_cons.mpr ⟨tw_m88, List.forall_mem_cons.mpr ⟨tw_m89, List.forall_mem_cons.mpr ⟨tw_m90, List.forall_mem_cons.mpr ⟨tw_m91, List.forall_mem_cons.mpr ⟨tw_m92, List.forall_mem_cons.mpr ⟨tw_m93, List.forall_mem_cons.mpr ⟨tw_m94, List.forall_mem_cons.mpr ⟨tw_m95, List.forall_mem_cons.mpr ⟨tw_m96, List.forall_mem_cons.mpr ⟨tw_m97, List.forall_mem_cons.mpr ⟨tw_m98, List.forall_mem_cons.mpr ⟨tw_m99, List.forall_mem_cons.mpr ⟨tw_m100, List.forall_mem_cons.mpr ⟨tw_m101, List.forall_mem_cons.mpr ⟨tw_m102, List.forall_mem_cons.mpr ⟨tw_m103, List.forall_mem_cons.mpr ⟨tw_m104, List.forall_mem_cons.mpr ⟨tw_m105, List.forall_mem_cons.mpr ⟨tw_m106, List.forall_mem_cons.mpr ⟨tw_m107, List.forall_mem_cons.mpr ⟨tw_m108, List.forall_mem_cons.mpr ⟨tw_m109, List.forall_mem_cons.mpr ⟨tw_m110, List.forall_mem_cons.mpr ⟨tw_m111, List.forall_mem_cons.mpr ⟨tw_m112, List.forall_mem_cons.mpr ⟨tw_m113, List.forall_mem_cons.mpr ⟨tw_m114, List.forall_mem_cons.mpr ⟨tw_m115, List.forall_mem_cons.mpr ⟨tw_m116, List.forall_mem_cons.mpr ⟨tw_m117, List.forall_mem_cons.mpr ⟨tw_m118, List.forall_mem_cons.mpr ⟨tw_m119, List.forall_mem_cons.mpr ⟨tw_m120, List.forall_mem_cons.mpr ⟨tw_m121, List.forall_mem_cons.mpr ⟨tw_m122, List.forall_mem_cons.mpr ⟨tw_m123, List.forall_mem_cons.mpr ⟨tw_m124, List.forall_mem_cons.mpr ⟨tw_m125, List.forall_mem_cons.mpr ⟨tw_m126, List.forall_mem_cons.mpr ⟨tw_m127, List.forall_mem_cons.mpr ⟨tw_m128, List.forall_mem_cons.mpr ⟨tw_m129, List.forall_mem_cons.mpr ⟨tw_m130, List.forall_mem_cons.mpr ⟨tw_m131, List.forall_mem_cons.mpr ⟨tw_m132, List.forall_mem_cons.mpr ⟨tw_m133, List.forall_mem_cons.mpr ⟨tw_m134, List.forall_mem_cons.mpr ⟨tw_m135, List.forall_mem_cons.mpr ⟨tw_m136, List.forall_mem_cons.mpr ⟨tw_m137, List.forall_mem_cons.mpr ⟨tw_m138, List.forall_mem_cons.mpr ⟨tw_m139, List.forall_mem_cons.mpr ⟨tw_m140, List.forall_mem_cons.mpr ⟨tw_m141, List.forall_mem_cons.mpr ⟨tw_m142, List.forall_mem_cons.mpr ⟨tw_m143, List.forall_mem_cons.mpr ⟨tw_m144, List.forall_mem_cons.mpr ⟨tw_m145, List.forall_mem_cons.mpr ⟨tw_m146, List.forall_mem_cons.mpr ⟨tw_m147, List.forall_mem_cons.mpr ⟨tw_m148, List.forall_mem_cons.mpr ⟨tw_m149, List.forall_mem_cons.mpr ⟨tw_m150, List.forall_mem_cons.mpr ⟨tw_m151, List.forall_mem_cons.mpr ⟨tw_m152, List.forall_mem_cons.mpr ⟨tw_m153, List.forall_mem_cons.mpr ⟨tw_m154, List.forall_mem_cons.mpr ⟨tw_m155, List.forall_mem_cons.mpr ⟨tw_m156, List.forall_mem_cons.mpr ⟨tw_m157, List.forall_mem_cons.mpr ⟨tw_m158, List.forall_mem_cons.mpr ⟨tw_m159, List.forall_mem_cons.mpr ⟨tw_m160, List.forall_mem_cons.mpr ⟨tw_m161, List.forall_mem_cons.mpr ⟨tw_m162, List.forall_mem_cons.mpr ⟨tw_m163, List.forall_mem_cons.mpr ⟨tw_m164, List.forall_mem_cons.mpr ⟨tw_m165, List.forall_mem_cons.mpr ⟨tw_m166, List.forall_mem_cons.mpr ⟨tw_m167, List.forall_mem_cons.mpr ⟨tw_m168, List.forall_mem_cons.mpr ⟨tw_m169, List.forall_mem_cons.mpr ⟨tw_m170, List.forall_mem_cons.mpr ⟨tw_m171, List.forall_mem_cons.mpr ⟨tw_m172, List.forall_mem_cons.mpr ⟨tw_m173, List.forall_mem_cons.mpr ⟨tw_m174, List.forall_mem_cons.mpr ⟨tw_m175, List.forall_mem_cons.mpr ⟨tw_m176, List.forall_mem_cons.mpr ⟨tw_m177, List.forall_mem_cons.mpr ⟨tw_m178, List.forall_mem_cons.mpr ⟨tw_m179, List.forall_mem_cons.mpr ⟨tw_m180, List.forall_mem_cons.mpr ⟨tw_m181, List.forall_mem_cons.mpr ⟨tw_m182, List.forall_mem_cons.mpr ⟨tw_m183, List.forall_mem_cons.mpr ⟨tw_m184, List.forall_mem_cons.mpr ⟨tw_m185, List.forall_mem_cons.mpr ⟨tw_m186, List.forall_mem_cons.mpr ⟨tw_m187, List.forall_mem_cons.mpr ⟨tw_m188, List.forall_mem_cons.mpr ⟨tw_m189, List.forall_mem_cons.mpr ⟨tw_m190, List.forall_mem_cons.mpr ⟨tw_m191, List.forall_mem_cons.mpr ⟨tw_m192, List.forall_mem_cons.mpr ⟨tw_m193, List.forall_mem_cons.mpr ⟨tw_m194, List.forall_mem_cons.mpr ⟨tw_m195, List.forall_mem_cons.mpr ⟨tw_m196, List.forall_mem_cons.mpr ⟨tw_m197, List.forall_mem_cons.mpr ⟨tw_m198, List.forall_mem_cons.mpr ⟨tw_m199, List.forall_mem_cons.mpr ⟨tw_m200, List.forall_mem_cons.mpr ⟨tw_m201, List.forall_mem_cons.mpr ⟨tw_m202, List.forall_mem_cons.mpr ⟨tw_m203, List.forall_mem_cons.mpr ⟨tw_m204, List.forall_mem_cons.mpr ⟨tw_m205, List.forall_mem_cons.mpr ⟨tw_m206, List.forall_mem_cons.mpr ⟨tw_m207, List.forall_mem_cons.mpr ⟨tw_m208, List.forall_mem_cons.mpr ⟨tw_m209, List.forall_mem_cons.mpr ⟨tw_m210, List.forall_mem_cons.mpr ⟨tw_m211, List.forall_mem_cons.mpr ⟨tw_m212, List.forall_mem_cons.mpr ⟨tw_m213, List.forall_mem_cons.mpr ⟨tw_m214, List.forall_mem_cons.mpr ⟨tw_m215, List.forall_mem_cons.mpr ⟨tw_m216, List.forall_mem_cons.mpr ⟨tw_m217, List.forall_mem_cons.mpr ⟨tw_m218, List.forall_mem_cons.mpr ⟨tw_m219, List.forall_mem_cons.mpr ⟨tw_m220, List.forall_mem_cons.mpr ⟨tw_m221, List.forall_mem_cons.mpr ⟨tw_m222, List.forall_mem_cons.mpr ⟨tw_m223, List.forall_mem_cons.mpr ⟨tw_m224, List.forall_mem_cons.mpr ⟨tw_m225, List.forall_mem_cons.mpr ⟨tw_m226, List.forall_mem_cons.mpr ⟨tw_m227, List.forall_mem_cons.mpr ⟨tw_m228, List.forall_mem_cons.mpr ⟨tw_m229, List.forall_mem_cons.mpr ⟨tw_m230, List.forall_mem_cons.mpr ⟨tw_m231, List.forall_mem_cons.mpr ⟨tw_m232, List.forall_mem_cons.mpr ⟨tw_m233, List.forall_mem_cons.mpr ⟨tw_m234, List.forall_mem_cons.mpr ⟨tw_m235, List.forall_mem_cons.mpr ⟨tw_m236, List.forall_mem_cons.mpr ⟨tw_m237, List.forall_mem_cons.mpr ⟨tw_m238, List.forall_mem_cons.mpr ⟨tw_m239, List.forall_mem_cons.mpr ⟨tw_m240, List.forall_mem_cons.mpr ⟨tw_m241, List.forall_mem_cons.mpr ⟨tw_m242, List.forall_mem_cons.mpr ⟨tw_m243, List.forall_mem_cons.mpr ⟨tw_m244, List.forall_mem_cons.mpr ⟨tw_m245, List.forall_mem_cons.mpr ⟨tw_m246, List.forall_mem_cons.mpr ⟨tw_m247, List.forall_mem_cons.mpr ⟨tw_m248, List.forall_mem_cons.mpr ⟨tw_m249, List.forall_mem_cons.mpr ⟨tw_m250, List.forall_mem_cons.mpr ⟨tw_m251, List.forall_mem_cons.mpr ⟨tw_m252, List.forall_mem_cons.mpr ⟨tw_m253, List.forall_mem_cons.mpr ⟨tw_m254, List.forall_mem_cons.mpr ⟨tw_m255, List.forall_mem_cons.mpr ⟨tw_m256, List.forall_mem_cons.mpr ⟨tw_m257, List.forall_mem_cons.mpr ⟨tw_m258, List.forall_mem_cons.mpr ⟨tw_m259, List.forall_mem_cons.mpr ⟨tw_m260, List.forall_mem_cons.mpr ⟨tw_m261, List.forall_mem_cons.mpr ⟨tw_m262, List.forall_mem_cons.mpr ⟨tw_m263, List.forall_mem_cons.mpr ⟨tw_m264, fun _ h => absurd h List.not_mem_nil⟩⟩⟩⟩⟩⟩⟩⟩⟩⟩⟩⟩⟩⟩⟩⟩⟩⟩⟩⟩⟩⟩⟩⟩⟩⟩⟩⟩⟩⟩⟩⟩⟩⟩⟩⟩⟩⟩⟩⟩⟩⟩⟩⟩⟩⟩⟩⟩⟩⟩⟩⟩⟩⟩⟩⟩⟩⟩⟩⟩⟩⟩⟩⟩⟩⟩⟩⟩⟩⟩⟩⟩⟩⟩⟩⟩⟩⟩⟩⟩⟩⟩⟩⟩⟩⟩⟩⟩⟩⟩⟩⟩⟩⟩⟩⟩⟩⟩⟩⟩⟩⟩⟩⟩⟩⟩⟩⟩⟩⟩⟩⟩⟩⟩⟩⟩⟩⟩⟩⟩⟩⟩⟩⟩⟩⟩⟩⟩⟩⟩⟩⟩⟩⟩⟩⟩⟩⟩⟩⟩⟩⟩⟩⟩⟩⟩⟩⟩⟩⟩⟩⟩⟩⟩⟩⟩⟩⟩⟩⟩⟩⟩⟩⟩⟩⟩⟩⟩⟩⟩⟩⟩⟩⟩⟩⟩⟩⟩⟩⟩⟩⟩⟩⟩⟩⟩⟩⟩⟩⟩⟩⟩⟩⟩⟩⟩⟩⟩⟩⟩⟩⟩⟩⟩⟩⟩⟩⟩⟩⟩⟩⟩⟩⟩⟩⟩⟩⟩⟩⟩⟩⟩⟩⟩⟩⟩⟩⟩⟩⟩⟩⟩⟩⟩⟩⟩⟩⟩⟩⟩⟩⟩⟩⟩⟩⟩⟩⟩⟩⟩⟩⟩⟩⟩⟩⟩⟩⟩⟩⟩⟩⟩⟩⟩⟩
theorem tw_okM_at {m : Nat} (h : m < tw_NM) : tw_okM m := tw_okM_all m (tw_nums ▸ List.mem_range.mpr h)
