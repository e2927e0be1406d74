/-! words by their places in the tables -/
theorem m_arrI : Cond.arrayClass .int ∈ wsL_law := wsL_of (List.mem_of_getElem? (i := 32) (by decide +kernel)) rfl
theorem m_arrZ : Cond.arrayClass .boolean ∈ wsL_law := wsL_of (List.mem_of_getElem? (i := 92) (by decide +kernel)) rfl
theorem m_oInst : Cond.instanceMethod Lib.objectInit ∈ wsL_law := wsL_of (List.mem_of_getElem? (i := 17) (by decide +kernel)) rfl
theorem m_oCode : Cond.code Lib.objectInit ⟨#[0xb1]⟩ 1 none ∈ wsL_law := wsL_of (List.mem_of_getElem? (i := 18) (by decide +kernel)) rfl
theorem m_oX7 : Cond.methodLink RX7 5 Lib.objectInit ∈ wsL_law := wsL_of (List.mem_of_getElem? (i := 16) (by decide +kernel)) rfl
theorem m_oX6 : Cond.methodLink RX6 3 Lib.objectInit ∈ wsL_law := wsL_of (List.mem_of_getElem? (i := 24) (by decide +kernel)) rfl
theorem m_oX1 : Cond.methodLink RX1 3 Lib.objectInit ∈ wsL_law := wsL_of (List.mem_of_getElem? (i := 38) (by decide +kernel)) rfl
theorem m_oX2 : Cond.methodLink RX2 3 Lib.objectInit ∈ wsL_law := wsL_of (List.mem_of_getElem? (i := 54) (by decide +kernel)) rfl
theorem m_oX3 : Cond.methodLink RX3 3 Lib.objectInit ∈ wsL_law := wsL_of (List.mem_of_getElem? (i := 76) (by decide +kernel)) rfl
theorem m_oX4 : Cond.methodLink RX4 3 Lib.objectInit ∈ wsL_law := wsL_of (List.mem_of_getElem? (i := 98) (by decide +kernel)) rfl
theorem m_oX0 : Cond.methodLink RX0 3 Lib.objectInit ∈ wsL_law := wsL_of (List.mem_of_getElem? (i := 117) (by decide +kernel)) rfl
theorem m_iX7 : Cond.instantiable RX7 9 ∈ wsL_law := wsL_of (List.mem_of_getElem? (i := 12) (by decide +kernel)) rfl
theorem m_iX6 : Cond.instantiable RX6 2 ∈ wsL_law := wsL_of (List.mem_of_getElem? (i := 20) (by decide +kernel)) rfl
theorem m_iX1 : Cond.instantiable RX1 3 ∈ wsL_law := wsL_of (List.mem_of_getElem? (i := 34) (by decide +kernel)) rfl
theorem m_iX2 : Cond.instantiable RX2 5 ∈ wsL_law := wsL_of (List.mem_of_getElem? (i := 50) (by decide +kernel)) rfl
theorem m_iX3 : Cond.instantiable RX3 4 ∈ wsL_law := wsL_of (List.mem_of_getElem? (i := 72) (by decide +kernel)) rfl
theorem m_iX4 : Cond.instantiable RX4 4 ∈ wsL_law := wsL_of (List.mem_of_getElem? (i := 94) (by decide +kernel)) rfl
theorem m_iX0 : Cond.instantiable RX0 3 ∈ wsL_law := wsL_of (List.mem_of_getElem? (i := 113) (by decide +kernel)) rfl
theorem m_cl22 : Cond.classLink RX3 22 "[[I" ∈ wsL_law := wsL_of (List.mem_of_getElem? (i := 77) (by decide +kernel)) rfl
def vNi (U : State) : Prop := va_Nw (.methodLinkNest RX7 13 yX6_init RX7) U ∧ va_Nw (.methodLinkNest RX7 20 yX1_init RX7) U ∧ va_Nw (.methodLinkNest RX7 27 yX2_init RX7) U ∧ va_Nw (.methodLinkNest RX7 34 yX3_init RX7) U ∧ va_Nw (.methodLinkNest RX7 41 yX4_init RX7) U ∧ va_Nw (.methodLinkNest RX7 51 yX0_init RX7) U ∧ (Cond.arrayOver (.array .int)).before #[] U = true
theorem vNi.warm {s U : State} (hW : s.WarmedH U.vm) (h : vNi s) : vNi U := ⟨va_Nw.warmM hW h.1, va_Nw.warmM hW h.2.1, va_Nw.warmM hW h.2.2.1, va_Nw.warmM hW h.2.2.2.1, va_Nw.warmM hW h.2.2.2.2.1, va_Nw.warmM hW h.2.2.2.2.2.1, over_moved hW.alike h.2.2.2.2.2.2⟩
theorem vNi.same {u U : State} (hv : u.vm = U.vm) (h : vNi u) : vNi U := ⟨va_Nw.same rfl hv h.1, va_Nw.same rfl hv h.2.1, va_Nw.same rfl hv h.2.2.1, va_Nw.same rfl hv h.2.2.2.1, va_Nw.same rfl hv h.2.2.2.2.1, va_Nw.same rfl hv h.2.2.2.2.2.1, over_moved (hv ▸ Vm.Alike.refl u.vm) h.2.2.2.2.2.2⟩
theorem vNi.over {U : State} (h : vNi U) : (Cond.arrayOver (.array .int)).before #[] U = true := h.2.2.2.2.2.2
