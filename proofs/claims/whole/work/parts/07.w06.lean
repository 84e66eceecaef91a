set_option maxRecDepth 100000 in
def wp_X12_init  (g : Gh) (M0 : Mem) (a0 : Nat) (post : Mem → Prop) : Prop :=
  okc (gB g) M0 a0 12 ∧ ((0 + 1 ≤ 37 ∧ 0 + 260 ≤ 127789) ∧ (∀ q2 M3, q2 = mT M0 → M3 = nw M0 14 260 → (∀ M7, M7 = uR M3 a0 1 (some q2) → (((0 + 1) + 1 ≤ 37 ∧ (0 + 260) + 25200 ≤ 127789) ∧ (∀ q10 M11, q10 = mT M7 → M11 = nw M7 14 25200 → (∀ M15, M15 = uR M11 a0 11 (some q10) → ((((0 + 1) + 1) + 1 ≤ 37 ∧ ((0 + 260) + 25200) + 25200 ≤ 127789) ∧ (∀ q18 M19, q18 = mT M15 → M19 = nw M15 14 25200 → (∀ M23, M23 = uR M19 a0 12 (some q18) → (((((0 + 1) + 1) + 1) + 1 ≤ 37 ∧ (((0 + 260) + 25200) + 25200) + 25200 ≤ 127789) ∧ (∀ q26 M27, q26 = mT M23 → M27 = nw M23 14 25200 → (∀ M31, M31 = uR M27 a0 13 (some q26) → ((((((0 + 1) + 1) + 1) + 1) + 1 ≤ 37 ∧ ((((0 + 260) + 25200) + 25200) + 25200) + 25200 ≤ 127789) ∧ (∀ q34 M35, q34 = mT M31 → M35 = nw M31 15 25200 → (∀ M39, M39 = uR M35 a0 14 (some q34) → (((((((0 + 1) + 1) + 1) + 1) + 1) + 1 ≤ 37 ∧ (((((0 + 260) + 25200) + 25200) + 25200) + 25200) + 25200 ≤ 127789) ∧ (∀ q42 M43, q42 = mT M39 → M43 = nw M39 15 25200 → (∀ M47, M47 = uR M43 a0 15 (some q42) → ((((((((0 + 1) + 1) + 1) + 1) + 1) + 1) + 1 ≤ 37 ∧ ((((((0 + 260) + 25200) + 25200) + 25200) + 25200) + 25200) + 60 ≤ 127789) ∧ (∀ q50 M51, q50 = mT M47 → M51 = nw M47 14 60 → (∀ M55, M55 = uR M51 a0 19 (some q50) → (((((((((0 + 1) + 1) + 1) + 1) + 1) + 1) + 1) + 1 ≤ 37 ∧ (((((((0 + 260) + 25200) + 25200) + 25200) + 25200) + 25200) + 60) + 60 ≤ 127789) ∧ (∀ q58 M59, q58 = mT M55 → M59 = nw M55 14 60 → (∀ M63, M63 = uR M59 a0 20 (some q58) → ((((((((((0 + 1) + 1) + 1) + 1) + 1) + 1) + 1) + 1) + 1 ≤ 37 ∧ ((((((((0 + 260) + 25200) + 25200) + 25200) + 25200) + 25200) + 60) + 60) + 60 ≤ 127789) ∧ (∀ q66 M67, q66 = mT M63 → M67 = nw M63 14 60 → (∀ M71, M71 = uR M67 a0 21 (some q66) → (((((((((((0 + 1) + 1) + 1) + 1) + 1) + 1) + 1) + 1) + 1) + 1 ≤ 37 ∧ (((((((((0 + 260) + 25200) + 25200) + 25200) + 25200) + 25200) + 60) + 60) + 60) + 60 ≤ 127789) ∧ (∀ q74 M75, q74 = mT M71 → M75 = nw M71 14 60 → (∀ M79, M79 = uR M75 a0 22 (some q74) → ((((((((((((0 + 1) + 1) + 1) + 1) + 1) + 1) + 1) + 1) + 1) + 1) + 1 ≤ 37 ∧ ((((((((((0 + 260) + 25200) + 25200) + 25200) + 25200) + 25200) + 60) + 60) + 60) + 60) + 60 ≤ 127789) ∧ (∀ q82 M83, q82 = mT M79 → M83 = nw M79 17 60 → (∀ M87, M87 = uR M83 a0 23 (some q82) → (((((((((((((0 + 1) + 1) + 1) + 1) + 1) + 1) + 1) + 1) + 1) + 1) + 1) + 1 ≤ 37 ∧ (((((((((((0 + 260) + 25200) + 25200) + 25200) + 25200) + 25200) + 60) + 60) + 60) + 60) + 60) + 20 ≤ 127789) ∧ (∀ q90 M91, q90 = mT M87 → M91 = nw M87 17 20 → (∀ M95, M95 = uR M91 a0 24 (some q90) → ((((((((((((((0 + 1) + 1) + 1) + 1) + 1) + 1) + 1) + 1) + 1) + 1) + 1) + 1) + 1 ≤ 37 ∧ ((((((((((((0 + 260) + 25200) + 25200) + 25200) + 25200) + 25200) + 60) + 60) + 60) + 60) + 60) + 20) + 20 ≤ 127789) ∧ (∀ q98 M99, q98 = mT M95 → M99 = nw M95 15 20 → (∀ M103, M103 = uR M99 a0 25 (some q98) → (((((((((((((((0 + 1) + 1) + 1) + 1) + 1) + 1) + 1) + 1) + 1) + 1) + 1) + 1) + 1) + 1 ≤ 37 ∧ (((((((((((((0 + 260) + 25200) + 25200) + 25200) + 25200) + 25200) + 60) + 60) + 60) + 60) + 60) + 20) + 20) + 256 ≤ 127789) ∧ (∀ q106 M107, q106 = mT M103 → M107 = nw M103 14 256 → (∀ M111, M111 = uR M107 a0 27 (some q106) → ((((((((((((((((0 + 1) + 1) + 1) + 1) + 1) + 1) + 1) + 1) + 1) + 1) + 1) + 1) + 1) + 1) + 1 ≤ 37 ∧ ((((((((((((((0 + 260) + 25200) + 25200) + 25200) + 25200) + 25200) + 60) + 60) + 60) + 60) + 60) + 20) + 20) + 256) + 6 ≤ 127789) ∧ (∀ q114 M115, q114 = mT M111 → M115 = nw M111 14 6 → (∀ M119, M119 = uR M115 a0 29 (some q114) → (((((((((((((((((0 + 1) + 1) + 1) + 1) + 1) + 1) + 1) + 1) + 1) + 1) + 1) + 1) + 1) + 1) + 1) + 1 ≤ 37 ∧ (((((((((((((((0 + 260) + 25200) + 25200) + 25200) + 25200) + 25200) + 60) + 60) + 60) + 60) + 60) + 20) + 20) + 256) + 6) + 6 ≤ 127789) ∧ (∀ q122 M123, q122 = mT M119 → M123 = nw M119 14 6 → (∀ M127, M127 = uR M123 a0 30 (some q122) → ((((((((((((((((((0 + 1) + 1) + 1) + 1) + 1) + 1) + 1) + 1) + 1) + 1) + 1) + 1) + 1) + 1) + 1) + 1) + 1 ≤ 37 ∧ ((((((((((((((((0 + 260) + 25200) + 25200) + 25200) + 25200) + 25200) + 60) + 60) + 60) + 60) + 60) + 20) + 20) + 256) + 6) + 6) + 6 ≤ 127789) ∧ (∀ q130 M131, q130 = mT M127 → M131 = nw M127 14 6 → (∀ M135, M135 = uR M131 a0 31 (some q130) → (((((((((((((((((((0 + 1) + 1) + 1) + 1) + 1) + 1) + 1) + 1) + 1) + 1) + 1) + 1) + 1) + 1) + 1) + 1) + 1) + 1 ≤ 37 ∧ (((((((((((((((((0 + 260) + 25200) + 25200) + 25200) + 25200) + 25200) + 60) + 60) + 60) + 60) + 60) + 20) + 20) + 256) + 6) + 6) + 6) + 6 ≤ 127789) ∧ (∀ q138 M139, q138 = mT M135 → M139 = nw M135 14 6 → (∀ M143, M143 = uR M139 a0 32 (some q138) → ((((((((((((((((((((0 + 1) + 1) + 1) + 1) + 1) + 1) + 1) + 1) + 1) + 1) + 1) + 1) + 1) + 1) + 1) + 1) + 1) + 1) + 1 ≤ 37 ∧ ((((((((((((((((((0 + 260) + 25200) + 25200) + 25200) + 25200) + 25200) + 60) + 60) + 60) + 60) + 60) + 20) + 20) + 256) + 6) + 6) + 6) + 6) + 6 ≤ 127789) ∧ (∀ q146 M147, q146 = mT M143 → M147 = nw M143 17 6 → (∀ M151, M151 = uR M147 a0 33 (some q146) → (((((((((((((((((((((0 + 1) + 1) + 1) + 1) + 1) + 1) + 1) + 1) + 1) + 1) + 1) + 1) + 1) + 1) + 1) + 1) + 1) + 1) + 1) + 1 ≤ 37 ∧ (((((((((((((((((((0 + 260) + 25200) + 25200) + 25200) + 25200) + 25200) + 60) + 60) + 60) + 60) + 60) + 20) + 20) + 256) + 6) + 6) + 6) + 6) + 6) + 6 ≤ 127789) ∧ (∀ q154 M155, q154 = mT M151 → M155 = nw M151 14 6 → (∀ M159, M159 = uR M155 a0 34 (some q154) → ((((((((((((((((((((((0 + 1) + 1) + 1) + 1) + 1) + 1) + 1) + 1) + 1) + 1) + 1) + 1) + 1) + 1) + 1) + 1) + 1) + 1) + 1) + 1) + 1 ≤ 37 ∧ ((((((((((((((((((((0 + 260) + 25200) + 25200) + 25200) + 25200) + 25200) + 60) + 60) + 60) + 60) + 60) + 20) + 20) + 256) + 6) + 6) + 6) + 6) + 6) + 6) + 6 ≤ 127789) ∧ (∀ q162 M163, q162 = mT M159 → M163 = nw M159 14 6 → (∀ M167, M167 = uR M163 a0 35 (some q162) → (((((((((((((((((((((((0 + 1) + 1) + 1) + 1) + 1) + 1) + 1) + 1) + 1) + 1) + 1) + 1) + 1) + 1) + 1) + 1) + 1) + 1) + 1) + 1) + 1) + 1 ≤ 37 ∧ (((((((((((((((((((((0 + 260) + 25200) + 25200) + 25200) + 25200) + 25200) + 60) + 60) + 60) + 60) + 60) + 20) + 20) + 256) + 6) + 6) + 6) + 6) + 6) + 6) + 6) + 6 ≤ 127789) ∧ (∀ q170 M171, q170 = mT M167 → M171 = nw M167 14 6 → (∀ M175, M175 = uR M171 a0 36 (some q170) → ((((((((((((((((((((((((0 + 1) + 1) + 1) + 1) + 1) + 1) + 1) + 1) + 1) + 1) + 1) + 1) + 1) + 1) + 1) + 1) + 1) + 1) + 1) + 1) + 1) + 1) + 1 ≤ 37 ∧ ((((((((((((((((((((((0 + 260) + 25200) + 25200) + 25200) + 25200) + 25200) + 60) + 60) + 60) + 60) + 60) + 20) + 20) + 256) + 6) + 6) + 6) + 6) + 6) + 6) + 6) + 6) + 6 ≤ 127789) ∧ (∀ q178 M179, q178 = mT M175 → M179 = nw M175 14 6 → (∀ M183, M183 = uR M179 a0 37 (some q178) → (((((((((((((((((((((((((0 + 1) + 1) + 1) + 1) + 1) + 1) + 1) + 1) + 1) + 1) + 1) + 1) + 1) + 1) + 1) + 1) + 1) + 1) + 1) + 1) + 1) + 1) + 1) + 1 ≤ 37 ∧ (((((((((((((((((((((((0 + 260) + 25200) + 25200) + 25200) + 25200) + 25200) + 60) + 60) + 60) + 60) + 60) + 20) + 20) + 256) + 6) + 6) + 6) + 6) + 6) + 6) + 6) + 6) + 6) + 6 ≤ 127789) ∧ (∀ q186 M187, q186 = mT M183 → M187 = nw M183 17 6 → (∀ M191, M191 = uR M187 a0 38 (some q186) → ((((((((((((((((((((((((((0 + 1) + 1) + 1) + 1) + 1) + 1) + 1) + 1) + 1) + 1) + 1) + 1) + 1) + 1) + 1) + 1) + 1) + 1) + 1) + 1) + 1) + 1) + 1) + 1) + 1 ≤ 37 ∧ ((((((((((((((((((((((((0 + 260) + 25200) + 25200) + 25200) + 25200) + 25200) + 60) + 60) + 60) + 60) + 60) + 20) + 20) + 256) + 6) + 6) + 6) + 6) + 6) + 6) + 6) + 6) + 6) + 6) + 48 ≤ 127789) ∧ (∀ q194 M195, q194 = mT M191 → M195 = nw M191 14 48 → (∀ M199, M199 = uR M195 a0 41 (some q194) → (((((((((((((((((((((((((((0 + 1) + 1) + 1) + 1) + 1) + 1) + 1) + 1) + 1) + 1) + 1) + 1) + 1) + 1) + 1) + 1) + 1) + 1) + 1) + 1) + 1) + 1) + 1) + 1) + 1) + 1 ≤ 37 ∧ (((((((((((((((((((((((((0 + 260) + 25200) + 25200) + 25200) + 25200) + 25200) + 60) + 60) + 60) + 60) + 60) + 20) + 20) + 256) + 6) + 6) + 6) + 6) + 6) + 6) + 6) + 6) + 6) + 6) + 48) + 49 ≤ 127789) ∧ (∀ q202 M203, q202 = mT M199 → M203 = nw M199 14 49 → (∀ M207, M207 = uR M203 a0 42 (some q202) → ((((((((((((((((((((((((((((0 + 1) + 1) + 1) + 1) + 1) + 1) + 1) + 1) + 1) + 1) + 1) + 1) + 1) + 1) + 1) + 1) + 1) + 1) + 1) + 1) + 1) + 1) + 1) + 1) + 1) + 1) + 1 ≤ 37 ∧ ((((((((((((((((((((((((((0 + 260) + 25200) + 25200) + 25200) + 25200) + 25200) + 60) + 60) + 60) + 60) + 60) + 20) + 20) + 256) + 6) + 6) + 6) + 6) + 6) + 6) + 6) + 6) + 6) + 6) + 48) + 49) + 8 ≤ 127789) ∧ (∀ q210 M211, q210 = mT M207 → M211 = nw M207 14 8 → (∀ M215, M215 = uR M211 a0 43 (some q210) → (((((((((((((((((((((((((((((0 + 1) + 1) + 1) + 1) + 1) + 1) + 1) + 1) + 1) + 1) + 1) + 1) + 1) + 1) + 1) + 1) + 1) + 1) + 1) + 1) + 1) + 1) + 1) + 1) + 1) + 1) + 1) + 1 ≤ 37 ∧ (((((((((((((((((((((((((((0 + 260) + 25200) + 25200) + 25200) + 25200) + 25200) + 60) + 60) + 60) + 60) + 60) + 20) + 20) + 256) + 6) + 6) + 6) + 6) + 6) + 6) + 6) + 6) + 6) + 6) + 48) + 49) + 8) + 120 ≤ 127789) ∧ (∀ q218 M219, q218 = mT M215 → M219 = nw M215 14 120 → (∀ M223, M223 = uR M219 a0 56 (some q218) → ((((((((((((((((((((((((((((((0 + 1) + 1) + 1) + 1) + 1) + 1) + 1) + 1) + 1) + 1) + 1) + 1) + 1) + 1) + 1) + 1) + 1) + 1) + 1) + 1) + 1) + 1) + 1) + 1) + 1) + 1) + 1) + 1) + 1 ≤ 37 ∧ ((((((((((((((((((((((((((((0 + 260) + 25200) + 25200) + 25200) + 25200) + 25200) + 60) + 60) + 60) + 60) + 60) + 20) + 20) + 256) + 6) + 6) + 6) + 6) + 6) + 6) + 6) + 6) + 6) + 6) + 48) + 49) + 8) + 120) + 120 ≤ 127789) ∧ (∀ q226 M227, q226 = mT M223 → M227 = nw M223 14 120 → (∀ M231, M231 = uR M227 a0 57 (some q226) → (((((((((((((((((((((((((((((((0 + 1) + 1) + 1) + 1) + 1) + 1) + 1) + 1) + 1) + 1) + 1) + 1) + 1) + 1) + 1) + 1) + 1) + 1) + 1) + 1) + 1) + 1) + 1) + 1) + 1) + 1) + 1) + 1) + 1) + 1 ≤ 37 ∧ (((((((((((((((((((((((((((((0 + 260) + 25200) + 25200) + 25200) + 25200) + 25200) + 60) + 60) + 60) + 60) + 60) + 20) + 20) + 256) + 6) + 6) + 6) + 6) + 6) + 6) + 6) + 6) + 6) + 6) + 48) + 49) + 8) + 120) + 120) + 120 ≤ 127789) ∧ (∀ q234 M235, q234 = mT M231 → M235 = nw M231 14 120 → (∀ M239, M239 = uR M235 a0 58 (some q234) → ((((((((((((((((((((((((((((((((0 + 1) + 1) + 1) + 1) + 1) + 1) + 1) + 1) + 1) + 1) + 1) + 1) + 1) + 1) + 1) + 1) + 1) + 1) + 1) + 1) + 1) + 1) + 1) + 1) + 1) + 1) + 1) + 1) + 1) + 1) + 1 ≤ 37 ∧ ((((((((((((((((((((((((((((((0 + 260) + 25200) + 25200) + 25200) + 25200) + 25200) + 60) + 60) + 60) + 60) + 60) + 20) + 20) + 256) + 6) + 6) + 6) + 6) + 6) + 6) + 6) + 6) + 6) + 6) + 48) + 49) + 8) + 120) + 120) + 120) + 120 ≤ 127789) ∧ (∀ q242 M243, q242 = mT M239 → M243 = nw M239 14 120 → (∀ M247, M247 = uR M243 a0 59 (some q242) → (((((((((((((((((((((((((((((((((0 + 1) + 1) + 1) + 1) + 1) + 1) + 1) + 1) + 1) + 1) + 1) + 1) + 1) + 1) + 1) + 1) + 1) + 1) + 1) + 1) + 1) + 1) + 1) + 1) + 1) + 1) + 1) + 1) + 1) + 1) + 1) + 1 ≤ 37 ∧ (((((((((((((((((((((((((((((((0 + 260) + 25200) + 25200) + 25200) + 25200) + 25200) + 60) + 60) + 60) + 60) + 60) + 20) + 20) + 256) + 6) + 6) + 6) + 6) + 6) + 6) + 6) + 6) + 6) + 6) + 48) + 49) + 8) + 120) + 120) + 120) + 120) + 120 ≤ 127789) ∧ (∀ q250 M251, q250 = mT M247 → M251 = nw M247 17 120 → (∀ M255, M255 = uR M251 a0 60 (some q250) → ((((((((((((((((((((((((((((((((((0 + 1) + 1) + 1) + 1) + 1) + 1) + 1) + 1) + 1) + 1) + 1) + 1) + 1) + 1) + 1) + 1) + 1) + 1) + 1) + 1) + 1) + 1) + 1) + 1) + 1) + 1) + 1) + 1) + 1) + 1) + 1) + 1) + 1 ≤ 37 ∧ ((((((((((((((((((((((((((((((((0 + 260) + 25200) + 25200) + 25200) + 25200) + 25200) + 60) + 60) + 60) + 60) + 60) + 20) + 20) + 256) + 6) + 6) + 6) + 6) + 6) + 6) + 6) + 6) + 6) + 6) + 48) + 49) + 8) + 120) + 120) + 120) + 120) + 120) + 120 ≤ 127789) ∧ (∀ q258 M259, q258 = mT M255 → M259 = nw M255 17 120 → (∀ M263, M263 = uR M259 a0 61 (some q258) → (((((((((((((((((((((((((((((((((((0 + 1) + 1) + 1) + 1) + 1) + 1) + 1) + 1) + 1) + 1) + 1) + 1) + 1) + 1) + 1) + 1) + 1) + 1) + 1) + 1) + 1) + 1) + 1) + 1) + 1) + 1) + 1) + 1) + 1) + 1) + 1) + 1) + 1) + 1 ≤ 37 ∧ (((((((((((((((((((((((((((((((((0 + 260) + 25200) + 25200) + 25200) + 25200) + 25200) + 60) + 60) + 60) + 60) + 60) + 20) + 20) + 256) + 6) + 6) + 6) + 6) + 6) + 6) + 6) + 6) + 6) + 6) + 48) + 49) + 8) + 120) + 120) + 120) + 120) + 120) + 120) + 12 ≤ 127789) ∧ (∀ q266 M267, q266 = mT M263 → M267 = nw M263 14 12 → (∀ M271, M271 = uR M267 a0 62 (some q266) → ((((((((((((((((((((((((((((((((((((0 + 1) + 1) + 1) + 1) + 1) + 1) + 1) + 1) + 1) + 1) + 1) + 1) + 1) + 1) + 1) + 1) + 1) + 1) + 1) + 1) + 1) + 1) + 1) + 1) + 1) + 1) + 1) + 1) + 1) + 1) + 1) + 1) + 1) + 1) + 1 ≤ 37 ∧ ((((((((((((((((((((((((((((((((((0 + 260) + 25200) + 25200) + 25200) + 25200) + 25200) + 60) + 60) + 60) + 60) + 60) + 20) + 20) + 256) + 6) + 6) + 6) + 6) + 6) + 6) + 6) + 6) + 6) + 6) + 48) + 49) + 8) + 120) + 120) + 120) + 120) + 120) + 120) + 12) + 12 ≤ 127789) ∧ (∀ q274 M275, q274 = mT M271 → M275 = nw M271 14 12 → (∀ M279, M279 = uR M275 a0 63 (some q274) → (((((((((((((((((((((((((((((((((((((0 + 1) + 1) + 1) + 1) + 1) + 1) + 1) + 1) + 1) + 1) + 1) + 1) + 1) + 1) + 1) + 1) + 1) + 1) + 1) + 1) + 1) + 1) + 1) + 1) + 1) + 1) + 1) + 1) + 1) + 1) + 1) + 1) + 1) + 1) + 1) + 1 ≤ 37 ∧ (((((((((((((((((((((((((((((((((((0 + 260) + 25200) + 25200) + 25200) + 25200) + 25200) + 60) + 60) + 60) + 60) + 60) + 20) + 20) + 256) + 6) + 6) + 6) + 6) + 6) + 6) + 6) + 6) + 6) + 6) + 48) + 49) + 8) + 120) + 120) + 120) + 120) + 120) + 120) + 12) + 12) + 12 ≤ 127789) ∧ (∀ q282 M283, q282 = mT M279 → M283 = nw M279 14 12 → (∀ M287, M287 = uR M283 a0 64 (some q282) → ((((((((((((((((((((((((((((((((((((((0 + 1) + 1) + 1) + 1) + 1) + 1) + 1) + 1) + 1) + 1) + 1) + 1) + 1) + 1) + 1) + 1) + 1) + 1) + 1) + 1) + 1) + 1) + 1) + 1) + 1) + 1) + 1) + 1) + 1) + 1) + 1) + 1) + 1) + 1) + 1) + 1) + 1 ≤ 37 ∧ ((((((((((((((((((((((((((((((((((((0 + 260) + 25200) + 25200) + 25200) + 25200) + 25200) + 60) + 60) + 60) + 60) + 60) + 20) + 20) + 256) + 6) + 6) + 6) + 6) + 6) + 6) + 6) + 6) + 6) + 6) + 48) + 49) + 8) + 120) + 120) + 120) + 120) + 120) + 120) + 12) + 12) + 12) + 12 ≤ 127789) ∧ (∀ q290 M291, q290 = mT M287 → M291 = nw M287 14 12 → (∀ M295, M295 = uR M291 a0 65 (some q290) → (((((((((((((((((((((((((((((((((((((((0 + 1) + 1) + 1) + 1) + 1) + 1) + 1) + 1) + 1) + 1) + 1) + 1) + 1) + 1) + 1) + 1) + 1) + 1) + 1) + 1) + 1) + 1) + 1) + 1) + 1) + 1) + 1) + 1) + 1) + 1) + 1) + 1) + 1) + 1) + 1) + 1) + 1) ≤ 37 ∧ (((((((((((((((((((((((((((((((((((((0 + 260) + 25200) + 25200) + 25200) + 25200) + 25200) + 60) + 60) + 60) + 60) + 60) + 20) + 20) + 256) + 6) + 6) + 6) + 6) + 6) + 6) + 6) + 6) + 6) + 6) + 48) + 49) + 8) + 120) + 120) + 120) + 120) + 120) + 120) + 12) + 12) + 12) + 12) ≤ 127789) ∧ (post M295)))))))))))))))))))))))))))))))))))))))))))))))))))))))))))))))))))))))))))))))))))))))))))))))))))))))))))))))))
set_option maxHeartbeats 4000000 in
set_option maxRecDepth 100000 in
theorem ct_X12_init {l : Launch} {g : Gh} {M0 : Mem} {a0 : Nat} {post : Mem → Prop}  (hq : wp_X12_init  g M0 a0 post) : Ct l g yX12_init cX12_init 1 none 1 37 127789 [.ref a0] M0 (pV post) := by
  unfold wp_X12_init at hq
  obtain ⟨h0, hq⟩ := hq
  have h00 := h0
  refine Ct.of (by decide) (Nat.le_of_ble_eq_true rfl) ?_
  intro p e s m below meth c ls C hr hlk hn hl hw
  have hx := C.1.1
  have hb := C.1.2.1
  have hl : lv_has ls 1 [(0, .ref a0)] := hl
  refine lv_aload_n hx hb dX12_init_0 rfl (lv_at hl 0 rfl) ?_
  refine W.objInit hx hb C.1.2.2.2.1 (C.1.2.2.2.2 _ w_1152) (C.1.2.2.2.2 _ w_35) (C.1.2.2.2.2 _ w_objInit) rfl (by rw [C.1.2.2.1]; exact hl.1) rfl dX12_init_1 (Nat.le_of_ble_eq_true rfl) (Nat.le_of_ble_eq_true rfl) ?_
  refine W.eq (g2 := F0 m 4 ls []) rfl ?_
  refine lv_aload_n hx hb dX12_init_4 rfl (lv_at hl 0 rfl) ?_
  refine lv_sipush (v := 260) hx hb dX12_init_5 (by decide) ?_
  have hB := hw.B C.2.2.2.2.2
  obtain ⟨h1, hq⟩ := hq
  refine q_newa_14 (N' := 260) C hw (by decide) (by decide) (by decide) h1.1 h1.2 dX12_init_8 (fun H hw => ?_)
  have h6 := okc_nw (gB g) M0 14 260 hB
  have h0 := h0.up (mle_nw M0 14 260)
  generalize e4 : nw M0 14 260 = M3 at hw h6 h0
  generalize e5 : mT M0 = q2 at h6 ⊢
  replace hq := hq q2 M3 e5.symm e4.symm
  refine pfX12_7 (v := (some q2)) C hw (mle_rf _) h0 hn dX12_init_10 (fun H locs hw => ?_)
  generalize e8 : uR M3 a0 1 (some q2) = M7 at hw
  replace hq := hq M7 e8.symm
  have h0 : okc (gB g) M7 a0 12 := by rw [← e8]; exact okc_uR h0
  refine lv_aload_n hx hb dX12_init_13 rfl (lv_at hl 0 rfl) ?_
  refine lv_sipush (v := 25200) hx hb dX12_init_14 (by decide) ?_
  have hB := hw.B C.2.2.2.2.2
  obtain ⟨h9, hq⟩ := hq
  refine q_newa_14 (N' := 25200) C hw (by decide) (by decide) (by decide) h9.1 h9.2 dX12_init_17 (fun H hw => ?_)
  have h14 := okc_nw (gB g) M7 14 25200 hB
  have h0 := h0.up (mle_nw M7 14 25200)
  generalize e12 : nw M7 14 25200 = M11 at hw h14 h0
  generalize e13 : mT M7 = q10 at h14 ⊢
  replace hq := hq q10 M11 e13.symm e12.symm
  refine pfX12_13 (v := (some q10)) C hw (mle_rf _) h0 hn dX12_init_19 (fun H locs hw => ?_)
  generalize e16 : uR M11 a0 11 (some q10) = M15 at hw
  replace hq := hq M15 e16.symm
  have h0 : okc (gB g) M15 a0 12 := by rw [← e16]; exact okc_uR h0
  refine lv_aload_n hx hb dX12_init_22 rfl (lv_at hl 0 rfl) ?_
  refine lv_sipush (v := 25200) hx hb dX12_init_23 (by decide) ?_
  have hB := hw.B C.2.2.2.2.2
  obtain ⟨h17, hq⟩ := hq
  refine q_newa_14 (N' := 25200) C hw (by decide) (by decide) (by decide) h17.1 h17.2 dX12_init_26 (fun H hw => ?_)
  have h22 := okc_nw (gB g) M15 14 25200 hB
  have h0 := h0.up (mle_nw M15 14 25200)
  generalize e20 : nw M15 14 25200 = M19 at hw h22 h0
  generalize e21 : mT M15 = q18 at h22 ⊢
  replace hq := hq q18 M19 e21.symm e20.symm
  refine pfX12_16 (v := (some q18)) C hw (mle_rf _) h0 hn dX12_init_28 (fun H locs hw => ?_)
  generalize e24 : uR M19 a0 12 (some q18) = M23 at hw
  replace hq := hq M23 e24.symm
  have h0 : okc (gB g) M23 a0 12 := by rw [← e24]; exact okc_uR h0
  refine lv_aload_n hx hb dX12_init_31 rfl (lv_at hl 0 rfl) ?_
  refine lv_sipush (v := 25200) hx hb dX12_init_32 (by decide) ?_
  have hB := hw.B C.2.2.2.2.2
  obtain ⟨h25, hq⟩ := hq
  refine q_newa_14 (N' := 25200) C hw (by decide) (by decide) (by decide) h25.1 h25.2 dX12_init_35 (fun H hw => ?_)
  have h30 := okc_nw (gB g) M23 14 25200 hB
  have h0 := h0.up (mle_nw M23 14 25200)
  generalize e28 : nw M23 14 25200 = M27 at hw h30 h0
  generalize e29 : mT M23 = q26 at h30 ⊢
  replace hq := hq q26 M27 e29.symm e28.symm
  refine pfX12_19 (v := (some q26)) C hw (mle_rf _) h0 hn dX12_init_37 (fun H locs hw => ?_)
  generalize e32 : uR M27 a0 13 (some q26) = M31 at hw
  replace hq := hq M31 e32.symm
  have h0 : okc (gB g) M31 a0 12 := by rw [← e32]; exact okc_uR h0
  refine lv_aload_n hx hb dX12_init_40 rfl (lv_at hl 0 rfl) ?_
  refine lv_sipush (v := 25200) hx hb dX12_init_41 (by decide) ?_
  have hB := hw.B C.2.2.2.2.2
  obtain ⟨h33, hq⟩ := hq
  refine q_newa_15 (N' := 25200) C hw (by decide) (by decide) (by decide) h33.1 h33.2 dX12_init_44 (fun H hw => ?_)
  have h38 := okc_nw (gB g) M31 15 25200 hB
  have h0 := h0.up (mle_nw M31 15 25200)
  generalize e36 : nw M31 15 25200 = M35 at hw h38 h0
  generalize e37 : mT M31 = q34 at h38 ⊢
  replace hq := hq q34 M35 e37.symm e36.symm
  refine pfX12_22 (v := (some q34)) C hw (mle_rf _) h0 hn dX12_init_46 (fun H locs hw => ?_)
  generalize e40 : uR M35 a0 14 (some q34) = M39 at hw
  replace hq := hq M39 e40.symm
  have h0 : okc (gB g) M39 a0 12 := by rw [← e40]; exact okc_uR h0
  refine lv_aload_n hx hb dX12_init_49 rfl (lv_at hl 0 rfl) ?_
  refine lv_sipush (v := 25200) hx hb dX12_init_50 (by decide) ?_
  have hB := hw.B C.2.2.2.2.2
  obtain ⟨h41, hq⟩ := hq
  refine q_newa_15 (N' := 25200) C hw (by decide) (by decide) (by decide) h41.1 h41.2 dX12_init_53 (fun H hw => ?_)
  have h46 := okc_nw (gB g) M39 15 25200 hB
  have h0 := h0.up (mle_nw M39 15 25200)
  generalize e44 : nw M39 15 25200 = M43 at hw h46 h0
  generalize e45 : mT M39 = q42 at h46 ⊢
  replace hq := hq q42 M43 e45.symm e44.symm
  refine pfX12_26 (v := (some q42)) C hw (mle_rf _) h0 hn dX12_init_55 (fun H locs hw => ?_)
  generalize e48 : uR M43 a0 15 (some q42) = M47 at hw
  replace hq := hq M47 e48.symm
  have h0 : okc (gB g) M47 a0 12 := by rw [← e48]; exact okc_uR h0
  refine lv_aload_n hx hb dX12_init_58 rfl (lv_at hl 0 rfl) ?_
  refine lv_bipush (v := 60) hx hb dX12_init_59 (by decide) ?_
  have hB := hw.B C.2.2.2.2.2
  obtain ⟨h49, hq⟩ := hq
  refine q_newa_14 (N' := 60) C hw (by decide) (by decide) (by decide) h49.1 h49.2 dX12_init_61 (fun H hw => ?_)
  have h54 := okc_nw (gB g) M47 14 60 hB
  have h0 := h0.up (mle_nw M47 14 60)
  generalize e52 : nw M47 14 60 = M51 at hw h54 h0
  generalize e53 : mT M47 = q50 at h54 ⊢
  replace hq := hq q50 M51 e53.symm e52.symm
  refine pfX12_29 (v := (some q50)) C hw (mle_rf _) h0 hn dX12_init_63 (fun H locs hw => ?_)
  generalize e56 : uR M51 a0 19 (some q50) = M55 at hw
  replace hq := hq M55 e56.symm
  have h0 : okc (gB g) M55 a0 12 := by rw [← e56]; exact okc_uR h0
  refine lv_aload_n hx hb dX12_init_66 rfl (lv_at hl 0 rfl) ?_
  refine lv_bipush (v := 60) hx hb dX12_init_67 (by decide) ?_
  have hB := hw.B C.2.2.2.2.2
  obtain ⟨h57, hq⟩ := hq
  refine q_newa_14 (N' := 60) C hw (by decide) (by decide) (by decide) h57.1 h57.2 dX12_init_69 (fun H hw => ?_)
  have h62 := okc_nw (gB g) M55 14 60 hB
  have h0 := h0.up (mle_nw M55 14 60)
  generalize e60 : nw M55 14 60 = M59 at hw h62 h0
  generalize e61 : mT M55 = q58 at h62 ⊢
  replace hq := hq q58 M59 e61.symm e60.symm
  refine pfX12_32 (v := (some q58)) C hw (mle_rf _) h0 hn dX12_init_71 (fun H locs hw => ?_)
  generalize e64 : uR M59 a0 20 (some q58) = M63 at hw
  replace hq := hq M63 e64.symm
  have h0 : okc (gB g) M63 a0 12 := by rw [← e64]; exact okc_uR h0
  refine lv_aload_n hx hb dX12_init_74 rfl (lv_at hl 0 rfl) ?_
  refine lv_bipush (v := 60) hx hb dX12_init_75 (by decide) ?_
  have hB := hw.B C.2.2.2.2.2
  obtain ⟨h65, hq⟩ := hq
  refine q_newa_14 (N' := 60) C hw (by decide) (by decide) (by decide) h65.1 h65.2 dX12_init_77 (fun H hw => ?_)
  have h70 := okc_nw (gB g) M63 14 60 hB
  have h0 := h0.up (mle_nw M63 14 60)
  generalize e68 : nw M63 14 60 = M67 at hw h70 h0
  generalize e69 : mT M63 = q66 at h70 ⊢
  replace hq := hq q66 M67 e69.symm e68.symm
  refine pfX12_35 (v := (some q66)) C hw (mle_rf _) h0 hn dX12_init_79 (fun H locs hw => ?_)
  generalize e72 : uR M67 a0 21 (some q66) = M71 at hw
  replace hq := hq M71 e72.symm
  have h0 : okc (gB g) M71 a0 12 := by rw [← e72]; exact okc_uR h0
  refine lv_aload_n hx hb dX12_init_82 rfl (lv_at hl 0 rfl) ?_
  refine lv_bipush (v := 60) hx hb dX12_init_83 (by decide) ?_
  have hB := hw.B C.2.2.2.2.2
  obtain ⟨h73, hq⟩ := hq
  refine q_newa_14 (N' := 60) C hw (by decide) (by decide) (by decide) h73.1 h73.2 dX12_init_85 (fun H hw => ?_)
  have h78 := okc_nw (gB g) M71 14 60 hB
  have h0 := h0.up (mle_nw M71 14 60)
  generalize e76 : nw M71 14 60 = M75 at hw h78 h0
  generalize e77 : mT M71 = q74 at h78 ⊢
  replace hq := hq q74 M75 e77.symm e76.symm
  refine pfX12_38 (v := (some q74)) C hw (mle_rf _) h0 hn dX12_init_87 (fun H locs hw => ?_)
  generalize e80 : uR M75 a0 22 (some q74) = M79 at hw
  replace hq := hq M79 e80.symm
  have h0 : okc (gB g) M79 a0 12 := by rw [← e80]; exact okc_uR h0
  refine lv_aload_n hx hb dX12_init_90 rfl (lv_at hl 0 rfl) ?_
  refine lv_bipush (v := 60) hx hb dX12_init_91 (by decide) ?_
  have hB := hw.B C.2.2.2.2.2
  obtain ⟨h81, hq⟩ := hq
  refine q_newa_17 (N' := 60) C hw (by decide) (by decide) (by decide) h81.1 h81.2 dX12_init_93 (fun H hw => ?_)
  have h86 := okc_nw (gB g) M79 17 60 hB
  have h0 := h0.up (mle_nw M79 17 60)
  generalize e84 : nw M79 17 60 = M83 at hw h86 h0
  generalize e85 : mT M79 = q82 at h86 ⊢
  replace hq := hq q82 M83 e85.symm e84.symm
  refine pfX12_41 (v := (some q82)) C hw (mle_rf _) h0 hn dX12_init_95 (fun H locs hw => ?_)
  generalize e88 : uR M83 a0 23 (some q82) = M87 at hw
  replace hq := hq M87 e88.symm
  have h0 : okc (gB g) M87 a0 12 := by rw [← e88]; exact okc_uR h0
  refine lv_aload_n hx hb dX12_init_98 rfl (lv_at hl 0 rfl) ?_
  refine lv_bipush (v := 20) hx hb dX12_init_99 (by decide) ?_
  have hB := hw.B C.2.2.2.2.2
  obtain ⟨h89, hq⟩ := hq
  refine q_newa_17 (N' := 20) C hw (by decide) (by decide) (by decide) h89.1 h89.2 dX12_init_101 (fun H hw => ?_)
  have h94 := okc_nw (gB g) M87 17 20 hB
  have h0 := h0.up (mle_nw M87 17 20)
  generalize e92 : nw M87 17 20 = M91 at hw h94 h0
  generalize e93 : mT M87 = q90 at h94 ⊢
  replace hq := hq q90 M91 e93.symm e92.symm
  refine pfX12_45 (v := (some q90)) C hw (mle_rf _) h0 hn dX12_init_103 (fun H locs hw => ?_)
  generalize e96 : uR M91 a0 24 (some q90) = M95 at hw
  replace hq := hq M95 e96.symm
  have h0 : okc (gB g) M95 a0 12 := by rw [← e96]; exact okc_uR h0
  refine lv_aload_n hx hb dX12_init_106 rfl (lv_at hl 0 rfl) ?_
  refine lv_bipush (v := 20) hx hb dX12_init_107 (by decide) ?_
  have hB := hw.B C.2.2.2.2.2
  obtain ⟨h97, hq⟩ := hq
  refine q_newa_15 (N' := 20) C hw (by decide) (by decide) (by decide) h97.1 h97.2 dX12_init_109 (fun H hw => ?_)
  have h102 := okc_nw (gB g) M95 15 20 hB
  have h0 := h0.up (mle_nw M95 15 20)
  generalize e100 : nw M95 15 20 = M99 at hw h102 h0
  generalize e101 : mT M95 = q98 at h102 ⊢
  replace hq := hq q98 M99 e101.symm e100.symm
  refine pfX12_48 (v := (some q98)) C hw (mle_rf _) h0 hn dX12_init_111 (fun H locs hw => ?_)
  generalize e104 : uR M99 a0 25 (some q98) = M103 at hw
  replace hq := hq M103 e104.symm
  have h0 : okc (gB g) M103 a0 12 := by rw [← e104]; exact okc_uR h0
  refine lv_aload_n hx hb dX12_init_114 rfl (lv_at hl 0 rfl) ?_
  refine lv_sipush (v := 256) hx hb dX12_init_115 (by decide) ?_
  have hB := hw.B C.2.2.2.2.2
  obtain ⟨h105, hq⟩ := hq
  refine q_newa_14 (N' := 256) C hw (by decide) (by decide) (by decide) h105.1 h105.2 dX12_init_118 (fun H hw => ?_)
  have h110 := okc_nw (gB g) M103 14 256 hB
  have h0 := h0.up (mle_nw M103 14 256)
  generalize e108 : nw M103 14 256 = M107 at hw h110 h0
  generalize e109 : mT M103 = q106 at h110 ⊢
  replace hq := hq q106 M107 e109.symm e108.symm
  refine pfX12_51 (v := (some q106)) C hw (mle_rf _) h0 hn dX12_init_120 (fun H locs hw => ?_)
  generalize e112 : uR M107 a0 27 (some q106) = M111 at hw
  replace hq := hq M111 e112.symm
  have h0 : okc (gB g) M111 a0 12 := by rw [← e112]; exact okc_uR h0
  refine lv_aload_n hx hb dX12_init_123 rfl (lv_at hl 0 rfl) ?_
  refine lv_bipush (v := 6) hx hb dX12_init_124 (by decide) ?_
  have hB := hw.B C.2.2.2.2.2
  obtain ⟨h113, hq⟩ := hq
  refine q_newa_14 (N' := 6) C hw (by decide) (by decide) (by decide) h113.1 h113.2 dX12_init_126 (fun H hw => ?_)
  have h118 := okc_nw (gB g) M111 14 6 hB
  have h0 := h0.up (mle_nw M111 14 6)
  generalize e116 : nw M111 14 6 = M115 at hw h118 h0
  generalize e117 : mT M111 = q114 at h118 ⊢
  replace hq := hq q114 M115 e117.symm e116.symm
  refine pfX12_54 (v := (some q114)) C hw (mle_rf _) h0 hn dX12_init_128 (fun H locs hw => ?_)
  generalize e120 : uR M115 a0 29 (some q114) = M119 at hw
  replace hq := hq M119 e120.symm
  have h0 : okc (gB g) M119 a0 12 := by rw [← e120]; exact okc_uR h0
  refine lv_aload_n hx hb dX12_init_131 rfl (lv_at hl 0 rfl) ?_
  refine lv_bipush (v := 6) hx hb dX12_init_132 (by decide) ?_
  have hB := hw.B C.2.2.2.2.2
  obtain ⟨h121, hq⟩ := hq
  refine q_newa_14 (N' := 6) C hw (by decide) (by decide) (by decide) h121.1 h121.2 dX12_init_134 (fun H hw => ?_)
  have h126 := okc_nw (gB g) M119 14 6 hB
  have h0 := h0.up (mle_nw M119 14 6)
  generalize e124 : nw M119 14 6 = M123 at hw h126 h0
  generalize e125 : mT M119 = q122 at h126 ⊢
  replace hq := hq q122 M123 e125.symm e124.symm
  refine pfX12_57 (v := (some q122)) C hw (mle_rf _) h0 hn dX12_init_136 (fun H locs hw => ?_)
  generalize e128 : uR M123 a0 30 (some q122) = M127 at hw
  replace hq := hq M127 e128.symm
  have h0 : okc (gB g) M127 a0 12 := by rw [← e128]; exact okc_uR h0
  refine lv_aload_n hx hb dX12_init_139 rfl (lv_at hl 0 rfl) ?_
  refine lv_bipush (v := 6) hx hb dX12_init_140 (by decide) ?_
  have hB := hw.B C.2.2.2.2.2
  obtain ⟨h129, hq⟩ := hq
  refine q_newa_14 (N' := 6) C hw (by decide) (by decide) (by decide) h129.1 h129.2 dX12_init_142 (fun H hw => ?_)
  have h134 := okc_nw (gB g) M127 14 6 hB
  have h0 := h0.up (mle_nw M127 14 6)
  generalize e132 : nw M127 14 6 = M131 at hw h134 h0
  generalize e133 : mT M127 = q130 at h134 ⊢
  replace hq := hq q130 M131 e133.symm e132.symm
  refine pfX12_60 (v := (some q130)) C hw (mle_rf _) h0 hn dX12_init_144 (fun H locs hw => ?_)
  generalize e136 : uR M131 a0 31 (some q130) = M135 at hw
  replace hq := hq M135 e136.symm
  have h0 : okc (gB g) M135 a0 12 := by rw [← e136]; exact okc_uR h0
  refine lv_aload_n hx hb dX12_init_147 rfl (lv_at hl 0 rfl) ?_
  refine lv_bipush (v := 6) hx hb dX12_init_148 (by decide) ?_
  have hB := hw.B C.2.2.2.2.2
  obtain ⟨h137, hq⟩ := hq
  refine q_newa_14 (N' := 6) C hw (by decide) (by decide) (by decide) h137.1 h137.2 dX12_init_150 (fun H hw => ?_)
  have h142 := okc_nw (gB g) M135 14 6 hB
  have h0 := h0.up (mle_nw M135 14 6)
  generalize e140 : nw M135 14 6 = M139 at hw h142 h0
  generalize e141 : mT M135 = q138 at h142 ⊢
  replace hq := hq q138 M139 e141.symm e140.symm
  refine pfX12_63 (v := (some q138)) C hw (mle_rf _) h0 hn dX12_init_152 (fun H locs hw => ?_)
  generalize e144 : uR M139 a0 32 (some q138) = M143 at hw
  replace hq := hq M143 e144.symm
  have h0 : okc (gB g) M143 a0 12 := by rw [← e144]; exact okc_uR h0
  refine lv_aload_n hx hb dX12_init_155 rfl (lv_at hl 0 rfl) ?_
  refine lv_bipush (v := 6) hx hb dX12_init_156 (by decide) ?_
  have hB := hw.B C.2.2.2.2.2
  obtain ⟨h145, hq⟩ := hq
  refine q_newa_17 (N' := 6) C hw (by decide) (by decide) (by decide) h145.1 h145.2 dX12_init_158 (fun H hw => ?_)
  have h150 := okc_nw (gB g) M143 17 6 hB
  have h0 := h0.up (mle_nw M143 17 6)
  generalize e148 : nw M143 17 6 = M147 at hw h150 h0
  generalize e149 : mT M143 = q146 at h150 ⊢
  replace hq := hq q146 M147 e149.symm e148.symm
  refine pfX12_66 (v := (some q146)) C hw (mle_rf _) h0 hn dX12_init_160 (fun H locs hw => ?_)
  generalize e152 : uR M147 a0 33 (some q146) = M151 at hw
  replace hq := hq M151 e152.symm
  have h0 : okc (gB g) M151 a0 12 := by rw [← e152]; exact okc_uR h0
  refine lv_aload_n hx hb dX12_init_163 rfl (lv_at hl 0 rfl) ?_
  refine lv_bipush (v := 6) hx hb dX12_init_164 (by decide) ?_
  have hB := hw.B C.2.2.2.2.2
  obtain ⟨h153, hq⟩ := hq
  refine q_newa_14 (N' := 6) C hw (by decide) (by decide) (by decide) h153.1 h153.2 dX12_init_166 (fun H hw => ?_)
  have h158 := okc_nw (gB g) M151 14 6 hB
  have h0 := h0.up (mle_nw M151 14 6)
  generalize e156 : nw M151 14 6 = M155 at hw h158 h0
  generalize e157 : mT M151 = q154 at h158 ⊢
  replace hq := hq q154 M155 e157.symm e156.symm
  refine pfX12_69 (v := (some q154)) C hw (mle_rf _) h0 hn dX12_init_168 (fun H locs hw => ?_)
  generalize e160 : uR M155 a0 34 (some q154) = M159 at hw
  replace hq := hq M159 e160.symm
  have h0 : okc (gB g) M159 a0 12 := by rw [← e160]; exact okc_uR h0
  refine lv_aload_n hx hb dX12_init_171 rfl (lv_at hl 0 rfl) ?_
  refine lv_bipush (v := 6) hx hb dX12_init_172 (by decide) ?_
  have hB := hw.B C.2.2.2.2.2
  obtain ⟨h161, hq⟩ := hq
  refine q_newa_14 (N' := 6) C hw (by decide) (by decide) (by decide) h161.1 h161.2 dX12_init_174 (fun H hw => ?_)
  have h166 := okc_nw (gB g) M159 14 6 hB
  have h0 := h0.up (mle_nw M159 14 6)
  generalize e164 : nw M159 14 6 = M163 at hw h166 h0
  generalize e165 : mT M159 = q162 at h166 ⊢
  replace hq := hq q162 M163 e165.symm e164.symm
  refine pfX12_72 (v := (some q162)) C hw (mle_rf _) h0 hn dX12_init_176 (fun H locs hw => ?_)
  generalize e168 : uR M163 a0 35 (some q162) = M167 at hw
  replace hq := hq M167 e168.symm
  have h0 : okc (gB g) M167 a0 12 := by rw [← e168]; exact okc_uR h0
  refine lv_aload_n hx hb dX12_init_179 rfl (lv_at hl 0 rfl) ?_
  refine lv_bipush (v := 6) hx hb dX12_init_180 (by decide) ?_
  have hB := hw.B C.2.2.2.2.2
  obtain ⟨h169, hq⟩ := hq
  refine q_newa_14 (N' := 6) C hw (by decide) (by decide) (by decide) h169.1 h169.2 dX12_init_182 (fun H hw => ?_)
  have h174 := okc_nw (gB g) M167 14 6 hB
  have h0 := h0.up (mle_nw M167 14 6)
  generalize e172 : nw M167 14 6 = M171 at hw h174 h0
  generalize e173 : mT M167 = q170 at h174 ⊢
  replace hq := hq q170 M171 e173.symm e172.symm
  refine pfX12_75 (v := (some q170)) C hw (mle_rf _) h0 hn dX12_init_184 (fun H locs hw => ?_)
  generalize e176 : uR M171 a0 36 (some q170) = M175 at hw
  replace hq := hq M175 e176.symm
  have h0 : okc (gB g) M175 a0 12 := by rw [← e176]; exact okc_uR h0
  refine lv_aload_n hx hb dX12_init_187 rfl (lv_at hl 0 rfl) ?_
  refine lv_bipush (v := 6) hx hb dX12_init_188 (by decide) ?_
  have hB := hw.B C.2.2.2.2.2
  obtain ⟨h177, hq⟩ := hq
  refine q_newa_14 (N' := 6) C hw (by decide) (by decide) (by decide) h177.1 h177.2 dX12_init_190 (fun H hw => ?_)
  have h182 := okc_nw (gB g) M175 14 6 hB
  have h0 := h0.up (mle_nw M175 14 6)
  generalize e180 : nw M175 14 6 = M179 at hw h182 h0
  generalize e181 : mT M175 = q178 at h182 ⊢
  replace hq := hq q178 M179 e181.symm e180.symm
  refine pfX12_78 (v := (some q178)) C hw (mle_rf _) h0 hn dX12_init_192 (fun H locs hw => ?_)
  generalize e184 : uR M179 a0 37 (some q178) = M183 at hw
  replace hq := hq M183 e184.symm
  have h0 : okc (gB g) M183 a0 12 := by rw [← e184]; exact okc_uR h0
  refine lv_aload_n hx hb dX12_init_195 rfl (lv_at hl 0 rfl) ?_
  refine lv_bipush (v := 6) hx hb dX12_init_196 (by decide) ?_
  have hB := hw.B C.2.2.2.2.2
  obtain ⟨h185, hq⟩ := hq
  refine q_newa_17 (N' := 6) C hw (by decide) (by decide) (by decide) h185.1 h185.2 dX12_init_198 (fun H hw => ?_)
  have h190 := okc_nw (gB g) M183 17 6 hB
  have h0 := h0.up (mle_nw M183 17 6)
  generalize e188 : nw M183 17 6 = M187 at hw h190 h0
  generalize e189 : mT M183 = q186 at h190 ⊢
  replace hq := hq q186 M187 e189.symm e188.symm
  refine pfX12_81 (v := (some q186)) C hw (mle_rf _) h0 hn dX12_init_200 (fun H locs hw => ?_)
  generalize e192 : uR M187 a0 38 (some q186) = M191 at hw
  replace hq := hq M191 e192.symm
  have h0 : okc (gB g) M191 a0 12 := by rw [← e192]; exact okc_uR h0
  refine lv_aload_n hx hb dX12_init_203 rfl (lv_at hl 0 rfl) ?_
  refine lv_bipush (v := 48) hx hb dX12_init_204 (by decide) ?_
  have hB := hw.B C.2.2.2.2.2
  obtain ⟨h193, hq⟩ := hq
  refine q_newa_14 (N' := 48) C hw (by decide) (by decide) (by decide) h193.1 h193.2 dX12_init_206 (fun H hw => ?_)
  have h198 := okc_nw (gB g) M191 14 48 hB
  have h0 := h0.up (mle_nw M191 14 48)
  generalize e196 : nw M191 14 48 = M195 at hw h198 h0
  generalize e197 : mT M191 = q194 at h198 ⊢
  replace hq := hq q194 M195 e197.symm e196.symm
  refine pfX12_84 (v := (some q194)) C hw (mle_rf _) h0 hn dX12_init_208 (fun H locs hw => ?_)
  generalize e200 : uR M195 a0 41 (some q194) = M199 at hw
  replace hq := hq M199 e200.symm
  have h0 : okc (gB g) M199 a0 12 := by rw [← e200]; exact okc_uR h0
  refine lv_aload_n hx hb dX12_init_211 rfl (lv_at hl 0 rfl) ?_
  refine lv_bipush (v := 49) hx hb dX12_init_212 (by decide) ?_
  have hB := hw.B C.2.2.2.2.2
  obtain ⟨h201, hq⟩ := hq
  refine q_newa_14 (N' := 49) C hw (by decide) (by decide) (by decide) h201.1 h201.2 dX12_init_214 (fun H hw => ?_)
  have h206 := okc_nw (gB g) M199 14 49 hB
  have h0 := h0.up (mle_nw M199 14 49)
  generalize e204 : nw M199 14 49 = M203 at hw h206 h0
  generalize e205 : mT M199 = q202 at h206 ⊢
  replace hq := hq q202 M203 e205.symm e204.symm
  refine pfX12_87 (v := (some q202)) C hw (mle_rf _) h0 hn dX12_init_216 (fun H locs hw => ?_)
  generalize e208 : uR M203 a0 42 (some q202) = M207 at hw
  replace hq := hq M207 e208.symm
  have h0 : okc (gB g) M207 a0 12 := by rw [← e208]; exact okc_uR h0
  refine lv_aload_n hx hb dX12_init_219 rfl (lv_at hl 0 rfl) ?_
  refine lv_bipush (v := 8) hx hb dX12_init_220 (by decide) ?_
  have hB := hw.B C.2.2.2.2.2
  obtain ⟨h209, hq⟩ := hq
  refine q_newa_14 (N' := 8) C hw (by decide) (by decide) (by decide) h209.1 h209.2 dX12_init_222 (fun H hw => ?_)
  have h214 := okc_nw (gB g) M207 14 8 hB
  have h0 := h0.up (mle_nw M207 14 8)
  generalize e212 : nw M207 14 8 = M211 at hw h214 h0
  generalize e213 : mT M207 = q210 at h214 ⊢
  replace hq := hq q210 M211 e213.symm e212.symm
  refine pfX12_90 (v := (some q210)) C hw (mle_rf _) h0 hn dX12_init_224 (fun H locs hw => ?_)
  generalize e216 : uR M211 a0 43 (some q210) = M215 at hw
  replace hq := hq M215 e216.symm
  have h0 : okc (gB g) M215 a0 12 := by rw [← e216]; exact okc_uR h0
  refine lv_aload_n hx hb dX12_init_227 rfl (lv_at hl 0 rfl) ?_
  refine lv_bipush (v := 120) hx hb dX12_init_228 (by decide) ?_
  have hB := hw.B C.2.2.2.2.2
  obtain ⟨h217, hq⟩ := hq
  refine q_newa_14 (N' := 120) C hw (by decide) (by decide) (by decide) h217.1 h217.2 dX12_init_230 (fun H hw => ?_)
  have h222 := okc_nw (gB g) M215 14 120 hB
  have h0 := h0.up (mle_nw M215 14 120)
  generalize e220 : nw M215 14 120 = M219 at hw h222 h0
  generalize e221 : mT M215 = q218 at h222 ⊢
  replace hq := hq q218 M219 e221.symm e220.symm
  refine pfX12_93 (v := (some q218)) C hw (mle_rf _) h0 hn dX12_init_232 (fun H locs hw => ?_)
  generalize e224 : uR M219 a0 56 (some q218) = M223 at hw
  replace hq := hq M223 e224.symm
  have h0 : okc (gB g) M223 a0 12 := by rw [← e224]; exact okc_uR h0
  refine lv_aload_n hx hb dX12_init_235 rfl (lv_at hl 0 rfl) ?_
  refine lv_bipush (v := 120) hx hb dX12_init_236 (by decide) ?_
  have hB := hw.B C.2.2.2.2.2
  obtain ⟨h225, hq⟩ := hq
  refine q_newa_14 (N' := 120) C hw (by decide) (by decide) (by decide) h225.1 h225.2 dX12_init_238 (fun H hw => ?_)
  have h230 := okc_nw (gB g) M223 14 120 hB
  have h0 := h0.up (mle_nw M223 14 120)
  generalize e228 : nw M223 14 120 = M227 at hw h230 h0
  generalize e229 : mT M223 = q226 at h230 ⊢
  replace hq := hq q226 M227 e229.symm e228.symm
  refine pfX12_96 (v := (some q226)) C hw (mle_rf _) h0 hn dX12_init_240 (fun H locs hw => ?_)
  generalize e232 : uR M227 a0 57 (some q226) = M231 at hw
  replace hq := hq M231 e232.symm
  have h0 : okc (gB g) M231 a0 12 := by rw [← e232]; exact okc_uR h0
  refine lv_aload_n hx hb dX12_init_243 rfl (lv_at hl 0 rfl) ?_
  refine lv_bipush (v := 120) hx hb dX12_init_244 (by decide) ?_
  have hB := hw.B C.2.2.2.2.2
  obtain ⟨h233, hq⟩ := hq
  refine q_newa_14 (N' := 120) C hw (by decide) (by decide) (by decide) h233.1 h233.2 dX12_init_246 (fun H hw => ?_)
  have h238 := okc_nw (gB g) M231 14 120 hB
  have h0 := h0.up (mle_nw M231 14 120)
  generalize e236 : nw M231 14 120 = M235 at hw h238 h0
  generalize e237 : mT M231 = q234 at h238 ⊢
  replace hq := hq q234 M235 e237.symm e236.symm
  refine pfX12_99 (v := (some q234)) C hw (mle_rf _) h0 hn dX12_init_248 (fun H locs hw => ?_)
  generalize e240 : uR M235 a0 58 (some q234) = M239 at hw
  replace hq := hq M239 e240.symm
  have h0 : okc (gB g) M239 a0 12 := by rw [← e240]; exact okc_uR h0
  refine lv_aload_n hx hb dX12_init_251 rfl (lv_at hl 0 rfl) ?_
  refine lv_bipush (v := 120) hx hb dX12_init_252 (by decide) ?_
  have hB := hw.B C.2.2.2.2.2
  obtain ⟨h241, hq⟩ := hq
  refine q_newa_14 (N' := 120) C hw (by decide) (by decide) (by decide) h241.1 h241.2 dX12_init_254 (fun H hw => ?_)
  have h246 := okc_nw (gB g) M239 14 120 hB
  have h0 := h0.up (mle_nw M239 14 120)
  generalize e244 : nw M239 14 120 = M243 at hw h246 h0
  generalize e245 : mT M239 = q242 at h246 ⊢
  replace hq := hq q242 M243 e245.symm e244.symm
  refine pfX12_102 (v := (some q242)) C hw (mle_rf _) h0 hn dX12_init_256 (fun H locs hw => ?_)
  generalize e248 : uR M243 a0 59 (some q242) = M247 at hw
  replace hq := hq M247 e248.symm
  have h0 : okc (gB g) M247 a0 12 := by rw [← e248]; exact okc_uR h0
  refine lv_aload_n hx hb dX12_init_259 rfl (lv_at hl 0 rfl) ?_
  refine lv_bipush (v := 120) hx hb dX12_init_260 (by decide) ?_
  have hB := hw.B C.2.2.2.2.2
  obtain ⟨h249, hq⟩ := hq
  refine q_newa_17 (N' := 120) C hw (by decide) (by decide) (by decide) h249.1 h249.2 dX12_init_262 (fun H hw => ?_)
  have h254 := okc_nw (gB g) M247 17 120 hB
  have h0 := h0.up (mle_nw M247 17 120)
  generalize e252 : nw M247 17 120 = M251 at hw h254 h0
  generalize e253 : mT M247 = q250 at h254 ⊢
  replace hq := hq q250 M251 e253.symm e252.symm
  refine pfX12_105 (v := (some q250)) C hw (mle_rf _) h0 hn dX12_init_264 (fun H locs hw => ?_)
  generalize e256 : uR M251 a0 60 (some q250) = M255 at hw
  replace hq := hq M255 e256.symm
  have h0 : okc (gB g) M255 a0 12 := by rw [← e256]; exact okc_uR h0
  refine lv_aload_n hx hb dX12_init_267 rfl (lv_at hl 0 rfl) ?_
  refine lv_bipush (v := 120) hx hb dX12_init_268 (by decide) ?_
  have hB := hw.B C.2.2.2.2.2
  obtain ⟨h257, hq⟩ := hq
  refine q_newa_17 (N' := 120) C hw (by decide) (by decide) (by decide) h257.1 h257.2 dX12_init_270 (fun H hw => ?_)
  have h262 := okc_nw (gB g) M255 17 120 hB
  have h0 := h0.up (mle_nw M255 17 120)
  generalize e260 : nw M255 17 120 = M259 at hw h262 h0
  generalize e261 : mT M255 = q258 at h262 ⊢
  replace hq := hq q258 M259 e261.symm e260.symm
  refine pfX12_108 (v := (some q258)) C hw (mle_rf _) h0 hn dX12_init_272 (fun H locs hw => ?_)
  generalize e264 : uR M259 a0 61 (some q258) = M263 at hw
  replace hq := hq M263 e264.symm
  have h0 : okc (gB g) M263 a0 12 := by rw [← e264]; exact okc_uR h0
  refine lv_aload_n hx hb dX12_init_275 rfl (lv_at hl 0 rfl) ?_
  refine lv_bipush (v := 12) hx hb dX12_init_276 (by decide) ?_
  have hB := hw.B C.2.2.2.2.2
  obtain ⟨h265, hq⟩ := hq
  refine q_newa_14 (N' := 12) C hw (by decide) (by decide) (by decide) h265.1 h265.2 dX12_init_278 (fun H hw => ?_)
  have h270 := okc_nw (gB g) M263 14 12 hB
  have h0 := h0.up (mle_nw M263 14 12)
  generalize e268 : nw M263 14 12 = M267 at hw h270 h0
  generalize e269 : mT M263 = q266 at h270 ⊢
  replace hq := hq q266 M267 e269.symm e268.symm
  refine pfX12_111 (v := (some q266)) C hw (mle_rf _) h0 hn dX12_init_280 (fun H locs hw => ?_)
  generalize e272 : uR M267 a0 62 (some q266) = M271 at hw
  replace hq := hq M271 e272.symm
  have h0 : okc (gB g) M271 a0 12 := by rw [← e272]; exact okc_uR h0
  refine lv_aload_n hx hb dX12_init_283 rfl (lv_at hl 0 rfl) ?_
  refine lv_bipush (v := 12) hx hb dX12_init_284 (by decide) ?_
  have hB := hw.B C.2.2.2.2.2
  obtain ⟨h273, hq⟩ := hq
  refine q_newa_14 (N' := 12) C hw (by decide) (by decide) (by decide) h273.1 h273.2 dX12_init_286 (fun H hw => ?_)
  have h278 := okc_nw (gB g) M271 14 12 hB
  have h0 := h0.up (mle_nw M271 14 12)
  generalize e276 : nw M271 14 12 = M275 at hw h278 h0
  generalize e277 : mT M271 = q274 at h278 ⊢
  replace hq := hq q274 M275 e277.symm e276.symm
  refine pfX12_114 (v := (some q274)) C hw (mle_rf _) h0 hn dX12_init_288 (fun H locs hw => ?_)
  generalize e280 : uR M275 a0 63 (some q274) = M279 at hw
  replace hq := hq M279 e280.symm
  have h0 : okc (gB g) M279 a0 12 := by rw [← e280]; exact okc_uR h0
  refine lv_aload_n hx hb dX12_init_291 rfl (lv_at hl 0 rfl) ?_
  refine lv_bipush (v := 12) hx hb dX12_init_292 (by decide) ?_
  have hB := hw.B C.2.2.2.2.2
  obtain ⟨h281, hq⟩ := hq
  refine q_newa_14 (N' := 12) C hw (by decide) (by decide) (by decide) h281.1 h281.2 dX12_init_294 (fun H hw => ?_)
  have h286 := okc_nw (gB g) M279 14 12 hB
  have h0 := h0.up (mle_nw M279 14 12)
  generalize e284 : nw M279 14 12 = M283 at hw h286 h0
  generalize e285 : mT M279 = q282 at h286 ⊢
  replace hq := hq q282 M283 e285.symm e284.symm
  refine pfX12_117 (v := (some q282)) C hw (mle_rf _) h0 hn dX12_init_296 (fun H locs hw => ?_)
  generalize e288 : uR M283 a0 64 (some q282) = M287 at hw
  replace hq := hq M287 e288.symm
  have h0 : okc (gB g) M287 a0 12 := by rw [← e288]; exact okc_uR h0
  refine lv_aload_n hx hb dX12_init_299 rfl (lv_at hl 0 rfl) ?_
  refine lv_bipush (v := 12) hx hb dX12_init_300 (by decide) ?_
  have hB := hw.B C.2.2.2.2.2
  obtain ⟨h289, hq⟩ := hq
  refine q_newa_14 (N' := 12) C hw (by decide) (by decide) (by decide) h289.1 h289.2 dX12_init_302 (fun H hw => ?_)
  have h294 := okc_nw (gB g) M287 14 12 hB
  have h0 := h0.up (mle_nw M287 14 12)
  generalize e292 : nw M287 14 12 = M291 at hw h294 h0
  generalize e293 : mT M287 = q290 at h294 ⊢
  replace hq := hq q290 M291 e293.symm e292.symm
  refine pfX12_120 (v := (some q290)) C hw (mle_rf _) h0 hn dX12_init_304 (fun H locs hw => ?_)
  generalize e296 : uR M291 a0 65 (some q290) = M295 at hw
  replace hq := hq M295 e296.symm
  have h0 : okc (gB g) M295 a0 12 := by rw [← e296]; exact okc_uR h0
  obtain ⟨h297, hq⟩ := hq
  exact r_vret C hr hlk hw dX12_init_307 h297.1 h297.2 ⟨rfl, hq⟩

set_option maxRecDepth 100000 in
def wp_X12_thrown  (g : Gh) (M0 : Mem) (a0 : Nat) (post : Int32 → Mem → Prop) : Prop :=
  okc (gB g) M0 a0 12 ∧ (post (mI M0 a0 0) M0)
set_option maxHeartbeats 4000000 in
set_option maxRecDepth 100000 in
theorem ct_X12_thrown {l : Launch} {g : Gh} {M0 : Mem} {a0 : Nat} {post : Int32 → Mem → Prop}  (hq : wp_X12_thrown  g M0 a0 post) : Ct l g yX12_thrown cX12_thrown 1 (some .int) 0 0 0 [.ref a0] M0 (pI post) := by
  unfold wp_X12_thrown at hq
  obtain ⟨h0, hq⟩ := hq
  refine Ct.of (by decide) (Nat.le_of_ble_eq_true rfl) ?_
  intro p e s m below meth c ls C hr hlk hn hl hw
  have hx := C.1.1
  have hb := C.1.2.1
  have hl : lv_has ls 1 [(0, .ref a0)] := hl
  refine lv_aload_n hx hb dX12_thrown_0 rfl (lv_at hl 0 rfl) ?_
  refine gfX12_123 C hw hw.2.2.1 h0 dX12_thrown_1 ?_
  exact r_iret C hr hlk hw dX12_thrown_4 (Nat.le_refl _) (Nat.le_refl _) ⟨_, rfl, hq⟩

set_option maxRecDepth 100000 in
def bd_X12_come_3  (g : Gh) (M0 : Mem) (a0 : Nat) (p1 : Int32) (post : Mem → Prop)  (bk3 : Int32 × Mem → Prop) (x2 : Int32)  (M : Mem) : Prop :=
  ((x2 < 0) → post M) ∧ (¬ (x2 < 0) → ∃ q2, mR M a0 1 = some q2 ∧ (okc (gB g) M0 q2 14 ∧ (vp_in (mI M a0 2) (mN M0 q2) ∧ (∀ M6, M6 = uI M q2 (Int32.toNatClampNeg (mI M a0 2)) (((Int32.toUInt32 p1 >>> (Int32.toUInt32 x2 &&& Int32.toUInt32 31)).toInt32) &&& 255) → (∀ M8, M8 = uI M6 a0 2 ((mI M6 a0 2) + 1) → (bk3 ((x2 + (-8)), M8)))))))
set_option maxRecDepth 100000 in
def wp_X12_come  (g : Gh) (M0 : Mem) (a0 : Nat) (p1 : Int32) (post : Mem → Prop) : Prop :=
  okc (gB g) M0 a0 12 ∧ ((∃ n : Nat, lfp (fun bk z => bd_X12_come_3  g M0 a0 p1 post  bk z.1 z.2) n (24, M0)))
set_option maxHeartbeats 4000000 in
set_option maxRecDepth 100000 in
theorem lp_X12_come_3 {l : Launch} {g : Gh} {p : Program} {e : Env} {s : State} {m : MethodId} {args : Array Value} {below : List Frame} {meth : Method} {c : Code} {M0 : Mem} {a0 : Nat} {p1 : Int32} {post : Mem → Prop}  (C : Cx g p s m args c cX12_come 3 RX12) (hr : meth.sig.returnType = none) (hlk : meth.locks = false) (hn : meth.name = "come") (h0 : okc (gB g) M0 a0 12)  : ∀ (nf : Nat) (x2 : Int32)  (M : Mem) (H : Heap) (locs : List Loc) (ls : Array Slot), lfp (fun bk z => bd_X12_come_3  g M0 a0 p1 post  bk z.1 z.2) nf (x2, M) → Wd g s M0 M H locs → lv_has ls 3 [(0, .ref a0), (1, .int p1), (2, .int x2)] → W p l e (rmo 0 0 0) s m args below meth c H locs 0 0 (MQ below (Cq g M0 (pV post)) args s 0 0 (gA g)) (F0 m 3 ls []) := by
  have hx := C.1.1
  have hb := C.1.2.1
  intro nf
  induction nf with
  | zero => intro _ _ H locs ls hq; exact hq.elim
  | succ nf hk3 =>
    intro x2 M H locs ls hq hw hl
    replace hq : bd_X12_come_3  g M0 a0 p1 post  (lfp (fun bk z => bd_X12_come_3  g M0 a0 p1 post  bk z.1 z.2) nf) x2 M := hq
    unfold bd_X12_come_3 at hq
    refine lv_iload_n hx hb dX12_come_3 rfl (lv_at hl 2 rfl) ?_
    refine lv_if_lt (tgt := 39) hx hb dX12_come_4 (by decide) (fun c1 => ?_) (fun c1 => ?_)
    · replace hq := hq.1 c1
      exact r_vret C hr hlk hw dX12_come_39 (Nat.le_refl _) (Nat.le_refl _) ⟨rfl, hq⟩
    · replace hq := hq.2 c1
      refine lv_aload_n hx hb dX12_come_7 rfl (lv_at hl 0 rfl) ?_
      obtain ⟨q2, e3, hq⟩ := hq
      refine gfX12_7 C hw hw.2.2.1 h0 e3 dX12_come_8 ?_
      refine lv_aload_n hx hb dX12_come_11 rfl (lv_at hl 0 rfl) ?_
      refine gfX12_127 C hw hw.2.2.1 h0 dX12_come_12 ?_
      refine lv_iload_n hx hb dX12_come_15 rfl (lv_at hl 1 rfl) ?_
      refine lv_iload_n hx hb dX12_come_16 rfl (lv_at hl 2 rfl) ?_
      refine lv_iushr (v := ((Int32.toUInt32 p1 >>> (Int32.toUInt32 x2 &&& Int32.toUInt32 31)).toInt32)) hx hb dX12_come_17 rfl ?_
      refine lv_sipush (v := 255) hx hb dX12_come_18 (by decide) ?_
      refine lv_iand hx hb dX12_come_21 ?_
      obtain ⟨h4, hq⟩ := hq
      obtain ⟨h5, hq⟩ := hq
      refine q_iast C hw hw.2.2.1 h4 h5 dX12_come_22 (fun H locs hw => ?_)
      generalize e7 : uI M q2 (Int32.toNatClampNeg (mI M a0 2)) (((Int32.toUInt32 p1 >>> (Int32.toUInt32 x2 &&& Int32.toUInt32 31)).toInt32) &&& 255) = M6 at hw
      replace hq := hq M6 e7.symm
      have e3 : mR M6 a0 1 = some q2 := by rw [← e7, mR_uI]; exact e3
      refine lv_aload_n hx hb dX12_come_23 rfl (lv_at hl 0 rfl) ?_
      refine lv_dup hx hb dX12_come_24 rfl ?_
      refine gfX12_127 C hw hw.2.2.1 h0 dX12_come_25 ?_
      refine lv_iconst (v := 1) hx hb dX12_come_28 (by decide) ?_
      refine lv_iadd hx hb dX12_come_29 ?_
      refine pfX12_127 C hw hw.2.2.1 h0 dX12_come_30 (fun H locs hw => ?_)
      generalize e9 : uI M6 a0 2 ((mI M6 a0 2) + 1) = M8 at hw
      replace hq := hq M8 e9.symm
      have e3 : mR M8 a0 1 = some q2 := by rw [← e9, mR_uI]; exact e3
      refine lv_iinc (v := (x2 + (-8))) (lv' := [(2, .int (x2 + (-8))), (0, .ref a0), (1, .int p1)]) hx hb dX12_come_33 hl (k := 2) rfl rfl (by decide) rfl (fun ls hl => ?_)
      refine lv_goto (tgt := 3) hx hb dX12_come_36 (by decide) ?_
      exact hk3 _ _ _ _ _ hq hw (lv_sub hl [1, 2, 0] rfl)
set_option maxHeartbeats 4000000 in
set_option maxRecDepth 100000 in
theorem ct_X12_come {l : Launch} {g : Gh} {M0 : Mem} {a0 : Nat} {p1 : Int32} {post : Mem → Prop}  (hq : wp_X12_come  g M0 a0 p1 post) : Ct l g yX12_come cX12_come 3 none 0 0 0 [.ref a0, .int p1] M0 (pV post) := by
  unfold wp_X12_come at hq
  obtain ⟨h0, hq⟩ := hq
  refine Ct.of (by decide) (Nat.le_of_ble_eq_true rfl) ?_
  intro p e s m below meth c ls C hr hlk hn hl hw
  have hx := C.1.1
  have hb := C.1.2.1
  have hl : lv_has ls 3 [(0, .ref a0), (1, .int p1)] := hl
  refine lv_bipush (v := 24) hx hb dX12_come_0 (by decide) ?_
  refine lv_istore_n (lv' := [(2, .int 24), (0, .ref a0), (1, .int p1)]) hx hb dX12_come_2 rfl hl (by decide) rfl (fun ls hl => ?_)
  obtain ⟨nf, hq⟩ := hq
  exact lp_X12_come_3  C hr hlk hn h0  nf _ _ _ _ _ hq hw (lv_sub hl [1, 2, 0] rfl)

set_option maxRecDepth 100000 in
def wp_X12_feed  (g : Gh) (M0 : Mem) (a0 : Nat) (p1 : Int32) (p2 : Int32) (p3 : Int32) (p4 : Int32) (p5 : Int32) (post : Int32 → Mem → Prop) : Prop :=
  okc (gB g) M0 a0 12 ∧ (∀ M1, M1 = uI M0 a0 0 0 → (((((mI M1 a0 2) + 20) ≤ 260) → wp_X12_come g M1 a0 p1 (fun M5 => wp_X12_come g M5 a0 p2 (fun M7 => wp_X12_come g M7 a0 p3 (fun M9 => wp_X12_come g M9 a0 p4 (fun M11 => wp_X12_come g M11 a0 p5 (fun M13 => post (mI M13 a0 2) M13)))))) ∧ (¬ (((mI M1 a0 2) + 20) ≤ 260) → post (-1) M1)))
set_option maxHeartbeats 4000000 in
set_option maxRecDepth 100000 in
theorem ct_X12_feed {l : Launch} {g : Gh} {M0 : Mem} {a0 : Nat} {p1 : Int32} {p2 : Int32} {p3 : Int32} {p4 : Int32} {p5 : Int32} {post : Int32 → Mem → Prop}  (hq : wp_X12_feed  g M0 a0 p1 p2 p3 p4 p5 post) : Ct l g yX12_feed cX12_feed 6 (some .int) 1 0 0 [.ref a0, .int p1, .int p2, .int p3, .int p4, .int p5] M0 (pI post) := by
  unfold wp_X12_feed at hq
  obtain ⟨h0, hq⟩ := hq
  refine Ct.of (by decide) (Nat.le_of_ble_eq_true rfl) ?_
  intro p e s m below meth c ls C hr hlk hn hl hw
  have hx := C.1.1
  have hb := C.1.2.1
  have hl : lv_has ls 6 [(0, .ref a0), (1, .int p1), (2, .int p2), (3, .int p3), (4, .int p4), (5, .int p5)] := hl
  refine lv_aload_n hx hb dX12_feed_0 rfl (lv_at hl 0 rfl) ?_
  refine lv_iconst (v := 0) hx hb dX12_feed_1 (by decide) ?_
  refine pfX12_123 C hw hw.2.2.1 h0 dX12_feed_2 (fun H locs hw => ?_)
  generalize e2 : uI M0 a0 0 0 = M1 at hw
  replace hq := hq M1 e2.symm
  refine lv_aload_n hx hb dX12_feed_5 rfl (lv_at hl 0 rfl) ?_
  refine gfX12_127 C hw hw.2.2.1 h0 dX12_feed_6 ?_
  refine lv_bipush (v := 20) hx hb dX12_feed_9 (by decide) ?_
  refine lv_iadd hx hb dX12_feed_11 ?_
  refine lv_sipush (v := 260) hx hb dX12_feed_12 (by decide) ?_
  refine lv_icmp_le (tgt := 20) hx hb dX12_feed_15 (by decide) (fun c3 => ?_) (fun c3 => ?_)
  · replace hq := hq.1 c3
    refine lv_aload_n hx hb dX12_feed_20 rfl (lv_at hl 0 rfl) ?_
    refine lv_iload_n hx hb dX12_feed_21 rfl (lv_at hl 1 rfl) ?_
    refine r_callV (T := TX12) (N := 67) (ci := 12) (index := 130) (n := 1) (d2 := 0) (mc := 0) (ms := 0) (As := [.int p1]) (rest := []) C hw (ct_X12_come hq) kvX12_130 hq.1 (by decide) rfl ⟨by decide, by decide⟩ ⟨by decide, by decide⟩ rfl hl.1 rfl (Nat.le_of_ble_eq_true rfl) dX12_feed_22 (fun r M5 H locs hp hle hw => ?_)
    obtain ⟨rfl, hq⟩ := hp
    refine W.eq (g2 := F0 m 25 ls []) rfl ?_
    refine lv_aload_n hx hb dX12_feed_25 rfl (lv_at hl 0 rfl) ?_
    refine lv_iload_n hx hb dX12_feed_26 rfl (lv_at hl 2 rfl) ?_
    refine r_callV (T := TX12) (N := 67) (ci := 12) (index := 130) (n := 1) (d2 := 0) (mc := 0) (ms := 0) (As := [.int p2]) (rest := []) C hw (ct_X12_come hq) kvX12_130 hq.1 (by decide) rfl ⟨by decide, by decide⟩ ⟨by decide, by decide⟩ rfl hl.1 rfl (Nat.le_of_ble_eq_true rfl) dX12_feed_27 (fun r M7 H locs hp hle hw => ?_)
    obtain ⟨rfl, hq⟩ := hp
    refine W.eq (g2 := F0 m 30 ls []) rfl ?_
    refine lv_aload_n hx hb dX12_feed_30 rfl (lv_at hl 0 rfl) ?_
    refine lv_iload_n hx hb dX12_feed_31 rfl (lv_at hl 3 rfl) ?_
    refine r_callV (T := TX12) (N := 67) (ci := 12) (index := 130) (n := 1) (d2 := 0) (mc := 0) (ms := 0) (As := [.int p3]) (rest := []) C hw (ct_X12_come hq) kvX12_130 hq.1 (by decide) rfl ⟨by decide, by decide⟩ ⟨by decide, by decide⟩ rfl hl.1 rfl (Nat.le_of_ble_eq_true rfl) dX12_feed_32 (fun r M9 H locs hp hle hw => ?_)
    obtain ⟨rfl, hq⟩ := hp
    refine W.eq (g2 := F0 m 35 ls []) rfl ?_
    refine lv_aload_n hx hb dX12_feed_35 rfl (lv_at hl 0 rfl) ?_
    refine lv_iload hx hb dX12_feed_36 (lv_at hl 4 rfl) ?_
    refine r_callV (T := TX12) (N := 67) (ci := 12) (index := 130) (n := 1) (d2 := 0) (mc := 0) (ms := 0) (As := [.int p4]) (rest := []) C hw (ct_X12_come hq) kvX12_130 hq.1 (by decide) rfl ⟨by decide, by decide⟩ ⟨by decide, by decide⟩ rfl hl.1 rfl (Nat.le_of_ble_eq_true rfl) dX12_feed_38 (fun r M11 H locs hp hle hw => ?_)
    obtain ⟨rfl, hq⟩ := hp
    refine W.eq (g2 := F0 m 41 ls []) rfl ?_
    refine lv_aload_n hx hb dX12_feed_41 rfl (lv_at hl 0 rfl) ?_
    refine lv_iload hx hb dX12_feed_42 (lv_at hl 5 rfl) ?_
    refine r_callV (T := TX12) (N := 67) (ci := 12) (index := 130) (n := 1) (d2 := 0) (mc := 0) (ms := 0) (As := [.int p5]) (rest := []) C hw (ct_X12_come hq) kvX12_130 hq.1 (by decide) rfl ⟨by decide, by decide⟩ ⟨by decide, by decide⟩ rfl hl.1 rfl (Nat.le_of_ble_eq_true rfl) dX12_feed_44 (fun r M13 H locs hp hle hw => ?_)
    obtain ⟨rfl, hq⟩ := hp
    refine W.eq (g2 := F0 m 47 ls []) rfl ?_
    refine lv_aload_n hx hb dX12_feed_47 rfl (lv_at hl 0 rfl) ?_
    refine gfX12_127 C hw hw.2.2.1 h0 dX12_feed_48 ?_
    exact r_iret C hr hlk hw dX12_feed_51 (Nat.le_refl _) (Nat.le_refl _) ⟨_, rfl, hq⟩
  · replace hq := hq.2 c3
    refine lv_iconst (v := (-1)) hx hb dX12_feed_18 (by decide) ?_
    exact r_iret C hr hlk hw dX12_feed_19 (Nat.le_refl _) (Nat.le_refl _) ⟨_, rfl, hq⟩

set_option maxRecDepth 100000 in
def wp_X12_end  (g : Gh) (M0 : Mem) (a0 : Nat) (p1 : Int32) (post : Int32 → Mem → Prop) : Prop :=
  okc (gB g) M0 a0 12 ∧ (∀ M1, M1 = uI M0 a0 0 0 → (((p1 < 0) → post 0 M1) ∧ (¬ (p1 < 0) → ((p1 ≤ (mI M1 a0 2)) → ∀ M5, M5 = uI M1 a0 2 p1 → (post 1 M5)) ∧ (¬ (p1 ≤ (mI M1 a0 2)) → post 0 M1))))
set_option maxHeartbeats 4000000 in
set_option maxRecDepth 100000 in
theorem ct_X12_end {l : Launch} {g : Gh} {M0 : Mem} {a0 : Nat} {p1 : Int32} {post : Int32 → Mem → Prop}  (hq : wp_X12_end  g M0 a0 p1 post) : Ct l g yX12_end cX12_end 2 (some .boolean) 0 0 0 [.ref a0, .int p1] M0 (pI post) := by
  unfold wp_X12_end at hq
  obtain ⟨h0, hq⟩ := hq
  refine Ct.of (by decide) (Nat.le_of_ble_eq_true rfl) ?_
  intro p e s m below meth c ls C hr hlk hn hl hw
  have hx := C.1.1
  have hb := C.1.2.1
  have hl : lv_has ls 2 [(0, .ref a0), (1, .int p1)] := hl
  refine lv_aload_n hx hb dX12_end_0 rfl (lv_at hl 0 rfl) ?_
  refine lv_iconst (v := 0) hx hb dX12_end_1 (by decide) ?_
  refine pfX12_123 C hw hw.2.2.1 h0 dX12_end_2 (fun H locs hw => ?_)
  generalize e2 : uI M0 a0 0 0 = M1 at hw
  replace hq := hq M1 e2.symm
  refine lv_iload_n hx hb dX12_end_5 rfl (lv_at hl 1 rfl) ?_
  refine lv_if_lt (tgt := 17) hx hb dX12_end_6 (by decide) (fun c3 => ?_) (fun c3 => ?_)
  · replace hq := hq.1 c3
    refine lv_iconst (v := 0) hx hb dX12_end_17 (by decide) ?_
    exact r_zret C hr hlk hw dX12_end_18 (Nat.le_refl _) (Nat.le_refl _) (by decide) ⟨_, rfl, hq⟩
  · replace hq := hq.2 c3
    refine lv_iload_n hx hb dX12_end_9 rfl (lv_at hl 1 rfl) ?_
    refine lv_aload_n hx hb dX12_end_10 rfl (lv_at hl 0 rfl) ?_
    refine gfX12_127 C hw hw.2.2.1 h0 dX12_end_11 ?_
    refine lv_icmp_le (tgt := 19) hx hb dX12_end_14 (by decide) (fun c4 => ?_) (fun c4 => ?_)
    · replace hq := hq.1 c4
      refine lv_aload_n hx hb dX12_end_19 rfl (lv_at hl 0 rfl) ?_
      refine lv_iload_n hx hb dX12_end_20 rfl (lv_at hl 1 rfl) ?_
      refine pfX12_127 C hw hw.2.2.1 h0 dX12_end_21 (fun H locs hw => ?_)
      generalize e6 : uI M1 a0 2 p1 = M5 at hw
      replace hq := hq M5 e6.symm
      refine lv_iconst (v := 1) hx hb dX12_end_24 (by decide) ?_
      exact r_zret C hr hlk hw dX12_end_25 (Nat.le_refl _) (Nat.le_refl _) (by decide) ⟨_, rfl, hq⟩
    · replace hq := hq.2 c4
      refine lv_iconst (v := 0) hx hb dX12_end_17 (by decide) ?_
      exact r_zret C hr hlk hw dX12_end_18 (Nat.le_refl _) (Nat.le_refl _) (by decide) ⟨_, rfl, hq⟩

set_option maxRecDepth 100000 in
def wp_X12_at  (g : Gh) (M0 : Mem) (a0 : Nat) (p1 : Int32) (post : Int32 → Mem → Prop) : Prop :=
  okc (gB g) M0 a0 12 ∧ ((((mI M0 a0 3) ≤ p1) → post 0 M0) ∧ (¬ ((mI M0 a0 3) ≤ p1) → ∃ q2, mR M0 a0 1 = some q2 ∧ (okc (gB g) M0 q2 14 ∧ (vp_in p1 (mN M0 q2) ∧ (post (mI M0 q2 (Int32.toNatClampNeg p1)) M0)))))
set_option maxHeartbeats 4000000 in
set_option maxRecDepth 100000 in
theorem ct_X12_at {l : Launch} {g : Gh} {M0 : Mem} {a0 : Nat} {p1 : Int32} {post : Int32 → Mem → Prop}  (hq : wp_X12_at  g M0 a0 p1 post) : Ct l g yX12_at cX12_at 2 (some .int) 0 0 0 [.ref a0, .int p1] M0 (pI post) := by
  unfold wp_X12_at at hq
  obtain ⟨h0, hq⟩ := hq
  refine Ct.of (by decide) (Nat.le_of_ble_eq_true rfl) ?_
  intro p e s m below meth c ls C hr hlk hn hl hw
  have hx := C.1.1
  have hb := C.1.2.1
  have hl : lv_has ls 2 [(0, .ref a0), (1, .int p1)] := hl
  refine lv_iload_n hx hb dX12_at_0 rfl (lv_at hl 1 rfl) ?_
  refine lv_aload_n hx hb dX12_at_1 rfl (lv_at hl 0 rfl) ?_
  refine gfX12_134 C hw hw.2.2.1 h0 dX12_at_2 ?_
  refine lv_icmp_ge (tgt := 17) hx hb dX12_at_5 (by decide) (fun c1 => ?_) (fun c1 => ?_)
  · replace hq := hq.1 c1
    refine lv_iconst (v := 0) hx hb dX12_at_17 (by decide) ?_
    exact r_iret C hr hlk hw dX12_at_18 (Nat.le_refl _) (Nat.le_refl _) ⟨_, rfl, hq⟩
  · replace hq := hq.2 c1
    refine lv_aload_n hx hb dX12_at_8 rfl (lv_at hl 0 rfl) ?_
    obtain ⟨q2, e3, hq⟩ := hq
    refine gfX12_7 C hw hw.2.2.1 h0 e3 dX12_at_9 ?_
    refine lv_iload_n hx hb dX12_at_12 rfl (lv_at hl 1 rfl) ?_
    obtain ⟨h4, hq⟩ := hq
    obtain ⟨h5, hq⟩ := hq
    refine q_iald C hw hw.2.2.1 h4 h5 dX12_at_13 ?_
    refine lv_goto (tgt := 18) hx hb dX12_at_14 (by decide) ?_
    exact r_iret C hr hlk hw dX12_at_18 (Nat.le_refl _) (Nat.le_refl _) ⟨_, rfl, hq⟩

set_option maxRecDepth 100000 in
def wp_X12_isDigit  (g : Gh) (M0 : Mem) (p0 : Int32) (post : Int32 → Mem → Prop) : Prop :=
  ((p0 < 48) → post 0 M0) ∧ (¬ (p0 < 48) → ((57 < p0) → post 0 M0) ∧ (¬ (57 < p0) → post 1 M0))
set_option maxHeartbeats 4000000 in
set_option maxRecDepth 100000 in
theorem ct_X12_isDigit {l : Launch} {g : Gh} {M0 : Mem} {p0 : Int32} {post : Int32 → Mem → Prop}  (hq : wp_X12_isDigit  g M0 p0 post) : Ct l g yX12_isDigit cX12_isDigit 1 (some .boolean) 0 0 0 [.int p0] M0 (pI post) := by
  unfold wp_X12_isDigit at hq
  refine Ct.of (by decide) (Nat.le_of_ble_eq_true rfl) ?_
  intro p e s m below meth c ls C hr hlk hn hl hw
  have hx := C.1.1
  have hb := C.1.2.1
  have hl : lv_has ls 1 [(0, .int p0)] := hl
  refine lv_iload_n hx hb dX12_isDigit_0 rfl (lv_at hl 0 rfl) ?_
  refine lv_bipush (v := 48) hx hb dX12_isDigit_1 (by decide) ?_
  refine lv_icmp_lt (tgt := 16) hx hb dX12_isDigit_3 (by decide) (fun c1 => ?_) (fun c1 => ?_)
  · replace hq := hq.1 c1
    refine lv_iconst (v := 0) hx hb dX12_isDigit_16 (by decide) ?_
    exact r_zret C hr hlk hw dX12_isDigit_17 (Nat.le_refl _) (Nat.le_refl _) (by decide) ⟨_, rfl, hq⟩
  · replace hq := hq.2 c1
    refine lv_iload_n hx hb dX12_isDigit_6 rfl (lv_at hl 0 rfl) ?_
    refine lv_bipush (v := 57) hx hb dX12_isDigit_7 (by decide) ?_
    refine lv_icmp_gt (tgt := 16) hx hb dX12_isDigit_9 (by decide) (fun c2 => ?_) (fun c2 => ?_)
    · replace hq := hq.1 c2
      refine lv_iconst (v := 0) hx hb dX12_isDigit_16 (by decide) ?_
      exact r_zret C hr hlk hw dX12_isDigit_17 (Nat.le_refl _) (Nat.le_refl _) (by decide) ⟨_, rfl, hq⟩
    · replace hq := hq.2 c2
      refine lv_iconst (v := 1) hx hb dX12_isDigit_12 (by decide) ?_
      refine lv_goto (tgt := 17) hx hb dX12_isDigit_13 (by decide) ?_
      exact r_zret C hr hlk hw dX12_isDigit_17 (Nat.le_refl _) (Nat.le_refl _) (by decide) ⟨_, rfl, hq⟩

set_option maxRecDepth 100000 in
def wp_X12_isLetter  (g : Gh) (M0 : Mem) (p0 : Int32) (post : Int32 → Mem → Prop) : Prop :=
  ((p0 < 97) → post 0 M0) ∧ (¬ (p0 < 97) → ((122 < p0) → post 0 M0) ∧ (¬ (122 < p0) → post 1 M0))
set_option maxHeartbeats 4000000 in
set_option maxRecDepth 100000 in
theorem ct_X12_isLetter {l : Launch} {g : Gh} {M0 : Mem} {p0 : Int32} {post : Int32 → Mem → Prop}  (hq : wp_X12_isLetter  g M0 p0 post) : Ct l g yX12_isLetter cX12_isLetter 1 (some .boolean) 0 0 0 [.int p0] M0 (pI post) := by
  unfold wp_X12_isLetter at hq
  refine Ct.of (by decide) (Nat.le_of_ble_eq_true rfl) ?_
  intro p e s m below meth c ls C hr hlk hn hl hw
  have hx := C.1.1
  have hb := C.1.2.1
  have hl : lv_has ls 1 [(0, .int p0)] := hl
  refine lv_iload_n hx hb dX12_isLetter_0 rfl (lv_at hl 0 rfl) ?_
  refine lv_bipush (v := 97) hx hb dX12_isLetter_1 (by decide) ?_
  refine lv_icmp_lt (tgt := 16) hx hb dX12_isLetter_3 (by decide) (fun c1 => ?_) (fun c1 => ?_)
  · replace hq := hq.1 c1
    refine lv_iconst (v := 0) hx hb dX12_isLetter_16 (by decide) ?_
    exact r_zret C hr hlk hw dX12_isLetter_17 (Nat.le_refl _) (Nat.le_refl _) (by decide) ⟨_, rfl, hq⟩
  · replace hq := hq.2 c1
    refine lv_iload_n hx hb dX12_isLetter_6 rfl (lv_at hl 0 rfl) ?_
    refine lv_bipush (v := 122) hx hb dX12_isLetter_7 (by decide) ?_
    refine lv_icmp_gt (tgt := 16) hx hb dX12_isLetter_9 (by decide) (fun c2 => ?_) (fun c2 => ?_)
    · replace hq := hq.1 c2
      refine lv_iconst (v := 0) hx hb dX12_isLetter_16 (by decide) ?_
      exact r_zret C hr hlk hw dX12_isLetter_17 (Nat.le_refl _) (Nat.le_refl _) (by decide) ⟨_, rfl, hq⟩
    · replace hq := hq.2 c2
      refine lv_iconst (v := 1) hx hb dX12_isLetter_12 (by decide) ?_
      refine lv_goto (tgt := 17) hx hb dX12_isLetter_13 (by decide) ?_
      exact r_zret C hr hlk hw dX12_isLetter_17 (Nat.le_refl _) (Nat.le_refl _) (by decide) ⟨_, rfl, hq⟩

set_option maxRecDepth 100000 in
def lb_X12_readWord_169  (g : Gh) (M0 : Mem) (a0 : Nat) (post : Mem → Prop)  (x1 : Int32) (s0 : Nat) (s1 : Int32) (s2 : Int32) (M : Mem) : Prop :=
  ((s1 ≤ s2) → ((x1 = 0) → okc (gB g) M0 s0 12 ∧ (∀ M4, M4 = uI M s0 6 3 → (post M4))) ∧ (¬ (x1 = 0) → okc (gB g) M0 s0 12 ∧ (∀ M7, M7 = uI M s0 6 2 → (post M7)))) ∧ (¬ (s1 ≤ s2) → okc (gB g) M0 s0 12 ∧ (∀ M10, M10 = uI M s0 6 1 → (post M10)))
set_option maxRecDepth 100000 in
def lb_X12_readWord_144  (g : Gh) (M0 : Mem) (a0 : Nat) (post : Mem → Prop)  (x1 : Int32) (x2 : Int32)  (M : Mem) : Prop :=
  ((x2 = 0) → ∀ M13, M13 = uI M a0 6 1 → (post M13)) ∧ (¬ (x2 = 0) → ((x1 = 0) → lb_X12_readWord_169  g M0 a0 post  x1 a0 ((mI M a0 4) - (mI M a0 5)) 6 M) ∧ (¬ (x1 = 0) → lb_X12_readWord_169  g M0 a0 post  x1 a0 ((mI M a0 4) - (mI M a0 5)) 12 M))
set_option maxRecDepth 100000 in
def lb_X12_readWord_128  (g : Gh) (M0 : Mem) (a0 : Nat) (post : Mem → Prop) (bk20 : Int32 × Int32 × Mem → Prop) (x1 : Int32) (x2 : Int32) (s0 : Nat) (s1 : Int64) (M : Mem) : Prop :=
  okc (gB g) M0 s0 12 ∧ (∀ M17, M17 = uJ M s0 8 s1 → (∀ M19, M19 = uI M17 a0 4 ((mI M17 a0 4) + 1) → (bk20 (x1, x2, M19))))
set_option maxRecDepth 100000 in
def lb_X12_readWord_75  (g : Gh) (M0 : Mem) (a0 : Nat) (post : Mem → Prop) (bk20 : Int32 × Int32 × Mem → Prop) (x1 : Int32) (x3 : Int32) (s0 : Int32) (M : Mem) : Prop :=
  ((12 ≤ ((mI M a0 4) - (mI M a0 5))) → ∀ M22, M22 = uI M a0 4 ((mI M a0 4) + 1) → (bk20 (x1, s0, M22))) ∧ (¬ (12 ≤ ((mI M a0 4) - (mI M a0 5))) → ((x1 = 0) → lb_X12_readWord_128  g M0 a0 post bk20 x1 s0 a0 (((10 * (mJ M a0 8)) + (Int32.toInt64 x3)) - 48) M) ∧ (¬ (x1 = 0) → lb_X12_readWord_128  g M0 a0 post bk20 x1 s0 a0 (((27 * (mJ M a0 8)) + (Int32.toInt64 x3)) - 96) M))
set_option maxRecDepth 100000 in
def lb_X12_readWord_48  (g : Gh) (M0 : Mem) (a0 : Nat) (post : Mem → Prop) (bk20 : Int32 × Int32 × Mem → Prop) (x1 : Int32) (x2 : Int32)  (M : Mem) : Prop :=
  ∃ q25, mR M a0 1 = some q25 ∧ (okc (gB g) M0 q25 14 ∧ (vp_in (mI M a0 4) (mN M0 q25) ∧ (((x2 = 0) → lb_X12_readWord_75  g M0 a0 post bk20 x1 (mI M q25 (Int32.toNatClampNeg (mI M a0 4))) 0 M) ∧ (¬ (x2 = 0) → wp_X12_isLetter g M (mI M q25 (Int32.toNatClampNeg (mI M a0 4))) (fun v30 M31 => ((v30 = x1) → lb_X12_readWord_75  g M0 a0 post bk20 x1 (mI M q25 (Int32.toNatClampNeg (mI M a0 4))) 1 M31) ∧ (¬ (v30 = x1) → lb_X12_readWord_75  g M0 a0 post bk20 x1 (mI M q25 (Int32.toNatClampNeg (mI M a0 4))) 0 M31))))))
set_option maxRecDepth 100000 in
def bd_X12_readWord_20  (g : Gh) (M0 : Mem) (a0 : Nat) (post : Mem → Prop)  (bk20 : Int32 × Int32 × Mem → Prop) (x1 : Int32) (x2 : Int32)  (M : Mem) : Prop :=
  wp_X12_at g M a0 (mI M a0 4) (fun v33 M34 => wp_X12_isLetter g M34 v33 (fun v35 M36 => ((v35 = 0) → wp_X12_at g M36 a0 (mI M36 a0 4) (fun v38 M39 => wp_X12_isDigit g M39 v38 (fun v40 M41 => ((v40 = 0) → lb_X12_readWord_144  g M0 a0 post  x1 x2 M41) ∧ (¬ (v40 = 0) → lb_X12_readWord_48  g M0 a0 post bk20 x1 x2 M41)))) ∧ (¬ (v35 = 0) → lb_X12_readWord_48  g M0 a0 post bk20 x1 x2 M36)))
set_option maxRecDepth 100000 in
def wp_X12_readWord  (g : Gh) (M0 : Mem) (a0 : Nat) (post : Mem → Prop) : Prop :=
  okc (gB g) M0 a0 12 ∧ (∃ q43, mR M0 a0 1 = some q43 ∧ (okc (gB g) M0 q43 14 ∧ (vp_in (mI M0 a0 4) (mN M0 q43) ∧ (wp_X12_isLetter g M0 (mI M0 q43 (Int32.toNatClampNeg (mI M0 a0 4))) (fun v47 M48 => ∀ M49, M49 = uJ M48 a0 8 0 → ((∃ n : Nat, lfp (fun bk z => bd_X12_readWord_20  g M0 a0 post  bk z.1 z.2.1 z.2.2) n (v47, 1, M49))))))))
set_option maxHeartbeats 4000000 in
set_option maxRecDepth 100000 in
theorem lt_X12_readWord_169 {l : Launch} {g : Gh} {p : Program} {e : Env} {s : State} {m : MethodId} {args : Array Value} {below : List Frame} {meth : Method} {c : Code} {H : Heap} {locs : List Loc} {ls : Array Slot} {M0 M : Mem} {a0 : Nat} {post : Mem → Prop} {x1 : Int32} {s0 : Nat} {s1 : Int32} {s2 : Int32}  (C : Cx g p s m args c cX12_readWord 4 RX12) (hr : meth.sig.returnType = none) (hlk : meth.locks = false) (hn : meth.name = "readWord") (h0 : okc (gB g) M0 a0 12)  (hq : lb_X12_readWord_169  g M0 a0 post  x1 s0 s1 s2 M) (hw : Wd g s M0 M H locs) (hl : lv_has ls 4 [(0, .ref a0), (1, .int x1)]) : W p l e (rmo 1 0 0) s m args below meth c H locs 0 0 (MQ below (Cq g M0 (pV post)) args s 0 0 (gA g)) (F0 m 169 ls [.int s2, .int s1, .ref s0]) := by
  have hx := C.1.1
  have hb := C.1.2.1
  unfold lb_X12_readWord_169 at hq
  refine lv_icmp_le (tgt := 176) hx hb dX12_readWord_169 (by decide) (fun c1 => ?_) (fun c1 => ?_)
  · replace hq := hq.1 c1
    refine lv_iload_n hx hb dX12_readWord_176 rfl (lv_at hl 1 rfl) ?_
    refine lv_if_eq (tgt := 184) hx hb dX12_readWord_177 (by decide) (fun c2 => ?_) (fun c2 => ?_)
    · replace hq := hq.1 c2
      refine lv_iconst (v := 3) hx hb dX12_readWord_184 (by decide) ?_
      obtain ⟨h3, hq⟩ := hq
      refine pfX12_143 C hw hw.2.2.1 h3 dX12_readWord_185 (fun H locs hw => ?_)
      generalize e5 : uI M s0 6 3 = M4 at hw
      replace hq := hq M4 e5.symm
      exact r_vret C hr hlk hw dX12_readWord_188 (Nat.le_refl _) (Nat.le_refl _) ⟨rfl, hq⟩
    · replace hq := hq.2 c2
      refine lv_iconst (v := 2) hx hb dX12_readWord_180 (by decide) ?_
      refine lv_goto (tgt := 185) hx hb dX12_readWord_181 (by decide) ?_
      obtain ⟨h6, hq⟩ := hq
      refine pfX12_143 C hw hw.2.2.1 h6 dX12_readWord_185 (fun H locs hw => ?_)
      generalize e8 : uI M s0 6 2 = M7 at hw
      replace hq := hq M7 e8.symm
      exact r_vret C hr hlk hw dX12_readWord_188 (Nat.le_refl _) (Nat.le_refl _) ⟨rfl, hq⟩
  · replace hq := hq.2 c1
    refine lv_iconst (v := 1) hx hb dX12_readWord_172 (by decide) ?_
    refine lv_goto (tgt := 185) hx hb dX12_readWord_173 (by decide) ?_
    obtain ⟨h9, hq⟩ := hq
    refine pfX12_143 C hw hw.2.2.1 h9 dX12_readWord_185 (fun H locs hw => ?_)
    generalize e11 : uI M s0 6 1 = M10 at hw
    replace hq := hq M10 e11.symm
    exact r_vret C hr hlk hw dX12_readWord_188 (Nat.le_refl _) (Nat.le_refl _) ⟨rfl, hq⟩
set_option maxHeartbeats 4000000 in
set_option maxRecDepth 100000 in
theorem lt_X12_readWord_144 {l : Launch} {g : Gh} {p : Program} {e : Env} {s : State} {m : MethodId} {args : Array Value} {below : List Frame} {meth : Method} {c : Code} {H : Heap} {locs : List Loc} {ls : Array Slot} {M0 M : Mem} {a0 : Nat} {post : Mem → Prop} {x1 : Int32} {x2 : Int32}   (C : Cx g p s m args c cX12_readWord 4 RX12) (hr : meth.sig.returnType = none) (hlk : meth.locks = false) (hn : meth.name = "readWord") (h0 : okc (gB g) M0 a0 12)  (hq : lb_X12_readWord_144  g M0 a0 post  x1 x2 M) (hw : Wd g s M0 M H locs) (hl : lv_has ls 4 [(0, .ref a0), (1, .int x1), (2, .int x2)]) : W p l e (rmo 1 0 0) s m args below meth c H locs 0 0 (MQ below (Cq g M0 (pV post)) args s 0 0 (gA g)) (F0 m 144 ls []) := by
  have hx := C.1.1
  have hb := C.1.2.1
  unfold lb_X12_readWord_144 at hq
  refine lv_aload_n hx hb dX12_readWord_144 rfl (lv_at hl 0 rfl) ?_
  refine lv_iload_n hx hb dX12_readWord_145 rfl (lv_at hl 2 rfl) ?_
  refine lv_if_eq (tgt := 172) hx hb dX12_readWord_146 (by decide) (fun c12 => ?_) (fun c12 => ?_)
  · replace hq := hq.1 c12
    refine lv_iconst (v := 1) hx hb dX12_readWord_172 (by decide) ?_
    refine lv_goto (tgt := 185) hx hb dX12_readWord_173 (by decide) ?_
    refine pfX12_143 C hw hw.2.2.1 h0 dX12_readWord_185 (fun H locs hw => ?_)
    generalize e14 : uI M a0 6 1 = M13 at hw
    replace hq := hq M13 e14.symm
    exact r_vret C hr hlk hw dX12_readWord_188 (Nat.le_refl _) (Nat.le_refl _) ⟨rfl, hq⟩
  · replace hq := hq.2 c12
    refine lv_aload_n hx hb dX12_readWord_149 rfl (lv_at hl 0 rfl) ?_
    refine gfX12_137 C hw hw.2.2.1 h0 dX12_readWord_150 ?_
    refine lv_aload_n hx hb dX12_readWord_153 rfl (lv_at hl 0 rfl) ?_
    refine gfX12_140 C hw hw.2.2.1 h0 dX12_readWord_154 ?_
    refine lv_isub hx hb dX12_readWord_157 ?_
    refine lv_iload_n hx hb dX12_readWord_158 rfl (lv_at hl 1 rfl) ?_
    refine lv_if_eq (tgt := 167) hx hb dX12_readWord_159 (by decide) (fun c15 => ?_) (fun c15 => ?_)
    · replace hq := hq.1 c15
      refine lv_bipush (v := 6) hx hb dX12_readWord_167 (by decide) ?_
      exact lt_X12_readWord_169  C hr hlk hn h0  hq hw (lv_sub hl [0, 1] rfl)
    · replace hq := hq.2 c15
      refine lv_bipush (v := 12) hx hb dX12_readWord_162 (by decide) ?_
      refine lv_goto (tgt := 169) hx hb dX12_readWord_164 (by decide) ?_
      exact lt_X12_readWord_169  C hr hlk hn h0  hq hw (lv_sub hl [0, 1] rfl)
set_option maxHeartbeats 4000000 in
set_option maxRecDepth 100000 in
theorem lt_X12_readWord_128 {l : Launch} {g : Gh} {p : Program} {e : Env} {s : State} {m : MethodId} {args : Array Value} {below : List Frame} {meth : Method} {c : Code} {H : Heap} {locs : List Loc} {ls : Array Slot} {M0 M : Mem} {a0 : Nat} {post : Mem → Prop} {x1 : Int32} {x2 : Int32} {s0 : Nat} {s1 : Int64}  (C : Cx g p s m args c cX12_readWord 4 RX12) (hr : meth.sig.returnType = none) (hlk : meth.locks = false) (hn : meth.name = "readWord") (h0 : okc (gB g) M0 a0 12) {bk20 : Int32 × Int32 × Mem → Prop} (hk20 : ∀ (x1 : Int32) (x2 : Int32) (M : Mem) (H : Heap) (locs : List Loc) (ls : Array Slot), bk20 (x1, x2, M) → Wd g s M0 M H locs → lv_has ls 4 [(0, .ref a0), (1, .int x1), (2, .int x2)] → W p l e (rmo 1 0 0) s m args below meth c H locs 0 0 (MQ below (Cq g M0 (pV post)) args s 0 0 (gA g)) (F0 m 20 ls [])) (hq : lb_X12_readWord_128  g M0 a0 post bk20 x1 x2 s0 s1 M) (hw : Wd g s M0 M H locs) (hl : lv_has ls 4 [(0, .ref a0), (1, .int x1), (2, .int x2)]) : W p l e (rmo 1 0 0) s m args below meth c H locs 0 0 (MQ below (Cq g M0 (pV post)) args s 0 0 (gA g)) (F0 m 128 ls [.long s1, .ref s0]) := by
  have hx := C.1.1
  have hb := C.1.2.1
  unfold lb_X12_readWord_128 at hq
  obtain ⟨h16, hq⟩ := hq
  refine pfX12_163 C hw hw.2.2.1 h16 dX12_readWord_128 (fun H locs hw => ?_)
  generalize e18 : uJ M s0 8 s1 = M17 at hw
  replace hq := hq M17 e18.symm
  refine lv_aload_n hx hb dX12_readWord_131 rfl (lv_at hl 0 rfl) ?_
  refine lv_dup hx hb dX12_readWord_132 rfl ?_
  refine gfX12_137 C hw hw.2.2.1 h0 dX12_readWord_133 ?_
  refine lv_iconst (v := 1) hx hb dX12_readWord_136 (by decide) ?_
  refine lv_iadd hx hb dX12_readWord_137 ?_
  refine pfX12_137 C hw hw.2.2.1 h0 dX12_readWord_138 (fun H locs hw => ?_)
  generalize e20 : uI M17 a0 4 ((mI M17 a0 4) + 1) = M19 at hw
  replace hq := hq M19 e20.symm
  refine lv_goto (tgt := 20) hx hb dX12_readWord_141 (by decide) ?_
  exact hk20 _ _ _ _ _ _ hq hw (lv_sub hl [0, 1, 2] rfl)
set_option maxHeartbeats 4000000 in
set_option maxRecDepth 100000 in
theorem lt_X12_readWord_75 {l : Launch} {g : Gh} {p : Program} {e : Env} {s : State} {m : MethodId} {args : Array Value} {below : List Frame} {meth : Method} {c : Code} {H : Heap} {locs : List Loc} {ls : Array Slot} {M0 M : Mem} {a0 : Nat} {post : Mem → Prop} {x1 : Int32} {x3 : Int32} {s0 : Int32}  (C : Cx g p s m args c cX12_readWord 4 RX12) (hr : meth.sig.returnType = none) (hlk : meth.locks = false) (hn : meth.name = "readWord") (h0 : okc (gB g) M0 a0 12) {bk20 : Int32 × Int32 × Mem → Prop} (hk20 : ∀ (x1 : Int32) (x2 : Int32) (M : Mem) (H : Heap) (locs : List Loc) (ls : Array Slot), bk20 (x1, x2, M) → Wd g s M0 M H locs → lv_has ls 4 [(0, .ref a0), (1, .int x1), (2, .int x2)] → W p l e (rmo 1 0 0) s m args below meth c H locs 0 0 (MQ below (Cq g M0 (pV post)) args s 0 0 (gA g)) (F0 m 20 ls [])) (hq : lb_X12_readWord_75  g M0 a0 post bk20 x1 x3 s0 M) (hw : Wd g s M0 M H locs) (hl : lv_has ls 4 [(0, .ref a0), (1, .int x1), (3, .int x3)]) : W p l e (rmo 1 0 0) s m args below meth c H locs 0 0 (MQ below (Cq g M0 (pV post)) args s 0 0 (gA g)) (F0 m 75 ls [.int s0]) := by
  have hx := C.1.1
  have hb := C.1.2.1
  unfold lb_X12_readWord_75 at hq
  refine lv_istore_n (lv' := [(2, .int s0), (0, .ref a0), (1, .int x1), (3, .int x3)]) hx hb dX12_readWord_75 rfl hl (by decide) rfl (fun ls hl => ?_)
  refine lv_aload_n hx hb dX12_readWord_76 rfl (lv_at hl 1 rfl) ?_
  refine gfX12_137 C hw hw.2.2.1 h0 dX12_readWord_77 ?_
  refine lv_aload_n hx hb dX12_readWord_80 rfl (lv_at hl 1 rfl) ?_
  refine gfX12_140 C hw hw.2.2.1 h0 dX12_readWord_81 ?_
  refine lv_isub hx hb dX12_readWord_84 ?_
  refine lv_bipush (v := 12) hx hb dX12_readWord_85 (by decide) ?_
  refine lv_icmp_ge (tgt := 131) hx hb dX12_readWord_87 (by decide) (fun c21 => ?_) (fun c21 => ?_)
  · replace hq := hq.1 c21
    refine lv_aload_n hx hb dX12_readWord_131 rfl (lv_at hl 1 rfl) ?_
    refine lv_dup hx hb dX12_readWord_132 rfl ?_
    refine gfX12_137 C hw hw.2.2.1 h0 dX12_readWord_133 ?_
    refine lv_iconst (v := 1) hx hb dX12_readWord_136 (by decide) ?_
    refine lv_iadd hx hb dX12_readWord_137 ?_
    refine pfX12_137 C hw hw.2.2.1 h0 dX12_readWord_138 (fun H locs hw => ?_)
    generalize e23 : uI M a0 4 ((mI M a0 4) + 1) = M22 at hw
    replace hq := hq M22 e23.symm
    refine lv_goto (tgt := 20) hx hb dX12_readWord_141 (by decide) ?_
    exact hk20 _ _ _ _ _ _ hq hw (lv_sub hl [1, 2, 0] rfl)
  · replace hq := hq.2 c21
    refine lv_aload_n hx hb dX12_readWord_90 rfl (lv_at hl 1 rfl) ?_
    refine lv_iload_n hx hb dX12_readWord_91 rfl (lv_at hl 2 rfl) ?_
    refine lv_if_eq (tgt := 113) hx hb dX12_readWord_92 (by decide) (fun c24 => ?_) (fun c24 => ?_)
    · replace hq := hq.1 c24
      refine lv_ldc2 (v := 10) hx hb C.1.2.2.2.1 (C.1.2.2.2.2 _ w_1395) dX12_readWord_113 ?_
      refine lv_aload_n hx hb dX12_readWord_116 rfl (lv_at hl 1 rfl) ?_
      refine gfX12_163 C hw hw.2.2.1 h0 dX12_readWord_117 ?_
      refine lv_lmul hx hb dX12_readWord_120 ?_
      refine lv_iload_n hx hb dX12_readWord_121 rfl (lv_at hl 3 rfl) ?_
      refine lv_i2l (v := (Int32.toInt64 x3)) hx hb dX12_readWord_122 rfl ?_
      refine lv_ladd hx hb dX12_readWord_123 ?_
      refine lv_ldc2 (v := 48) hx hb C.1.2.2.2.1 (C.1.2.2.2.2 _ w_1396) dX12_readWord_124 ?_
      refine lv_lsub hx hb dX12_readWord_127 ?_
      exact lt_X12_readWord_128  C hr hlk hn h0 hk20 hq hw (lv_sub hl [1, 2, 0] rfl)
    · replace hq := hq.2 c24
      refine lv_ldc2 (v := 27) hx hb C.1.2.2.2.1 (C.1.2.2.2.2 _ w_1393) dX12_readWord_95 ?_
      refine lv_aload_n hx hb dX12_readWord_98 rfl (lv_at hl 1 rfl) ?_
      refine gfX12_163 C hw hw.2.2.1 h0 dX12_readWord_99 ?_
      refine lv_lmul hx hb dX12_readWord_102 ?_
      refine lv_iload_n hx hb dX12_readWord_103 rfl (lv_at hl 3 rfl) ?_
      refine lv_i2l (v := (Int32.toInt64 x3)) hx hb dX12_readWord_104 rfl ?_
      refine lv_ladd hx hb dX12_readWord_105 ?_
      refine lv_ldc2 (v := 96) hx hb C.1.2.2.2.1 (C.1.2.2.2.2 _ w_1394) dX12_readWord_106 ?_
      refine lv_lsub hx hb dX12_readWord_109 ?_
      refine lv_goto (tgt := 128) hx hb dX12_readWord_110 (by decide) ?_
      exact lt_X12_readWord_128  C hr hlk hn h0 hk20 hq hw (lv_sub hl [1, 2, 0] rfl)
set_option maxHeartbeats 4000000 in
set_option maxRecDepth 100000 in
theorem lt_X12_readWord_48 {l : Launch} {g : Gh} {p : Program} {e : Env} {s : State} {m : MethodId} {args : Array Value} {below : List Frame} {meth : Method} {c : Code} {H : Heap} {locs : List Loc} {ls : Array Slot} {M0 M : Mem} {a0 : Nat} {post : Mem → Prop} {x1 : Int32} {x2 : Int32}   (C : Cx g p s m args c cX12_readWord 4 RX12) (hr : meth.sig.returnType = none) (hlk : meth.locks = false) (hn : meth.name = "readWord") (h0 : okc (gB g) M0 a0 12) {bk20 : Int32 × Int32 × Mem → Prop} (hk20 : ∀ (x1 : Int32) (x2 : Int32) (M : Mem) (H : Heap) (locs : List Loc) (ls : Array Slot), bk20 (x1, x2, M) → Wd g s M0 M H locs → lv_has ls 4 [(0, .ref a0), (1, .int x1), (2, .int x2)] → W p l e (rmo 1 0 0) s m args below meth c H locs 0 0 (MQ below (Cq g M0 (pV post)) args s 0 0 (gA g)) (F0 m 20 ls [])) (hq : lb_X12_readWord_48  g M0 a0 post bk20 x1 x2 M) (hw : Wd g s M0 M H locs) (hl : lv_has ls 4 [(0, .ref a0), (1, .int x1), (2, .int x2)]) : W p l e (rmo 1 0 0) s m args below meth c H locs 0 0 (MQ below (Cq g M0 (pV post)) args s 0 0 (gA g)) (F0 m 48 ls []) := by
  have hx := C.1.1
  have hb := C.1.2.1
  unfold lb_X12_readWord_48 at hq
  refine lv_aload_n hx hb dX12_readWord_48 rfl (lv_at hl 0 rfl) ?_
  obtain ⟨q25, e26, hq⟩ := hq
  refine gfX12_7 C hw hw.2.2.1 h0 e26 dX12_readWord_49 ?_
  refine lv_aload_n hx hb dX12_readWord_52 rfl (lv_at hl 0 rfl) ?_
  refine gfX12_137 C hw hw.2.2.1 h0 dX12_readWord_53 ?_
  obtain ⟨h27, hq⟩ := hq
  obtain ⟨h28, hq⟩ := hq
  refine q_iald C hw hw.2.2.1 h27 h28 dX12_readWord_56 ?_
  refine lv_istore_n (lv' := [(3, .int (mI M q25 (Int32.toNatClampNeg (mI M a0 4)))), (0, .ref a0), (1, .int x1), (2, .int x2)]) hx hb dX12_readWord_57 rfl hl (by decide) rfl (fun ls hl => ?_)
  refine lv_iload_n hx hb dX12_readWord_58 rfl (lv_at hl 3 rfl) ?_
  refine lv_if_eq (tgt := 74) hx hb dX12_readWord_59 (by decide) (fun c29 => ?_) (fun c29 => ?_)
  · replace hq := hq.1 c29
    refine lv_iconst (v := 0) hx hb dX12_readWord_74 (by decide) ?_
    exact lt_X12_readWord_75  C hr hlk hn h0 hk20 hq hw (lv_sub hl [1, 2, 0] rfl)
  · replace hq := hq.2 c29
    refine lv_iload_n hx hb dX12_readWord_62 rfl (lv_at hl 0 rfl) ?_
    refine r_callS (index := 146) (n := 1) (d2 := 0) (mc := 0) (ms := 0) (As := [.int (mI M q25 (Int32.toNatClampNeg (mI M a0 4)))]) (rest := []) C hw (ct_X12_isLetter hq) ksX12_146 ⟨by decide, by decide⟩ ⟨by decide, by decide⟩ rfl hl.1 rfl (Nat.le_of_ble_eq_true rfl) dX12_readWord_63 (fun r M31 H locs hp hle hw => ?_)
    obtain ⟨v30, rfl, hq⟩ := hp
    refine W.eq (g2 := F0 m 66 ls [.int v30]) rfl ?_
    refine lv_iload_n hx hb dX12_readWord_66 rfl (lv_at hl 2 rfl) ?_
    refine lv_icmp_ne (tgt := 74) hx hb dX12_readWord_67 (by decide) (fun c32 => ?_) (fun c32 => ?_)
    · replace hq := hq.2 c32
      refine lv_iconst (v := 0) hx hb dX12_readWord_74 (by decide) ?_
      exact lt_X12_readWord_75  C hr hlk hn h0 hk20 hq hw (lv_sub hl [1, 2, 0] rfl)
    · replace hq := hq.1 c32
      refine lv_iconst (v := 1) hx hb dX12_readWord_70 (by decide) ?_
      refine lv_goto (tgt := 75) hx hb dX12_readWord_71 (by decide) ?_
      exact lt_X12_readWord_75  C hr hlk hn h0 hk20 hq hw (lv_sub hl [1, 2, 0] rfl)
set_option maxHeartbeats 4000000 in
set_option maxRecDepth 100000 in
theorem lp_X12_readWord_20 {l : Launch} {g : Gh} {p : Program} {e : Env} {s : State} {m : MethodId} {args : Array Value} {below : List Frame} {meth : Method} {c : Code} {M0 : Mem} {a0 : Nat} {post : Mem → Prop}  (C : Cx g p s m args c cX12_readWord 4 RX12) (hr : meth.sig.returnType = none) (hlk : meth.locks = false) (hn : meth.name = "readWord") (h0 : okc (gB g) M0 a0 12)  : ∀ (nf : Nat) (x1 : Int32) (x2 : Int32)  (M : Mem) (H : Heap) (locs : List Loc) (ls : Array Slot), lfp (fun bk z => bd_X12_readWord_20  g M0 a0 post  bk z.1 z.2.1 z.2.2) nf (x1, x2, M) → Wd g s M0 M H locs → lv_has ls 4 [(0, .ref a0), (1, .int x1), (2, .int x2)] → W p l e (rmo 1 0 0) s m args below meth c H locs 0 0 (MQ below (Cq g M0 (pV post)) args s 0 0 (gA g)) (F0 m 20 ls []) := by
  have hx := C.1.1
  have hb := C.1.2.1
  intro nf
  induction nf with
  | zero => intro _ _ _ H locs ls hq; exact hq.elim
  | succ nf hk20 =>
    intro x1 x2 M H locs ls hq hw hl
    replace hq : bd_X12_readWord_20  g M0 a0 post  (lfp (fun bk z => bd_X12_readWord_20  g M0 a0 post  bk z.1 z.2.1 z.2.2) nf) x1 x2 M := hq
    unfold bd_X12_readWord_20 at hq
    refine lv_aload_n hx hb dX12_readWord_20 rfl (lv_at hl 0 rfl) ?_
    refine lv_aload_n hx hb dX12_readWord_21 rfl (lv_at hl 0 rfl) ?_
    refine gfX12_137 C hw hw.2.2.1 h0 dX12_readWord_22 ?_
    refine r_callV (T := TX12) (N := 67) (ci := 12) (index := 159) (n := 1) (d2 := 0) (mc := 0) (ms := 0) (As := [.int (mI M a0 4)]) (rest := []) C hw (ct_X12_at hq) kvX12_159 hq.1 (by decide) rfl ⟨by decide, by decide⟩ ⟨by decide, by decide⟩ rfl hl.1 rfl (Nat.le_of_ble_eq_true rfl) dX12_readWord_25 (fun r M34 H locs hp hle hw => ?_)
    obtain ⟨v33, rfl, hq⟩ := hp
    refine W.eq (g2 := F0 m 28 ls [.int v33]) rfl ?_
    refine r_callS (index := 146) (n := 1) (d2 := 0) (mc := 0) (ms := 0) (As := [.int v33]) (rest := []) C hw (ct_X12_isLetter hq) ksX12_146 ⟨by decide, by decide⟩ ⟨by decide, by decide⟩ rfl hl.1 rfl (Nat.le_of_ble_eq_true rfl) dX12_readWord_28 (fun r M36 H locs hp hle hw => ?_)
    obtain ⟨v35, rfl, hq⟩ := hp
    refine W.eq (g2 := F0 m 31 ls [.int v35]) rfl ?_
    refine lv_if_ne (tgt := 48) hx hb dX12_readWord_31 (by decide) (fun c37 => ?_) (fun c37 => ?_)
    · replace hq := hq.2 c37
      exact lt_X12_readWord_48  C hr hlk hn h0 hk20 hq hw (lv_sub hl [0, 1, 2] rfl)
    · replace hq := hq.1 c37
      refine lv_aload_n hx hb dX12_readWord_34 rfl (lv_at hl 0 rfl) ?_
      refine lv_aload_n hx hb dX12_readWord_35 rfl (lv_at hl 0 rfl) ?_
      refine gfX12_137 C hw hw.2.2.1 h0 dX12_readWord_36 ?_
      refine r_callV (T := TX12) (N := 67) (ci := 12) (index := 159) (n := 1) (d2 := 0) (mc := 0) (ms := 0) (As := [.int (mI M36 a0 4)]) (rest := []) C hw (ct_X12_at hq) kvX12_159 hq.1 (by decide) rfl ⟨by decide, by decide⟩ ⟨by decide, by decide⟩ rfl hl.1 rfl (Nat.le_of_ble_eq_true rfl) dX12_readWord_39 (fun r M39 H locs hp hle hw => ?_)
      obtain ⟨v38, rfl, hq⟩ := hp
      refine W.eq (g2 := F0 m 42 ls [.int v38]) rfl ?_
      refine r_callS (index := 150) (n := 1) (d2 := 0) (mc := 0) (ms := 0) (As := [.int v38]) (rest := []) C hw (ct_X12_isDigit hq) ksX12_150 ⟨by decide, by decide⟩ ⟨by decide, by decide⟩ rfl hl.1 rfl (Nat.le_of_ble_eq_true rfl) dX12_readWord_42 (fun r M41 H locs hp hle hw => ?_)
      obtain ⟨v40, rfl, hq⟩ := hp
      refine W.eq (g2 := F0 m 45 ls [.int v40]) rfl ?_
      refine lv_if_eq (tgt := 144) hx hb dX12_readWord_45 (by decide) (fun c42 => ?_) (fun c42 => ?_)
      · replace hq := hq.1 c42
        exact lt_X12_readWord_144  C hr hlk hn h0  hq hw (lv_sub hl [0, 1, 2] rfl)
      · replace hq := hq.2 c42
        exact lt_X12_readWord_48  C hr hlk hn h0 hk20 hq hw (lv_sub hl [0, 1, 2] rfl)
set_option maxHeartbeats 4000000 in
set_option maxRecDepth 100000 in
theorem ct_X12_readWord {l : Launch} {g : Gh} {M0 : Mem} {a0 : Nat} {post : Mem → Prop}  (hq : wp_X12_readWord  g M0 a0 post) : Ct l g yX12_readWord cX12_readWord 4 none 1 0 0 [.ref a0] M0 (pV post) := by
  unfold wp_X12_readWord at hq
  obtain ⟨h0, hq⟩ := hq
  refine Ct.of (by decide) (Nat.le_of_ble_eq_true rfl) ?_
  intro p e s m below meth c ls C hr hlk hn hl hw
  have hx := C.1.1
  have hb := C.1.2.1
  have hl : lv_has ls 4 [(0, .ref a0)] := hl
  refine lv_aload_n hx hb dX12_readWord_0 rfl (lv_at hl 0 rfl) ?_
  obtain ⟨q43, e44, hq⟩ := hq
  refine gfX12_7 C hw hw.2.2.1 h0 e44 dX12_readWord_1 ?_
  refine lv_aload_n hx hb dX12_readWord_4 rfl (lv_at hl 0 rfl) ?_
  refine gfX12_137 C hw hw.2.2.1 h0 dX12_readWord_5 ?_
  obtain ⟨h45, hq⟩ := hq
  obtain ⟨h46, hq⟩ := hq
  refine q_iald C hw hw.2.2.1 h45 h46 dX12_readWord_8 ?_
  refine r_callS (index := 146) (n := 1) (d2 := 0) (mc := 0) (ms := 0) (As := [.int (mI M0 q43 (Int32.toNatClampNeg (mI M0 a0 4)))]) (rest := []) C hw (ct_X12_isLetter hq) ksX12_146 ⟨by decide, by decide⟩ ⟨by decide, by decide⟩ rfl hl.1 rfl (Nat.le_of_ble_eq_true rfl) dX12_readWord_9 (fun r M48 H locs hp hle hw => ?_)
  obtain ⟨v47, rfl, hq⟩ := hp
  refine W.eq (g2 := F0 m 12 ls [.int v47]) rfl ?_
  refine lv_istore_n (lv' := [(1, .int v47), (0, .ref a0)]) hx hb dX12_readWord_12 rfl hl (by decide) rfl (fun ls hl => ?_)
  refine lv_iconst (v := 1) hx hb dX12_readWord_13 (by decide) ?_
  refine lv_istore_n (lv' := [(2, .int 1), (1, .int v47), (0, .ref a0)]) hx hb dX12_readWord_14 rfl hl (by decide) rfl (fun ls hl => ?_)
  refine lv_aload_n hx hb dX12_readWord_15 rfl (lv_at hl 2 rfl) ?_
  refine lv_lconst (v := 0) hx hb dX12_readWord_16 (by decide) ?_
  refine pfX12_163 C hw hw.2.2.1 h0 dX12_readWord_17 (fun H locs hw => ?_)
  generalize e50 : uJ M48 a0 8 0 = M49 at hw
  replace hq := hq M49 e50.symm
  obtain ⟨nf, hq⟩ := hq
  exact lp_X12_readWord_20  C hr hlk hn h0  nf _ _ _ _ _ _ hq hw (lv_sub hl [2, 1, 0] rfl)

set_option maxRecDepth 100000 in
def lb_X12_go_247  (g : Gh) (M0 : Mem) (a0 : Nat) (p1 : Int32) (post : Mem → Prop)  (x3 : Int32)  (M : Mem) : Prop :=
  ((x3 = 0) → ∀ M2, M2 = uI M a0 6 1 → (post M2)) ∧ (¬ (x3 = 0) → ∀ M4, M4 = uI M a0 6 4 → (post M4))
set_option maxRecDepth 100000 in
def lb_X12_go_196  (g : Gh) (M0 : Mem) (a0 : Nat) (p1 : Int32) (post : Mem → Prop)  (x2 : Int32) (s0 : Int32) (M : Mem) : Prop :=
  ∀ M6, M6 = uI M a0 7 x2 → (∀ M8, M8 = uI M6 a0 4 ((mI M6 a0 4) + 1) → (((p1 = 0) → lb_X12_go_247  g M0 a0 p1 post  s0 M8) ∧ (¬ (p1 = 0) → ((x2 = 46) → wp_X12_at g M8 a0 (mI M8 a0 4) (fun v12 M13 => ((v12 = 46) → ∀ M15, M15 = uI M13 a0 4 ((mI M13 a0 4) + 1) → (lb_X12_go_247  g M0 a0 p1 post  1 M15)) ∧ (¬ (v12 = 46) → lb_X12_go_247  g M0 a0 p1 post  s0 M13))) ∧ (¬ (x2 = 46) → lb_X12_go_247  g M0 a0 p1 post  s0 M8))))
set_option maxRecDepth 100000 in
def lb_X12_go_79  (g : Gh) (M0 : Mem) (a0 : Nat) (p1 : Int32) (post : Mem → Prop)    (M : Mem) : Prop :=
  (((mI M a0 4) < (mI M a0 3)) → ∃ q18, mR M a0 1 = some q18 ∧ (okc (gB g) M0 q18 14 ∧ (vp_in (mI M a0 4) (mN M0 q18) ∧ (wp_X12_isLetter g M (mI M q18 (Int32.toNatClampNeg (mI M a0 4))) (fun v22 M23 => ((v22 = 0) → wp_X12_isDigit g M23 (mI M q18 (Int32.toNatClampNeg (mI M a0 4))) (fun v27 M28 => ((v27 = 0) → ((p1 = 0) → (((mI M q18 (Int32.toNatClampNeg (mI M a0 4))) = 59) → lb_X12_go_196  g M0 a0 p1 post  (mI M q18 (Int32.toNatClampNeg (mI M a0 4))) 1 M28) ∧ (¬ ((mI M q18 (Int32.toNatClampNeg (mI M a0 4))) = 59) → lb_X12_go_196  g M0 a0 p1 post  (mI M q18 (Int32.toNatClampNeg (mI M a0 4))) 0 M28)) ∧ (¬ (p1 = 0) → (((mI M q18 (Int32.toNatClampNeg (mI M a0 4))) = 124) → lb_X12_go_196  g M0 a0 p1 post  (mI M q18 (Int32.toNatClampNeg (mI M a0 4))) 1 M28) ∧ (¬ ((mI M q18 (Int32.toNatClampNeg (mI M a0 4))) = 124) → (((mI M q18 (Int32.toNatClampNeg (mI M a0 4))) = 91) → lb_X12_go_196  g M0 a0 p1 post  (mI M q18 (Int32.toNatClampNeg (mI M a0 4))) 1 M28) ∧ (¬ ((mI M q18 (Int32.toNatClampNeg (mI M a0 4))) = 91) → (((mI M q18 (Int32.toNatClampNeg (mI M a0 4))) = 93) → lb_X12_go_196  g M0 a0 p1 post  (mI M q18 (Int32.toNatClampNeg (mI M a0 4))) 1 M28) ∧ (¬ ((mI M q18 (Int32.toNatClampNeg (mI M a0 4))) = 93) → (((mI M q18 (Int32.toNatClampNeg (mI M a0 4))) = 40) → lb_X12_go_196  g M0 a0 p1 post  (mI M q18 (Int32.toNatClampNeg (mI M a0 4))) 1 M28) ∧ (¬ ((mI M q18 (Int32.toNatClampNeg (mI M a0 4))) = 40) → (((mI M q18 (Int32.toNatClampNeg (mI M a0 4))) = 41) → lb_X12_go_196  g M0 a0 p1 post  (mI M q18 (Int32.toNatClampNeg (mI M a0 4))) 1 M28) ∧ (¬ ((mI M q18 (Int32.toNatClampNeg (mI M a0 4))) = 41) → (((mI M q18 (Int32.toNatClampNeg (mI M a0 4))) = 123) → lb_X12_go_196  g M0 a0 p1 post  (mI M q18 (Int32.toNatClampNeg (mI M a0 4))) 1 M28) ∧ (¬ ((mI M q18 (Int32.toNatClampNeg (mI M a0 4))) = 123) → (((mI M q18 (Int32.toNatClampNeg (mI M a0 4))) = 125) → lb_X12_go_196  g M0 a0 p1 post  (mI M q18 (Int32.toNatClampNeg (mI M a0 4))) 1 M28) ∧ (¬ ((mI M q18 (Int32.toNatClampNeg (mI M a0 4))) = 125) → (((mI M q18 (Int32.toNatClampNeg (mI M a0 4))) = 44) → lb_X12_go_196  g M0 a0 p1 post  (mI M q18 (Int32.toNatClampNeg (mI M a0 4))) 1 M28) ∧ (¬ ((mI M q18 (Int32.toNatClampNeg (mI M a0 4))) = 44) → lb_X12_go_196  g M0 a0 p1 post  (mI M q18 (Int32.toNatClampNeg (mI M a0 4))) 0 M28)))))))))) ∧ (¬ (v27 = 0) → wp_X12_readWord g M28 a0 (fun M41 => post M41)))) ∧ (¬ (v22 = 0) → wp_X12_readWord g M23 a0 (fun M26 => post M26))))))) ∧ (¬ ((mI M a0 4) < (mI M a0 3)) → ∀ M42, M42 = uI M a0 6 0 → (post M42))
set_option maxRecDepth 100000 in
def lb_X12_go_38  (g : Gh) (M0 : Mem) (a0 : Nat) (p1 : Int32) (post : Mem → Prop)    (M : Mem) : Prop :=
  ∀ M44, M44 = uI M a0 5 (mI M a0 4) → ((((mI M44 a0 3) ≤ 200) → lb_X12_go_79  g M0 a0 p1 post   M44) ∧ (¬ ((mI M44 a0 3) ≤ 200) → (((mI M44 a0 5) < 200) → lb_X12_go_79  g M0 a0 p1 post   M44) ∧ (¬ ((mI M44 a0 5) < 200) → ∀ M48, M48 = uI M44 a0 5 200 → (∀ M50, M50 = uI M48 a0 6 1 → (post M50)))))
set_option maxRecDepth 100000 in
def bd_X12_go_0  (g : Gh) (M0 : Mem) (a0 : Nat) (p1 : Int32) (post : Mem → Prop)  (bk0 : Mem → Prop)   (M : Mem) : Prop :=
  (((mI M a0 3) ≤ (mI M a0 4)) → lb_X12_go_38  g M0 a0 p1 post   M) ∧ (¬ ((mI M a0 3) ≤ (mI M a0 4)) → ∃ q53, mR M a0 1 = some q53 ∧ (okc (gB g) M0 q53 14 ∧ (vp_in (mI M a0 4) (mN M0 q53) ∧ ((((mI M q53 (Int32.toNatClampNeg (mI M a0 4))) = 32) → ∀ M58, M58 = uI M a0 4 ((mI M a0 4) + 1) → (bk0 (M58))) ∧ (¬ ((mI M q53 (Int32.toNatClampNeg (mI M a0 4))) = 32) → lb_X12_go_38  g M0 a0 p1 post   M)))))
set_option maxRecDepth 100000 in
def wp_X12_go  (g : Gh) (M0 : Mem) (a0 : Nat) (p1 : Int32) (post : Mem → Prop) : Prop :=
  okc (gB g) M0 a0 12 ∧ ((∃ n : Nat, lfp (fun bk z => bd_X12_go_0  g M0 a0 p1 post  bk z) n (M0)))
set_option maxHeartbeats 4000000 in
set_option maxRecDepth 100000 in
theorem lt_X12_go_247 {l : Launch} {g : Gh} {p : Program} {e : Env} {s : State} {m : MethodId} {args : Array Value} {below : List Frame} {meth : Method} {c : Code} {H : Heap} {locs : List Loc} {ls : Array Slot} {M0 M : Mem} {a0 : Nat} {p1 : Int32} {post : Mem → Prop} {x3 : Int32}   (C : Cx g p s m args c cX12_go 4 RX12) (hr : meth.sig.returnType = none) (hlk : meth.locks = false) (hn : meth.name = "go") (h0 : okc (gB g) M0 a0 12)  (hq : lb_X12_go_247  g M0 a0 p1 post  x3 M) (hw : Wd g s M0 M H locs) (hl : lv_has ls 4 [(0, .ref a0), (1, .int p1), (3, .int x3)]) : W p l e (rmo 2 0 0) s m args below meth c H locs 0 0 (MQ below (Cq g M0 (pV post)) args s 0 0 (gA g)) (F0 m 247 ls []) := by
  have hx := C.1.1
  have hb := C.1.2.1
  unfold lb_X12_go_247 at hq
  refine lv_aload_n hx hb dX12_go_247 rfl (lv_at hl 0 rfl) ?_
  refine lv_iload_n hx hb dX12_go_248 rfl (lv_at hl 2 rfl) ?_
  refine lv_if_eq (tgt := 256) hx hb dX12_go_249 (by decide) (fun c1 => ?_) (fun c1 => ?_)
  · replace hq := hq.1 c1
    refine lv_iconst (v := 1) hx hb dX12_go_256 (by decide) ?_
    refine pfX12_143 C hw hw.2.2.1 h0 dX12_go_257 (fun H locs hw => ?_)
    generalize e3 : uI M a0 6 1 = M2 at hw
    replace hq := hq M2 e3.symm
    exact r_vret C hr hlk hw dX12_go_260 (Nat.le_refl _) (Nat.le_refl _) ⟨rfl, hq⟩
  · replace hq := hq.2 c1
    refine lv_iconst (v := 4) hx hb dX12_go_252 (by decide) ?_
    refine lv_goto (tgt := 257) hx hb dX12_go_253 (by decide) ?_
    refine pfX12_143 C hw hw.2.2.1 h0 dX12_go_257 (fun H locs hw => ?_)
    generalize e5 : uI M a0 6 4 = M4 at hw
    replace hq := hq M4 e5.symm
    exact r_vret C hr hlk hw dX12_go_260 (Nat.le_refl _) (Nat.le_refl _) ⟨rfl, hq⟩
set_option maxHeartbeats 4000000 in
set_option maxRecDepth 100000 in
theorem lt_X12_go_196 {l : Launch} {g : Gh} {p : Program} {e : Env} {s : State} {m : MethodId} {args : Array Value} {below : List Frame} {meth : Method} {c : Code} {H : Heap} {locs : List Loc} {ls : Array Slot} {M0 M : Mem} {a0 : Nat} {p1 : Int32} {post : Mem → Prop} {x2 : Int32} {s0 : Int32}  (C : Cx g p s m args c cX12_go 4 RX12) (hr : meth.sig.returnType = none) (hlk : meth.locks = false) (hn : meth.name = "go") (h0 : okc (gB g) M0 a0 12)  (hq : lb_X12_go_196  g M0 a0 p1 post  x2 s0 M) (hw : Wd g s M0 M H locs) (hl : lv_has ls 4 [(0, .ref a0), (1, .int p1), (2, .int x2)]) : W p l e (rmo 2 0 0) s m args below meth c H locs 0 0 (MQ below (Cq g M0 (pV post)) args s 0 0 (gA g)) (F0 m 196 ls [.int s0]) := by
  have hx := C.1.1
  have hb := C.1.2.1
  unfold lb_X12_go_196 at hq
  refine lv_istore_n (lv' := [(3, .int s0), (0, .ref a0), (1, .int p1), (2, .int x2)]) hx hb dX12_go_196 rfl hl (by decide) rfl (fun ls hl => ?_)
  refine lv_aload_n hx hb dX12_go_197 rfl (lv_at hl 1 rfl) ?_
  refine lv_iload_n hx hb dX12_go_198 rfl (lv_at hl 3 rfl) ?_
  refine pfX12_156 C hw hw.2.2.1 h0 dX12_go_199 (fun H locs hw => ?_)
  generalize e7 : uI M a0 7 x2 = M6 at hw
  replace hq := hq M6 e7.symm
  refine lv_aload_n hx hb dX12_go_202 rfl (lv_at hl 1 rfl) ?_
  refine lv_dup hx hb dX12_go_203 rfl ?_
  refine gfX12_137 C hw hw.2.2.1 h0 dX12_go_204 ?_
  refine lv_iconst (v := 1) hx hb dX12_go_207 (by decide) ?_
  refine lv_iadd hx hb dX12_go_208 ?_
  refine pfX12_137 C hw hw.2.2.1 h0 dX12_go_209 (fun H locs hw => ?_)
  generalize e9 : uI M6 a0 4 ((mI M6 a0 4) + 1) = M8 at hw
  replace hq := hq M8 e9.symm
  refine lv_iload_n hx hb dX12_go_212 rfl (lv_at hl 2 rfl) ?_
  refine lv_if_eq (tgt := 247) hx hb dX12_go_213 (by decide) (fun c10 => ?_) (fun c10 => ?_)
  · replace hq := hq.1 c10
    exact lt_X12_go_247  C hr hlk hn h0  hq hw (lv_sub hl [1, 2, 0] rfl)
  · replace hq := hq.2 c10
    refine lv_iload_n hx hb dX12_go_216 rfl (lv_at hl 3 rfl) ?_
    refine lv_bipush (v := 46) hx hb dX12_go_217 (by decide) ?_
    refine lv_icmp_ne (tgt := 247) hx hb dX12_go_219 (by decide) (fun c11 => ?_) (fun c11 => ?_)
    · replace hq := hq.2 c11
      exact lt_X12_go_247  C hr hlk hn h0  hq hw (lv_sub hl [1, 2, 0] rfl)
    · replace hq := hq.1 c11
      refine lv_aload_n hx hb dX12_go_222 rfl (lv_at hl 1 rfl) ?_
      refine lv_aload_n hx hb dX12_go_223 rfl (lv_at hl 1 rfl) ?_
      refine gfX12_137 C hw hw.2.2.1 h0 dX12_go_224 ?_
      refine r_callV (T := TX12) (N := 67) (ci := 12) (index := 159) (n := 1) (d2 := 0) (mc := 0) (ms := 0) (As := [.int (mI M8 a0 4)]) (rest := []) C hw (ct_X12_at hq) kvX12_159 hq.1 (by decide) rfl ⟨by decide, by decide⟩ ⟨by decide, by decide⟩ rfl hl.1 rfl (Nat.le_of_ble_eq_true rfl) dX12_go_227 (fun r M13 H locs hp hle hw => ?_)
      obtain ⟨v12, rfl, hq⟩ := hp
      refine W.eq (g2 := F0 m 230 ls [.int v12]) rfl ?_
      refine lv_bipush (v := 46) hx hb dX12_go_230 (by decide) ?_
      refine lv_icmp_ne (tgt := 247) hx hb dX12_go_232 (by decide) (fun c14 => ?_) (fun c14 => ?_)
      · replace hq := hq.2 c14
        exact lt_X12_go_247  C hr hlk hn h0  hq hw (lv_sub hl [1, 2, 0] rfl)
      · replace hq := hq.1 c14
        refine lv_iconst (v := 1) hx hb dX12_go_235 (by decide) ?_
        refine lv_istore_n (lv' := [(3, .int 1), (0, .ref a0), (1, .int p1), (2, .int x2)]) hx hb dX12_go_236 rfl hl (by decide) rfl (fun ls hl => ?_)
        refine lv_aload_n hx hb dX12_go_237 rfl (lv_at hl 1 rfl) ?_
        refine lv_dup hx hb dX12_go_238 rfl ?_
        refine gfX12_137 C hw hw.2.2.1 h0 dX12_go_239 ?_
        refine lv_iconst (v := 1) hx hb dX12_go_242 (by decide) ?_
        refine lv_iadd hx hb dX12_go_243 ?_
        refine pfX12_137 C hw hw.2.2.1 h0 dX12_go_244 (fun H locs hw => ?_)
        generalize e16 : uI M13 a0 4 ((mI M13 a0 4) + 1) = M15 at hw
        replace hq := hq M15 e16.symm
        exact lt_X12_go_247  C hr hlk hn h0  hq hw (lv_sub hl [1, 2, 0] rfl)
set_option maxHeartbeats 4000000 in
set_option maxRecDepth 100000 in
theorem lt_X12_go_79 {l : Launch} {g : Gh} {p : Program} {e : Env} {s : State} {m : MethodId} {args : Array Value} {below : List Frame} {meth : Method} {c : Code} {H : Heap} {locs : List Loc} {ls : Array Slot} {M0 M : Mem} {a0 : Nat} {p1 : Int32} {post : Mem → Prop}    (C : Cx g p s m args c cX12_go 4 RX12) (hr : meth.sig.returnType = none) (hlk : meth.locks = false) (hn : meth.name = "go") (h0 : okc (gB g) M0 a0 12)  (hq : lb_X12_go_79  g M0 a0 p1 post   M) (hw : Wd g s M0 M H locs) (hl : lv_has ls 4 [(0, .ref a0), (1, .int p1)]) : W p l e (rmo 2 0 0) s m args below meth c H locs 0 0 (MQ below (Cq g M0 (pV post)) args s 0 0 (gA g)) (F0 m 79 ls []) := by
  have hx := C.1.1
  have hb := C.1.2.1
  unfold lb_X12_go_79 at hq
  refine lv_aload_n hx hb dX12_go_79 rfl (lv_at hl 0 rfl) ?_
  refine gfX12_137 C hw hw.2.2.1 h0 dX12_go_80 ?_
  refine lv_aload_n hx hb dX12_go_83 rfl (lv_at hl 0 rfl) ?_
  refine gfX12_134 C hw hw.2.2.1 h0 dX12_go_84 ?_
  refine lv_icmp_lt (tgt := 96) hx hb dX12_go_87 (by decide) (fun c17 => ?_) (fun c17 => ?_)
  · replace hq := hq.1 c17
    refine lv_aload_n hx hb dX12_go_96 rfl (lv_at hl 0 rfl) ?_
    obtain ⟨q18, e19, hq⟩ := hq
    refine gfX12_7 C hw hw.2.2.1 h0 e19 dX12_go_97 ?_
    refine lv_aload_n hx hb dX12_go_100 rfl (lv_at hl 0 rfl) ?_
    refine gfX12_137 C hw hw.2.2.1 h0 dX12_go_101 ?_
    obtain ⟨h20, hq⟩ := hq
    obtain ⟨h21, hq⟩ := hq
    refine q_iald C hw hw.2.2.1 h20 h21 dX12_go_104 ?_
    refine lv_istore_n (lv' := [(2, .int (mI M q18 (Int32.toNatClampNeg (mI M a0 4)))), (0, .ref a0), (1, .int p1)]) hx hb dX12_go_105 rfl hl (by decide) rfl (fun ls hl => ?_)
    refine lv_iload_n hx hb dX12_go_106 rfl (lv_at hl 0 rfl) ?_
    refine r_callS (index := 146) (n := 1) (d2 := 0) (mc := 0) (ms := 0) (As := [.int (mI M q18 (Int32.toNatClampNeg (mI M a0 4)))]) (rest := []) C hw (ct_X12_isLetter hq) ksX12_146 ⟨by decide, by decide⟩ ⟨by decide, by decide⟩ rfl hl.1 rfl (Nat.le_of_ble_eq_true rfl) dX12_go_107 (fun r M23 H locs hp hle hw => ?_)
    obtain ⟨v22, rfl, hq⟩ := hp
    refine W.eq (g2 := F0 m 110 ls [.int v22]) rfl ?_
    refine lv_if_ne (tgt := 120) hx hb dX12_go_110 (by decide) (fun c24 => ?_) (fun c24 => ?_)
    · replace hq := hq.2 c24
      refine lv_aload_n hx hb dX12_go_120 rfl (lv_at hl 1 rfl) ?_
      refine r_callV (T := TX12) (N := 67) (ci := 12) (index := 153) (n := 0) (d2 := 1) (mc := 0) (ms := 0) (As := []) (rest := []) C hw (ct_X12_readWord hq) kvX12_153 hq.1 (by decide) rfl ⟨by decide, by decide⟩ ⟨by decide, by decide⟩ rfl hl.1 rfl (Nat.le_of_ble_eq_true rfl) dX12_go_121 (fun r M26 H locs hp hle hw => ?_)
      obtain ⟨rfl, hq⟩ := hp
      refine W.eq (g2 := F0 m 124 ls []) rfl ?_
      exact r_vret C hr hlk hw dX12_go_124 (Nat.le_refl _) (Nat.le_refl _) ⟨rfl, hq⟩
    · replace hq := hq.1 c24
      refine lv_iload_n hx hb dX12_go_113 rfl (lv_at hl 0 rfl) ?_
      refine r_callS (index := 150) (n := 1) (d2 := 0) (mc := 0) (ms := 0) (As := [.int (mI M q18 (Int32.toNatClampNeg (mI M a0 4)))]) (rest := []) C hw (ct_X12_isDigit hq) ksX12_150 ⟨by decide, by decide⟩ ⟨by decide, by decide⟩ rfl hl.1 rfl (Nat.le_of_ble_eq_true rfl) dX12_go_114 (fun r M28 H locs hp hle hw => ?_)
      obtain ⟨v27, rfl, hq⟩ := hp
      refine W.eq (g2 := F0 m 117 ls [.int v27]) rfl ?_
      refine lv_if_eq (tgt := 125) hx hb dX12_go_117 (by decide) (fun c29 => ?_) (fun c29 => ?_)
      · replace hq := hq.1 c29
        refine lv_iload_n hx hb dX12_go_125 rfl (lv_at hl 2 rfl) ?_
        refine lv_if_eq (tgt := 185) hx hb dX12_go_126 (by decide) (fun c30 => ?_) (fun c30 => ?_)
        · replace hq := hq.1 c30
          refine lv_iload_n hx hb dX12_go_185 rfl (lv_at hl 0 rfl) ?_
          refine lv_bipush (v := 59) hx hb dX12_go_186 (by decide) ?_
          refine lv_icmp_ne (tgt := 195) hx hb dX12_go_188 (by decide) (fun c31 => ?_) (fun c31 => ?_)
          · replace hq := hq.2 c31
            refine lv_iconst (v := 0) hx hb dX12_go_195 (by decide) ?_
            exact lt_X12_go_196  C hr hlk hn h0  hq hw (lv_sub hl [1, 2, 0] rfl)
          · replace hq := hq.1 c31
            refine lv_iconst (v := 1) hx hb dX12_go_191 (by decide) ?_
            refine lv_goto (tgt := 196) hx hb dX12_go_192 (by decide) ?_
            exact lt_X12_go_196  C hr hlk hn h0  hq hw (lv_sub hl [1, 2, 0] rfl)
        · replace hq := hq.2 c30
          refine lv_iload_n hx hb dX12_go_129 rfl (lv_at hl 0 rfl) ?_
          refine lv_bipush (v := 124) hx hb dX12_go_130 (by decide) ?_
          refine lv_icmp_eq (tgt := 177) hx hb dX12_go_132 (by decide) (fun c32 => ?_) (fun c32 => ?_)
          · replace hq := hq.1 c32
            refine lv_iconst (v := 1) hx hb dX12_go_177 (by decide) ?_
            refine lv_goto (tgt := 196) hx hb dX12_go_178 (by decide) ?_
            exact lt_X12_go_196  C hr hlk hn h0  hq hw (lv_sub hl [1, 2, 0] rfl)
          · replace hq := hq.2 c32
            refine lv_iload_n hx hb dX12_go_135 rfl (lv_at hl 0 rfl) ?_
            refine lv_bipush (v := 91) hx hb dX12_go_136 (by decide) ?_
            refine lv_icmp_eq (tgt := 177) hx hb dX12_go_138 (by decide) (fun c33 => ?_) (fun c33 => ?_)
            · replace hq := hq.1 c33
              refine lv_iconst (v := 1) hx hb dX12_go_177 (by decide) ?_
              refine lv_goto (tgt := 196) hx hb dX12_go_178 (by decide) ?_
              exact lt_X12_go_196  C hr hlk hn h0  hq hw (lv_sub hl [1, 2, 0] rfl)
            · replace hq := hq.2 c33
              refine lv_iload_n hx hb dX12_go_141 rfl (lv_at hl 0 rfl) ?_
              refine lv_bipush (v := 93) hx hb dX12_go_142 (by decide) ?_
              refine lv_icmp_eq (tgt := 177) hx hb dX12_go_144 (by decide) (fun c34 => ?_) (fun c34 => ?_)
              · replace hq := hq.1 c34
                refine lv_iconst (v := 1) hx hb dX12_go_177 (by decide) ?_
                refine lv_goto (tgt := 196) hx hb dX12_go_178 (by decide) ?_
                exact lt_X12_go_196  C hr hlk hn h0  hq hw (lv_sub hl [1, 2, 0] rfl)
              · replace hq := hq.2 c34
                refine lv_iload_n hx hb dX12_go_147 rfl (lv_at hl 0 rfl) ?_
                refine lv_bipush (v := 40) hx hb dX12_go_148 (by decide) ?_
                refine lv_icmp_eq (tgt := 177) hx hb dX12_go_150 (by decide) (fun c35 => ?_) (fun c35 => ?_)
                · replace hq := hq.1 c35
                  refine lv_iconst (v := 1) hx hb dX12_go_177 (by decide) ?_
                  refine lv_goto (tgt := 196) hx hb dX12_go_178 (by decide) ?_
                  exact lt_X12_go_196  C hr hlk hn h0  hq hw (lv_sub hl [1, 2, 0] rfl)
                · replace hq := hq.2 c35
                  refine lv_iload_n hx hb dX12_go_153 rfl (lv_at hl 0 rfl) ?_
                  refine lv_bipush (v := 41) hx hb dX12_go_154 (by decide) ?_
                  refine lv_icmp_eq (tgt := 177) hx hb dX12_go_156 (by decide) (fun c36 => ?_) (fun c36 => ?_)
                  · replace hq := hq.1 c36
                    refine lv_iconst (v := 1) hx hb dX12_go_177 (by decide) ?_
                    refine lv_goto (tgt := 196) hx hb dX12_go_178 (by decide) ?_
                    exact lt_X12_go_196  C hr hlk hn h0  hq hw (lv_sub hl [1, 2, 0] rfl)
                  · replace hq := hq.2 c36
                    refine lv_iload_n hx hb dX12_go_159 rfl (lv_at hl 0 rfl) ?_
                    refine lv_bipush (v := 123) hx hb dX12_go_160 (by decide) ?_
                    refine lv_icmp_eq (tgt := 177) hx hb dX12_go_162 (by decide) (fun c37 => ?_) (fun c37 => ?_)
                    · replace hq := hq.1 c37
                      refine lv_iconst (v := 1) hx hb dX12_go_177 (by decide) ?_
                      refine lv_goto (tgt := 196) hx hb dX12_go_178 (by decide) ?_
                      exact lt_X12_go_196  C hr hlk hn h0  hq hw (lv_sub hl [1, 2, 0] rfl)
                    · replace hq := hq.2 c37
                      refine lv_iload_n hx hb dX12_go_165 rfl (lv_at hl 0 rfl) ?_
                      refine lv_bipush (v := 125) hx hb dX12_go_166 (by decide) ?_
                      refine lv_icmp_eq (tgt := 177) hx hb dX12_go_168 (by decide) (fun c38 => ?_) (fun c38 => ?_)
                      · replace hq := hq.1 c38
                        refine lv_iconst (v := 1) hx hb dX12_go_177 (by decide) ?_
                        refine lv_goto (tgt := 196) hx hb dX12_go_178 (by decide) ?_
                        exact lt_X12_go_196  C hr hlk hn h0  hq hw (lv_sub hl [1, 2, 0] rfl)
                      · replace hq := hq.2 c38
                        refine lv_iload_n hx hb dX12_go_171 rfl (lv_at hl 0 rfl) ?_
                        refine lv_bipush (v := 44) hx hb dX12_go_172 (by decide) ?_
                        refine lv_icmp_ne (tgt := 181) hx hb dX12_go_174 (by decide) (fun c39 => ?_) (fun c39 => ?_)
                        · replace hq := hq.2 c39
                          refine lv_iconst (v := 0) hx hb dX12_go_181 (by decide) ?_
                          refine lv_goto (tgt := 196) hx hb dX12_go_182 (by decide) ?_
                          exact lt_X12_go_196  C hr hlk hn h0  hq hw (lv_sub hl [1, 2, 0] rfl)
                        · replace hq := hq.1 c39
                          refine lv_iconst (v := 1) hx hb dX12_go_177 (by decide) ?_
                          refine lv_goto (tgt := 196) hx hb dX12_go_178 (by decide) ?_
                          exact lt_X12_go_196  C hr hlk hn h0  hq hw (lv_sub hl [1, 2, 0] rfl)
      · replace hq := hq.2 c29
        refine lv_aload_n hx hb dX12_go_120 rfl (lv_at hl 1 rfl) ?_
        refine r_callV (T := TX12) (N := 67) (ci := 12) (index := 153) (n := 0) (d2 := 1) (mc := 0) (ms := 0) (As := []) (rest := []) C hw (ct_X12_readWord hq) kvX12_153 hq.1 (by decide) rfl ⟨by decide, by decide⟩ ⟨by decide, by decide⟩ rfl hl.1 rfl (Nat.le_of_ble_eq_true rfl) dX12_go_121 (fun r M41 H locs hp hle hw => ?_)
        obtain ⟨rfl, hq⟩ := hp
        refine W.eq (g2 := F0 m 124 ls []) rfl ?_
        exact r_vret C hr hlk hw dX12_go_124 (Nat.le_refl _) (Nat.le_refl _) ⟨rfl, hq⟩
  · replace hq := hq.2 c17
    refine lv_aload_n hx hb dX12_go_90 rfl (lv_at hl 0 rfl) ?_
    refine lv_iconst (v := 0) hx hb dX12_go_91 (by decide) ?_
    refine pfX12_143 C hw hw.2.2.1 h0 dX12_go_92 (fun H locs hw => ?_)
    generalize e43 : uI M a0 6 0 = M42 at hw
    replace hq := hq M42 e43.symm
    exact r_vret C hr hlk hw dX12_go_95 (Nat.le_refl _) (Nat.le_refl _) ⟨rfl, hq⟩
set_option maxHeartbeats 4000000 in
set_option maxRecDepth 100000 in
theorem lt_X12_go_38 {l : Launch} {g : Gh} {p : Program} {e : Env} {s : State} {m : MethodId} {args : Array Value} {below : List Frame} {meth : Method} {c : Code} {H : Heap} {locs : List Loc} {ls : Array Slot} {M0 M : Mem} {a0 : Nat} {p1 : Int32} {post : Mem → Prop}    (C : Cx g p s m args c cX12_go 4 RX12) (hr : meth.sig.returnType = none) (hlk : meth.locks = false) (hn : meth.name = "go") (h0 : okc (gB g) M0 a0 12)  (hq : lb_X12_go_38  g M0 a0 p1 post   M) (hw : Wd g s M0 M H locs) (hl : lv_has ls 4 [(0, .ref a0), (1, .int p1)]) : W p l e (rmo 2 0 0) s m args below meth c H locs 0 0 (MQ below (Cq g M0 (pV post)) args s 0 0 (gA g)) (F0 m 38 ls []) := by
  have hx := C.1.1
  have hb := C.1.2.1
  unfold lb_X12_go_38 at hq
  refine lv_aload_n hx hb dX12_go_38 rfl (lv_at hl 0 rfl) ?_
  refine lv_aload_n hx hb dX12_go_39 rfl (lv_at hl 0 rfl) ?_
  refine gfX12_137 C hw hw.2.2.1 h0 dX12_go_40 ?_
  refine pfX12_140 C hw hw.2.2.1 h0 dX12_go_43 (fun H locs hw => ?_)
  generalize e45 : uI M a0 5 (mI M a0 4) = M44 at hw
  replace hq := hq M44 e45.symm
  refine lv_aload_n hx hb dX12_go_46 rfl (lv_at hl 0 rfl) ?_
  refine gfX12_134 C hw hw.2.2.1 h0 dX12_go_47 ?_
  refine lv_sipush (v := 200) hx hb dX12_go_50 (by decide) ?_
  refine lv_icmp_le (tgt := 79) hx hb dX12_go_53 (by decide) (fun c46 => ?_) (fun c46 => ?_)
  · replace hq := hq.1 c46
    exact lt_X12_go_79  C hr hlk hn h0  hq hw (lv_sub hl [0, 1] rfl)
  · replace hq := hq.2 c46
    refine lv_aload_n hx hb dX12_go_56 rfl (lv_at hl 0 rfl) ?_
    refine gfX12_140 C hw hw.2.2.1 h0 dX12_go_57 ?_
    refine lv_sipush (v := 200) hx hb dX12_go_60 (by decide) ?_
    refine lv_icmp_lt (tgt := 79) hx hb dX12_go_63 (by decide) (fun c47 => ?_) (fun c47 => ?_)
    · replace hq := hq.1 c47
      exact lt_X12_go_79  C hr hlk hn h0  hq hw (lv_sub hl [0, 1] rfl)
    · replace hq := hq.2 c47
      refine lv_aload_n hx hb dX12_go_66 rfl (lv_at hl 0 rfl) ?_
      refine lv_sipush (v := 200) hx hb dX12_go_67 (by decide) ?_
      refine pfX12_140 C hw hw.2.2.1 h0 dX12_go_70 (fun H locs hw => ?_)
      generalize e49 : uI M44 a0 5 200 = M48 at hw
      replace hq := hq M48 e49.symm
      refine lv_aload_n hx hb dX12_go_73 rfl (lv_at hl 0 rfl) ?_
      refine lv_iconst (v := 1) hx hb dX12_go_74 (by decide) ?_
      refine pfX12_143 C hw hw.2.2.1 h0 dX12_go_75 (fun H locs hw => ?_)
      generalize e51 : uI M48 a0 6 1 = M50 at hw
      replace hq := hq M50 e51.symm
      exact r_vret C hr hlk hw dX12_go_78 (Nat.le_refl _) (Nat.le_refl _) ⟨rfl, hq⟩
set_option maxHeartbeats 4000000 in
set_option maxRecDepth 100000 in
theorem lp_X12_go_0 {l : Launch} {g : Gh} {p : Program} {e : Env} {s : State} {m : MethodId} {args : Array Value} {below : List Frame} {meth : Method} {c : Code} {M0 : Mem} {a0 : Nat} {p1 : Int32} {post : Mem → Prop}  (C : Cx g p s m args c cX12_go 4 RX12) (hr : meth.sig.returnType = none) (hlk : meth.locks = false) (hn : meth.name = "go") (h0 : okc (gB g) M0 a0 12)  : ∀ (nf : Nat)   (M : Mem) (H : Heap) (locs : List Loc) (ls : Array Slot), lfp (fun bk z => bd_X12_go_0  g M0 a0 p1 post  bk z) nf (M) → Wd g s M0 M H locs → lv_has ls 4 [(0, .ref a0), (1, .int p1)] → W p l e (rmo 2 0 0) s m args below meth c H locs 0 0 (MQ below (Cq g M0 (pV post)) args s 0 0 (gA g)) (F0 m 0 ls []) := by
  have hx := C.1.1
  have hb := C.1.2.1
  intro nf
  induction nf with
  | zero => intro _ H locs ls hq; exact hq.elim
  | succ nf hk0 =>
    intro M H locs ls hq hw hl
    replace hq : bd_X12_go_0  g M0 a0 p1 post  (lfp (fun bk z => bd_X12_go_0  g M0 a0 p1 post  bk z) nf) M := hq
    unfold bd_X12_go_0 at hq
    refine lv_aload_n hx hb dX12_go_0 rfl (lv_at hl 0 rfl) ?_
    refine gfX12_137 C hw hw.2.2.1 h0 dX12_go_1 ?_
    refine lv_aload_n hx hb dX12_go_4 rfl (lv_at hl 0 rfl) ?_
    refine gfX12_134 C hw hw.2.2.1 h0 dX12_go_5 ?_
    refine lv_icmp_ge (tgt := 38) hx hb dX12_go_8 (by decide) (fun c52 => ?_) (fun c52 => ?_)
    · replace hq := hq.1 c52
      exact lt_X12_go_38  C hr hlk hn h0  hq hw (lv_sub hl [0, 1] rfl)
    · replace hq := hq.2 c52
      refine lv_aload_n hx hb dX12_go_11 rfl (lv_at hl 0 rfl) ?_
      obtain ⟨q53, e54, hq⟩ := hq
      refine gfX12_7 C hw hw.2.2.1 h0 e54 dX12_go_12 ?_
      refine lv_aload_n hx hb dX12_go_15 rfl (lv_at hl 0 rfl) ?_
      refine gfX12_137 C hw hw.2.2.1 h0 dX12_go_16 ?_
      obtain ⟨h55, hq⟩ := hq
      obtain ⟨h56, hq⟩ := hq
      refine q_iald C hw hw.2.2.1 h55 h56 dX12_go_19 ?_
      refine lv_bipush (v := 32) hx hb dX12_go_20 (by decide) ?_
      refine lv_icmp_ne (tgt := 38) hx hb dX12_go_22 (by decide) (fun c57 => ?_) (fun c57 => ?_)
      · replace hq := hq.2 c57
        exact lt_X12_go_38  C hr hlk hn h0  hq hw (lv_sub hl [0, 1] rfl)
      · replace hq := hq.1 c57
        refine lv_aload_n hx hb dX12_go_25 rfl (lv_at hl 0 rfl) ?_
        refine lv_dup hx hb dX12_go_26 rfl ?_
        refine gfX12_137 C hw hw.2.2.1 h0 dX12_go_27 ?_
        refine lv_iconst (v := 1) hx hb dX12_go_30 (by decide) ?_
        refine lv_iadd hx hb dX12_go_31 ?_
        refine pfX12_137 C hw hw.2.2.1 h0 dX12_go_32 (fun H locs hw => ?_)
        generalize e59 : uI M a0 4 ((mI M a0 4) + 1) = M58 at hw
        replace hq := hq M58 e59.symm
        have e54 : mR M58 a0 1 = some q53 := by rw [← e59, mR_uI]; exact e54
        refine lv_goto (tgt := 0) hx hb dX12_go_35 (by decide) ?_
        exact hk0 _ _ _ _ hq hw (lv_sub hl [0, 1] rfl)
set_option maxHeartbeats 4000000 in
set_option maxRecDepth 100000 in
theorem ct_X12_go {l : Launch} {g : Gh} {M0 : Mem} {a0 : Nat} {p1 : Int32} {post : Mem → Prop}  (hq : wp_X12_go  g M0 a0 p1 post) : Ct l g yX12_go cX12_go 4 none 2 0 0 [.ref a0, .int p1] M0 (pV post) := by
  unfold wp_X12_go at hq
  obtain ⟨h0, hq⟩ := hq
  refine Ct.of (by decide) (Nat.le_of_ble_eq_true rfl) ?_
  intro p e s m below meth c ls C hr hlk hn hl hw
  have hx := C.1.1
  have hb := C.1.2.1
  have hl : lv_has ls 4 [(0, .ref a0), (1, .int p1)] := hl
  obtain ⟨nf, hq⟩ := hq
  exact lp_X12_go_0  C hr hlk hn h0  nf _ _ _ _ hq hw (lv_sub hl [0, 1] rfl)

set_option maxRecDepth 100000 in
def wp_X12_bad  (g : Gh) (M0 : Mem) (a0 : Nat) (p1 : Int32) (post : Int32 → Mem → Prop) : Prop :=
  okc (gB g) M0 a0 12 ∧ ((((mI M0 a0 6) = 1) → ∀ M6, M6 = uI M0 a0 9 1 → (∀ M8, M8 = uI M6 a0 10 (mI M6 a0 5) → (post 0 M8))) ∧ (¬ ((mI M0 a0 6) = 1) → ∀ M2, M2 = uI M0 a0 9 p1 → (∀ M4, M4 = uI M2 a0 10 (mI M2 a0 5) → (post 0 M4))))
set_option maxHeartbeats 4000000 in
set_option maxRecDepth 100000 in
theorem ct_X12_bad {l : Launch} {g : Gh} {M0 : Mem} {a0 : Nat} {p1 : Int32} {post : Int32 → Mem → Prop}  (hq : wp_X12_bad  g M0 a0 p1 post) : Ct l g yX12_bad cX12_bad 2 (some .boolean) 0 0 0 [.ref a0, .int p1] M0 (pI post) := by
  unfold wp_X12_bad at hq
  obtain ⟨h0, hq⟩ := hq
  refine Ct.of (by decide) (Nat.le_of_ble_eq_true rfl) ?_
  intro p e s m below meth c ls C hr hlk hn hl hw
  have hx := C.1.1
  have hb := C.1.2.1
  have hl : lv_has ls 2 [(0, .ref a0), (1, .int p1)] := hl
  refine lv_aload_n hx hb dX12_bad_0 rfl (lv_at hl 0 rfl) ?_
  refine lv_aload_n hx hb dX12_bad_1 rfl (lv_at hl 0 rfl) ?_
  refine gfX12_143 C hw hw.2.2.1 h0 dX12_bad_2 ?_
  refine lv_iconst (v := 1) hx hb dX12_bad_5 (by decide) ?_
  refine lv_icmp_ne (tgt := 13) hx hb dX12_bad_6 (by decide) (fun c1 => ?_) (fun c1 => ?_)
  · replace hq := hq.2 c1
    refine lv_iload_n hx hb dX12_bad_13 rfl (lv_at hl 1 rfl) ?_
    refine pfX12_175 C hw hw.2.2.1 h0 dX12_bad_14 (fun H locs hw => ?_)
    generalize e3 : uI M0 a0 9 p1 = M2 at hw
    replace hq := hq M2 e3.symm
    refine lv_aload_n hx hb dX12_bad_17 rfl (lv_at hl 0 rfl) ?_
    refine lv_aload_n hx hb dX12_bad_18 rfl (lv_at hl 0 rfl) ?_
    refine gfX12_140 C hw hw.2.2.1 h0 dX12_bad_19 ?_
    refine pfX12_178 C hw hw.2.2.1 h0 dX12_bad_22 (fun H locs hw => ?_)
    generalize e5 : uI M2 a0 10 (mI M2 a0 5) = M4 at hw
    replace hq := hq M4 e5.symm
    refine lv_iconst (v := 0) hx hb dX12_bad_25 (by decide) ?_
    exact r_zret C hr hlk hw dX12_bad_26 (Nat.le_refl _) (Nat.le_refl _) (by decide) ⟨_, rfl, hq⟩
  · replace hq := hq.1 c1
    refine lv_iconst (v := 1) hx hb dX12_bad_9 (by decide) ?_
    refine lv_goto (tgt := 14) hx hb dX12_bad_10 (by decide) ?_
    refine pfX12_175 C hw hw.2.2.1 h0 dX12_bad_14 (fun H locs hw => ?_)
    generalize e7 : uI M0 a0 9 1 = M6 at hw
    replace hq := hq M6 e7.symm
    refine lv_aload_n hx hb dX12_bad_17 rfl (lv_at hl 0 rfl) ?_
    refine lv_aload_n hx hb dX12_bad_18 rfl (lv_at hl 0 rfl) ?_
    refine gfX12_140 C hw hw.2.2.1 h0 dX12_bad_19 ?_
    refine pfX12_178 C hw hw.2.2.1 h0 dX12_bad_22 (fun H locs hw => ?_)
    generalize e9 : uI M6 a0 10 (mI M6 a0 5) = M8 at hw
    replace hq := hq M8 e9.symm
    refine lv_iconst (v := 0) hx hb dX12_bad_25 (by decide) ?_
    exact r_zret C hr hlk hw dX12_bad_26 (Nat.le_refl _) (Nat.le_refl _) (by decide) ⟨_, rfl, hq⟩

set_option maxRecDepth 100000 in
def wp_X12_isSign  (g : Gh) (M0 : Mem) (a0 : Nat) (p1 : Int32) (post : Int32 → Mem → Prop) : Prop :=
  okc (gB g) M0 a0 12 ∧ ((((mI M0 a0 6) = 4) → (((mI M0 a0 7) = p1) → post 1 M0) ∧ (¬ ((mI M0 a0 7) = p1) → post 0 M0)) ∧ (¬ ((mI M0 a0 6) = 4) → post 0 M0))
set_option maxHeartbeats 4000000 in
set_option maxRecDepth 100000 in
theorem ct_X12_isSign {l : Launch} {g : Gh} {M0 : Mem} {a0 : Nat} {p1 : Int32} {post : Int32 → Mem → Prop}  (hq : wp_X12_isSign  g M0 a0 p1 post) : Ct l g yX12_isSign cX12_isSign 2 (some .boolean) 0 0 0 [.ref a0, .int p1] M0 (pI post) := by
  unfold wp_X12_isSign at hq
  obtain ⟨h0, hq⟩ := hq
  refine Ct.of (by decide) (Nat.le_of_ble_eq_true rfl) ?_
  intro p e s m below meth c ls C hr hlk hn hl hw
  have hx := C.1.1
  have hb := C.1.2.1
  have hl : lv_has ls 2 [(0, .ref a0), (1, .int p1)] := hl
  refine lv_aload_n hx hb dX12_isSign_0 rfl (lv_at hl 0 rfl) ?_
  refine gfX12_143 C hw hw.2.2.1 h0 dX12_isSign_1 ?_
  refine lv_iconst (v := 4) hx hb dX12_isSign_4 (by decide) ?_
  refine lv_icmp_ne (tgt := 20) hx hb dX12_isSign_5 (by decide) (fun c1 => ?_) (fun c1 => ?_)
  · replace hq := hq.2 c1
    refine lv_iconst (v := 0) hx hb dX12_isSign_20 (by decide) ?_
    exact r_zret C hr hlk hw dX12_isSign_21 (Nat.le_refl _) (Nat.le_refl _) (by decide) ⟨_, rfl, hq⟩
  · replace hq := hq.1 c1
    refine lv_aload_n hx hb dX12_isSign_8 rfl (lv_at hl 0 rfl) ?_
    refine gfX12_156 C hw hw.2.2.1 h0 dX12_isSign_9 ?_
    refine lv_iload_n hx hb dX12_isSign_12 rfl (lv_at hl 1 rfl) ?_
    refine lv_icmp_ne (tgt := 20) hx hb dX12_isSign_13 (by decide) (fun c2 => ?_) (fun c2 => ?_)
    · replace hq := hq.2 c2
      refine lv_iconst (v := 0) hx hb dX12_isSign_20 (by decide) ?_
      exact r_zret C hr hlk hw dX12_isSign_21 (Nat.le_refl _) (Nat.le_refl _) (by decide) ⟨_, rfl, hq⟩
    · replace hq := hq.1 c2
      refine lv_iconst (v := 1) hx hb dX12_isSign_16 (by decide) ?_
      refine lv_goto (tgt := 21) hx hb dX12_isSign_17 (by decide) ?_
      exact r_zret C hr hlk hw dX12_isSign_21 (Nat.le_refl _) (Nat.le_refl _) (by decide) ⟨_, rfl, hq⟩
