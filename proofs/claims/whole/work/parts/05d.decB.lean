set_option maxRecDepth 20000 in
theorem gX11_unlikeNodesOf_X11_isFunction : GoodIn wsX11_unlikeNodesOf (va_wsS RX11 146 yX11_isFunction wsX11_isFunction) := goodIn_app (goodIn_of _ (by decide +kernel)) ggX11_unlikeNodesOf_X11_isFunction
set_option maxRecDepth 20000 in
theorem ggX11_unlikeNodesOf_X11_asks : GoodIn wsX11_unlikeNodesOf wsX11_asks := goodIn_r _ [11, 12, 38, 39, 40, 41, 42, 43, 44, 45, 46, 47, 48, 49, 50, 51, 52, 53, 54, 55, 56, 57, 58, 59, 60, 61, 62, 63] rfl (by decide +kernel)
set_option maxRecDepth 20000 in
theorem gX11_unlikeNodesOf_X11_asks : GoodIn wsX11_unlikeNodesOf (wsV RX11 66 RX11 yX11_asks wsX11_asks) := goodIn_app (goodIn_of _ (by decide +kernel)) ggX11_unlikeNodesOf_X11_asks
set_option maxRecDepth 20000 in
theorem ggX11_unlikeNodesOf_X11_unlike : GoodIn wsX11_unlikeNodesOf wsX11_unlike := goodIn_r _ [16, 17, 18, 19, 20, 21, 22, 3, 23, 24, 25, 26, 27, 28, 29, 30, 31, 32, 33, 34, 35, 36, 37, 38, 39, 40, 41, 42, 43, 44, 45, 46, 47, 48, 49, 50, 51, 52, 53, 54, 55, 56, 57, 58, 59, 60, 61, 62, 63] rfl (by decide +kernel)
set_option maxRecDepth 20000 in
theorem gX11_unlikeNodesOf_X11_unlike : GoodIn wsX11_unlikeNodesOf (wsV RX11 176 RX11 yX11_unlike wsX11_unlike) := goodIn_app (goodIn_of _ (by decide +kernel)) ggX11_unlikeNodesOf_X11_unlike
set_option maxRecDepth 20000 in
theorem ggX11_deep_X11_links : GoodIn wsX11_deep wsX11_links := goodIn_r _ [8, 3, 9, 1, 10, 11, 12, 7, 13, 14, 15, 16, 17, 18, 19, 20, 21, 22, 23, 24, 25, 26, 27, 28, 29, 30, 31, 32, 33, 34, 35, 36, 37, 38, 39, 40, 41, 42, 43, 44] rfl (by decide +kernel)
set_option maxRecDepth 20000 in
theorem gX11_deep_X11_links : GoodIn wsX11_deep (wsV RX11 173 RX11 yX11_links wsX11_links) := goodIn_app (goodIn_of _ (by decide +kernel)) ggX11_deep_X11_links
set_option maxRecDepth 20000 in
theorem ggX11_deep_X11_size : GoodIn wsX11_deep wsX11_size := goodIn_r _ [13, 14, 19, 20, 21, 22, 23, 24, 25, 26, 27, 28, 29, 30, 31, 32, 33, 34, 35, 36, 37, 38, 39, 40, 41, 42, 43, 44] rfl (by decide +kernel)
set_option maxRecDepth 20000 in
theorem gX11_deep_X11_size : GoodIn wsX11_deep (wsV RX11 156 RX11 yX11_size wsX11_size) := goodIn_app (goodIn_of _ (by decide +kernel)) ggX11_deep_X11_size
set_option maxRecDepth 20000 in
theorem ggX11_depthOf_X11_isFunction : GoodIn wsX11_depthOf wsX11_isFunction := goodIn_r _ [4, 5, 6, 3, 7] rfl (by decide +kernel)
set_option maxRecDepth 20000 in
theorem gX11_depthOf_X11_isFunction : GoodIn wsX11_depthOf (va_wsS RX11 146 yX11_isFunction wsX11_isFunction) := goodIn_app (goodIn_of _ (by decide +kernel)) ggX11_depthOf_X11_isFunction
set_option maxRecDepth 20000 in
theorem ggX11_depthOf_X11_asks : GoodIn wsX11_depthOf wsX11_asks := goodIn_r _ [11, 12, 34, 35, 36, 37, 38, 39, 40, 41, 42, 43, 44, 45, 46, 47, 48, 49, 50, 51, 52, 53, 54, 55, 56, 57, 58, 59] rfl (by decide +kernel)
set_option maxRecDepth 20000 in
theorem gX11_depthOf_X11_asks : GoodIn wsX11_depthOf (wsV RX11 66 RX11 yX11_asks wsX11_asks) := goodIn_app (goodIn_of _ (by decide +kernel)) ggX11_depthOf_X11_asks
set_option maxRecDepth 20000 in
theorem ggX11_depthOf_X11_deep : GoodIn wsX11_depthOf wsX11_deep := goodIn_r _ [16, 17, 18, 19, 20, 21, 22, 3, 23, 24, 25, 26, 27, 28, 29, 30, 31, 32, 33, 34, 35, 36, 37, 38, 39, 40, 41, 42, 43, 44, 45, 46, 47, 48, 49, 50, 51, 52, 53, 54, 55, 56, 57, 58, 59] rfl (by decide +kernel)
set_option maxRecDepth 20000 in
theorem gX11_depthOf_X11_deep : GoodIn wsX11_depthOf (wsV RX11 179 RX11 yX11_deep wsX11_deep) := goodIn_app (goodIn_of _ (by decide +kernel)) ggX11_depthOf_X11_deep
set_option maxRecDepth 20000 in
theorem ggX11_power_X11_p : GoodIn wsX11_power wsX11_p := goodIn_r _ [5, 6, 7, 8, 9, 10, 11, 12, 13, 14, 15, 16, 17, 18, 19, 20, 21, 22, 23, 24, 25, 26, 27, 28, 29, 30, 31, 32] rfl (by decide +kernel)
set_option maxRecDepth 20000 in
theorem gX11_power_X11_p : GoodIn wsX11_power (wsV RX11 182 RX11 yX11_p wsX11_p) := goodIn_app (goodIn_of _ (by decide +kernel)) ggX11_power_X11_p
set_option maxRecDepth 20000 in
theorem ggX11_inverse_X11_p : GoodIn wsX11_inverse wsX11_p := goodIn_r _ [5, 6, 7, 8, 9, 10, 11, 12, 13, 14, 15, 16, 17, 18, 19, 20, 21, 22, 23, 24, 25, 26, 27, 28, 29, 30, 31, 32] rfl (by decide +kernel)
set_option maxRecDepth 20000 in
theorem gX11_inverse_X11_p : GoodIn wsX11_inverse (wsV RX11 182 RX11 yX11_p wsX11_p) := goodIn_app (goodIn_of _ (by decide +kernel)) ggX11_inverse_X11_p
set_option maxRecDepth 20000 in
theorem ggX11_reckons_X11_kind : GoodIn wsX11_reckons wsX11_kind := goodIn_r _ [12, 13, 30, 31, 32, 33, 34, 35, 36, 37, 38, 39, 40, 41, 42, 43, 44, 45, 46, 47, 48, 49, 50, 51, 52, 53, 54, 55] rfl (by decide +kernel)
set_option maxRecDepth 20000 in
theorem gX11_reckons_X11_kind : GoodIn wsX11_reckons (wsV RX11 159 RX11 yX11_kind wsX11_kind) := goodIn_app (goodIn_of _ (by decide +kernel)) ggX11_reckons_X11_kind
set_option maxRecDepth 20000 in
theorem ggX11_reckons_X11_number : GoodIn wsX11_reckons wsX11_number := goodIn_r _ [17, 13, 30, 31, 32, 33, 34, 35, 36, 37, 38, 39, 40, 41, 42, 43, 44, 45, 46, 47, 48, 49, 50, 51, 52, 53, 54, 55] rfl (by decide +kernel)
set_option maxRecDepth 20000 in
theorem gX11_reckons_X11_number : GoodIn wsX11_reckons (wsV RX11 163 RX11 yX11_number wsX11_number) := goodIn_app (goodIn_of _ (by decide +kernel)) ggX11_reckons_X11_number
set_option maxRecDepth 20000 in
theorem ggX11_reckons_X11_p : GoodIn wsX11_reckons wsX11_p := goodIn_r _ [21, 13, 30, 31, 32, 33, 34, 35, 36, 37, 38, 39, 40, 41, 42, 43, 44, 45, 46, 47, 48, 49, 50, 51, 52, 53, 54, 55] rfl (by decide +kernel)
set_option maxRecDepth 20000 in
theorem gX11_reckons_X11_p : GoodIn wsX11_reckons (wsV RX11 182 RX11 yX11_p wsX11_p) := goodIn_app (goodIn_of _ (by decide +kernel)) ggX11_reckons_X11_p
set_option maxRecDepth 20000 in
theorem ggX11_reckons_X11_inverse : GoodIn wsX11_reckons wsX11_inverse := goodIn_r _ [25, 18, 19, 20, 11, 21, 13, 30, 31, 32, 33, 34, 35, 36, 37, 38, 39, 40, 41, 42, 43, 44, 45, 46, 47, 48, 49, 50, 51, 52, 53, 54, 55] rfl (by decide +kernel)
set_option maxRecDepth 20000 in
theorem gX11_reckons_X11_inverse : GoodIn wsX11_reckons (wsV RX11 188 RX11 yX11_inverse wsX11_inverse) := goodIn_app (goodIn_of _ (by decide +kernel)) ggX11_reckons_X11_inverse
set_option maxRecDepth 20000 in
theorem ggX11_reckons_X11_power : GoodIn wsX11_reckons wsX11_power := goodIn_r _ [29, 18, 19, 20, 11, 21, 13, 30, 31, 32, 33, 34, 35, 36, 37, 38, 39, 40, 41, 42, 43, 44, 45, 46, 47, 48, 49, 50, 51, 52, 53, 54, 55] rfl (by decide +kernel)
set_option maxRecDepth 20000 in
theorem gX11_reckons_X11_power : GoodIn wsX11_reckons (wsV RX11 191 RX11 yX11_power wsX11_power) := goodIn_app (goodIn_of _ (by decide +kernel)) ggX11_reckons_X11_power
set_option maxRecDepth 20000 in
theorem ggX11_feeds_X11_links : GoodIn wsX11_feeds wsX11_links := goodIn_r _ [8, 9, 10, 11, 12, 13, 14, 7, 15, 16, 17, 18, 19, 20, 43, 44, 45, 46, 47, 48, 49, 50, 51, 52, 53, 54, 55, 56, 57, 58, 59, 60, 61, 62, 63, 64, 65, 66, 67, 68] rfl (by decide +kernel)
set_option maxRecDepth 20000 in
theorem gX11_feeds_X11_links : GoodIn wsX11_feeds (wsV RX11 173 RX11 yX11_links wsX11_links) := goodIn_app (goodIn_of _ (by decide +kernel)) ggX11_feeds_X11_links
set_option maxRecDepth 20000 in
theorem ggX11_feeds_X11_size : GoodIn wsX11_feeds wsX11_size := goodIn_r _ [15, 16, 43, 44, 45, 46, 47, 48, 49, 50, 51, 52, 53, 54, 55, 56, 57, 58, 59, 60, 61, 62, 63, 64, 65, 66, 67, 68] rfl (by decide +kernel)
set_option maxRecDepth 20000 in
theorem gX11_feeds_X11_size : GoodIn wsX11_feeds (wsV RX11 156 RX11 yX11_size wsX11_size) := goodIn_app (goodIn_of _ (by decide +kernel)) ggX11_feeds_X11_size
set_option maxRecDepth 20000 in
theorem ggX11_feeds_X11_kind : GoodIn wsX11_feeds wsX11_kind := goodIn_r _ [20, 16, 43, 44, 45, 46, 47, 48, 49, 50, 51, 52, 53, 54, 55, 56, 57, 58, 59, 60, 61, 62, 63, 64, 65, 66, 67, 68] rfl (by decide +kernel)
set_option maxRecDepth 20000 in
theorem gX11_feeds_X11_kind : GoodIn wsX11_feeds (wsV RX11 159 RX11 yX11_kind wsX11_kind) := goodIn_app (goodIn_of _ (by decide +kernel)) ggX11_feeds_X11_kind
set_option maxRecDepth 20000 in
theorem ggX11_feeds_X11_reckons : GoodIn wsX11_feeds wsX11_reckons := goodIn_r _ [24, 11, 2, 3, 9, 1, 25, 26, 17, 18, 19, 7, 20, 16, 27, 28, 29, 30, 31, 32, 33, 34, 35, 36, 37, 38, 39, 40, 41, 42, 43, 44, 45, 46, 47, 48, 49, 50, 51, 52, 53, 54, 55, 56, 57, 58, 59, 60, 61, 62, 63, 64, 65, 66, 67, 68] rfl (by decide +kernel)
set_option maxRecDepth 20000 in
theorem gX11_feeds_X11_reckons : GoodIn wsX11_feeds (wsV RX11 194 RX11 yX11_reckons wsX11_reckons) := goodIn_app (goodIn_of _ (by decide +kernel)) ggX11_feeds_X11_reckons
set_option maxRecDepth 20000 in
theorem ggX11_shares_X11_kind : GoodIn wsX11_shares wsX11_kind := goodIn_r _ [10, 11, 28, 29, 30, 31, 32, 33, 34, 35, 36, 37, 38, 39, 40, 41, 42, 43, 44, 45, 46, 47, 48, 49, 50, 51, 52, 53] rfl (by decide +kernel)
set_option maxRecDepth 20000 in
theorem gX11_shares_X11_kind : GoodIn wsX11_shares (wsV RX11 159 RX11 yX11_kind wsX11_kind) := goodIn_app (goodIn_of _ (by decide +kernel)) ggX11_shares_X11_kind
set_option maxRecDepth 20000 in
theorem ggX11_shares_X11_number : GoodIn wsX11_shares wsX11_number := goodIn_r _ [15, 11, 28, 29, 30, 31, 32, 33, 34, 35, 36, 37, 38, 39, 40, 41, 42, 43, 44, 45, 46, 47, 48, 49, 50, 51, 52, 53] rfl (by decide +kernel)
set_option maxRecDepth 20000 in
theorem gX11_shares_X11_number : GoodIn wsX11_shares (wsV RX11 163 RX11 yX11_number wsX11_number) := goodIn_app (goodIn_of _ (by decide +kernel)) ggX11_shares_X11_number
set_option maxRecDepth 20000 in
theorem ggX11_shares_X11_p : GoodIn wsX11_shares wsX11_p := goodIn_r _ [19, 11, 28, 29, 30, 31, 32, 33, 34, 35, 36, 37, 38, 39, 40, 41, 42, 43, 44, 45, 46, 47, 48, 49, 50, 51, 52, 53] rfl (by decide +kernel)
set_option maxRecDepth 20000 in
theorem gX11_shares_X11_p : GoodIn wsX11_shares (wsV RX11 182 RX11 yX11_p wsX11_p) := goodIn_app (goodIn_of _ (by decide +kernel)) ggX11_shares_X11_p
set_option maxRecDepth 20000 in
theorem ggX11_shares_X11_inverse : GoodIn wsX11_shares wsX11_inverse := goodIn_r _ [23, 16, 17, 18, 9, 19, 11, 28, 29, 30, 31, 32, 33, 34, 35, 36, 37, 38, 39, 40, 41, 42, 43, 44, 45, 46, 47, 48, 49, 50, 51, 52, 53] rfl (by decide +kernel)
set_option maxRecDepth 20000 in
theorem gX11_shares_X11_inverse : GoodIn wsX11_shares (wsV RX11 188 RX11 yX11_inverse wsX11_inverse) := goodIn_app (goodIn_of _ (by decide +kernel)) ggX11_shares_X11_inverse
set_option maxRecDepth 20000 in
theorem ggX11_shares_X11_power : GoodIn wsX11_shares wsX11_power := goodIn_r _ [27, 16, 17, 18, 9, 19, 11, 28, 29, 30, 31, 32, 33, 34, 35, 36, 37, 38, 39, 40, 41, 42, 43, 44, 45, 46, 47, 48, 49, 50, 51, 52, 53] rfl (by decide +kernel)
set_option maxRecDepth 20000 in
theorem gX11_shares_X11_power : GoodIn wsX11_shares (wsV RX11 191 RX11 yX11_power wsX11_power) := goodIn_app (goodIn_of _ (by decide +kernel)) ggX11_shares_X11_power
set_option maxRecDepth 20000 in
theorem ggX11_slopeOf_X11_size : GoodIn wsX11_slopeOf wsX11_size := goodIn_r _ [6, 7, 36, 37, 38, 39, 40, 41, 42, 43, 44, 45, 46, 47, 48, 49, 50, 51, 52, 53, 54, 55, 56, 57, 58, 59, 60, 61] rfl (by decide +kernel)
set_option maxRecDepth 20000 in
theorem gX11_slopeOf_X11_size : GoodIn wsX11_slopeOf (wsV RX11 156 RX11 yX11_size wsX11_size) := goodIn_app (goodIn_of _ (by decide +kernel)) ggX11_slopeOf_X11_size
set_option maxRecDepth 20000 in
theorem ggX11_slopeOf_X11_shares : GoodIn wsX11_slopeOf wsX11_shares := goodIn_r _ [11, 1, 12, 13, 14, 15, 16, 17, 18, 5, 19, 7, 20, 21, 22, 23, 24, 25, 26, 27, 28, 29, 30, 31, 32, 33, 34, 35, 36, 37, 38, 39, 40, 41, 42, 43, 44, 45, 46, 47, 48, 49, 50, 51, 52, 53, 54, 55, 56, 57, 58, 59, 60, 61] rfl (by decide +kernel)
set_option maxRecDepth 20000 in
theorem gX11_slopeOf_X11_shares : GoodIn wsX11_slopeOf (wsV RX11 197 RX11 yX11_shares wsX11_shares) := goodIn_app (goodIn_of _ (by decide +kernel)) ggX11_slopeOf_X11_shares
set_option maxRecDepth 20000 in
theorem ggX11_slopeOf_X11_kind : GoodIn wsX11_slopeOf wsX11_kind := goodIn_r _ [19, 7, 36, 37, 38, 39, 40, 41, 42, 43, 44, 45, 46, 47, 48, 49, 50, 51, 52, 53, 54, 55, 56, 57, 58, 59, 60, 61] rfl (by decide +kernel)
set_option maxRecDepth 20000 in
theorem gX11_slopeOf_X11_kind : GoodIn wsX11_slopeOf (wsV RX11 159 RX11 yX11_kind wsX11_kind) := goodIn_app (goodIn_of _ (by decide +kernel)) ggX11_slopeOf_X11_kind
set_option maxRecDepth 20000 in
theorem ggX11_slopeOf_X11_p : GoodIn wsX11_slopeOf wsX11_p := goodIn_r _ [27, 7, 36, 37, 38, 39, 40, 41, 42, 43, 44, 45, 46, 47, 48, 49, 50, 51, 52, 53, 54, 55, 56, 57, 58, 59, 60, 61] rfl (by decide +kernel)
set_option maxRecDepth 20000 in
theorem gX11_slopeOf_X11_p : GoodIn wsX11_slopeOf (wsV RX11 182 RX11 yX11_p wsX11_p) := goodIn_app (goodIn_of _ (by decide +kernel)) ggX11_slopeOf_X11_p
set_option maxRecDepth 20000 in
theorem ggX11_knows_X11_p : GoodIn wsX11_knows wsX11_p := goodIn_r _ [12, 1, 57, 58, 59, 60, 61, 62, 63, 64, 65, 66, 67, 68, 69, 70, 71, 72, 73, 74, 75, 76, 77, 78, 79, 80, 81, 82] rfl (by decide +kernel)
set_option maxRecDepth 20000 in
theorem gX11_knows_X11_p : GoodIn wsX11_knows (wsV RX11 182 RX11 yX11_p wsX11_p) := goodIn_app (goodIn_of _ (by decide +kernel)) ggX11_knows_X11_p
set_option maxRecDepth 20000 in
theorem ggX11_knows_X11_feeds : GoodIn wsX11_knows wsX11_feeds := goodIn_r _ [16, 3, 4, 6, 17, 18, 19, 11, 20, 21, 22, 23, 24, 25, 26, 27, 1, 28, 29, 30, 31, 32, 33, 34, 35, 2, 5, 36, 37, 38, 39, 8, 9, 10, 12, 40, 41, 42, 43, 44, 45, 46, 47, 57, 58, 59, 60, 61, 62, 63, 64, 65, 66, 67, 68, 69, 70, 71, 72, 73, 74, 75, 76, 77, 78, 79, 80, 81, 82] rfl (by decide +kernel)
set_option maxRecDepth 20000 in
theorem gX11_knows_X11_feeds : GoodIn wsX11_knows (wsV RX11 200 RX11 yX11_feeds wsX11_feeds) := goodIn_app (goodIn_of _ (by decide +kernel)) ggX11_knows_X11_feeds
set_option maxRecDepth 20000 in
theorem ggX11_knows_X11_size : GoodIn wsX11_knows wsX11_size := goodIn_r _ [27, 1, 57, 58, 59, 60, 61, 62, 63, 64, 65, 66, 67, 68, 69, 70, 71, 72, 73, 74, 75, 76, 77, 78, 79, 80, 81, 82] rfl (by decide +kernel)
set_option maxRecDepth 20000 in
theorem gX11_knows_X11_size : GoodIn wsX11_knows (wsV RX11 156 RX11 yX11_size wsX11_size) := goodIn_app (goodIn_of _ (by decide +kernel)) ggX11_knows_X11_size
set_option maxRecDepth 20000 in
theorem ggX11_knows_X11_slopeOf : GoodIn wsX11_knows wsX11_slopeOf := goodIn_r _ [51, 52, 24, 25, 26, 11, 27, 1, 53, 54, 55, 56, 23, 21, 4, 7, 28, 29, 30, 31, 36, 37, 38, 39, 8, 9, 10, 12, 40, 41, 42, 43, 44, 45, 46, 47, 57, 58, 59, 60, 61, 62, 63, 64, 65, 66, 67, 68, 69, 70, 71, 72, 73, 74, 75, 76, 77, 78, 79, 80, 81, 82] rfl (by decide +kernel)
set_option maxRecDepth 20000 in
theorem gX11_knows_X11_slopeOf : GoodIn wsX11_knows (wsV RX11 204 RX11 yX11_slopeOf wsX11_slopeOf) := goodIn_app (goodIn_of _ (by decide +kernel)) ggX11_knows_X11_slopeOf
set_option maxRecDepth 20000 in
theorem ggX11_modulus_X11_says : GoodIn wsX11_modulus wsX11_says := goodIn_r _ [6, 7, 8, 9, 10, 11, 12, 13, 14, 15, 16, 17, 18, 19, 20, 21, 22, 23, 24, 25, 26, 27, 28, 29, 30, 31, 32, 33] rfl (by decide +kernel)
set_option maxRecDepth 20000 in
theorem gX11_modulus_X11_says : GoodIn wsX11_modulus (wsV RX11 74 RX11 yX11_says wsX11_says) := goodIn_app (goodIn_of _ (by decide +kernel)) ggX11_modulus_X11_says
set_option maxRecDepth 20000 in
theorem ggX11_asksAt_X11_isFunction : GoodIn wsX11_asksAt wsX11_isFunction := goodIn_r _ [5, 6, 7, 4, 8] rfl (by decide +kernel)
set_option maxRecDepth 20000 in
theorem gX11_asksAt_X11_isFunction : GoodIn wsX11_asksAt (va_wsS RX11 146 yX11_isFunction wsX11_isFunction) := goodIn_app (goodIn_of _ (by decide +kernel)) ggX11_asksAt_X11_isFunction
set_option maxRecDepth 20000 in
theorem ggX11_asksAt_X11_asks : GoodIn wsX11_asksAt wsX11_asks := goodIn_r _ [12, 13, 76, 77, 78, 79, 80, 81, 82, 83, 84, 85, 86, 87, 88, 89, 90, 91, 92, 93, 94, 95, 96, 97, 98, 99, 100, 101] rfl (by decide +kernel)
set_option maxRecDepth 20000 in
theorem gX11_asksAt_X11_asks : GoodIn wsX11_asksAt (wsV RX11 66 RX11 yX11_asks wsX11_asks) := goodIn_app (goodIn_of _ (by decide +kernel)) ggX11_asksAt_X11_asks
set_option maxRecDepth 20000 in
theorem ggX11_asksAt_X11_in : GoodIn wsX11_asksAt wsX11_in := goodIn_r _ [8] rfl (by decide +kernel)
set_option maxRecDepth 20000 in
theorem gX11_asksAt_X11_in : GoodIn wsX11_asksAt (va_wsS RX11 101 yX11_in wsX11_in) := goodIn_app (goodIn_of _ (by decide +kernel)) ggX11_asksAt_X11_in
set_option maxRecDepth 20000 in
theorem ggX11_asksAt_X11_asksThen : GoodIn wsX11_asksAt wsX11_asksThen := goodIn_r _ [17, 13, 76, 77, 78, 79, 80, 81, 82, 83, 84, 85, 86, 87, 88, 89, 90, 91, 92, 93, 94, 95, 96, 97, 98, 99, 100, 101] rfl (by decide +kernel)
set_option maxRecDepth 20000 in
theorem gX11_asksAt_X11_asksThen : GoodIn wsX11_asksAt (wsV RX11 149 RX11 yX11_asksThen wsX11_asksThen) := goodIn_app (goodIn_of _ (by decide +kernel)) ggX11_asksAt_X11_asksThen
set_option maxRecDepth 20000 in
theorem ggX11_asksAt_X11_knows : GoodIn wsX11_asksAt wsX11_knows := goodIn_r _ [21, 1, 22, 23, 24, 25, 26, 27, 28, 29, 30, 4, 31, 32, 33, 34, 35, 36, 37, 38, 39, 40, 41, 42, 43, 44, 45, 46, 47, 48, 49, 50, 51, 52, 53, 54, 55, 56, 57, 58, 59, 60, 61, 62, 63, 64, 65, 66, 67, 68, 69, 70, 71, 72, 73, 74, 75, 76, 77, 78, 79, 80, 81, 82, 83, 84, 85, 86, 87, 88, 89, 90, 91, 92, 93, 94, 95, 96, 97, 98, 99, 100, 101] rfl (by decide +kernel)
set_option maxRecDepth 20000 in
theorem gX11_asksAt_X11_knows : GoodIn wsX11_asksAt (wsV RX11 207 RX11 yX11_knows wsX11_knows) := goodIn_app (goodIn_of _ (by decide +kernel)) ggX11_asksAt_X11_knows
set_option maxRecDepth 20000 in
theorem ggX11_valueAt_X11_asksAt : GoodIn wsX11_valueAt wsX11_asksAt := goodIn_r _ [6, 7, 8, 9, 5, 10, 11, 12, 13, 14, 15, 16, 17, 18, 19, 20, 21, 22, 23, 24, 25, 26, 1, 27, 28, 29, 30, 31, 32, 33, 34, 35, 36, 37, 38, 39, 40, 41, 42, 43, 44, 45, 46, 47, 48, 49, 50, 51, 52, 53, 54, 55, 56, 57, 58, 59, 60, 61, 62, 63, 64, 65, 66, 67, 68, 69, 70, 71, 72, 73, 74, 75, 76, 77, 78, 79, 80, 81, 82, 83, 84, 85, 86, 87, 88, 89, 90, 91, 92, 93, 94, 95, 96, 97, 98, 99, 100, 101, 102, 103, 104, 105] rfl (by decide +kernel)
set_option maxRecDepth 20000 in
theorem gX11_valueAt_X11_asksAt : GoodIn wsX11_valueAt (wsV RX11 210 RX11 yX11_asksAt wsX11_asksAt) := goodIn_app (goodIn_of _ (by decide +kernel)) ggX11_valueAt_X11_asksAt
set_option maxRecDepth 20000 in
theorem ggX11_slopeByHinges_X11_asksAt : GoodIn wsX11_slopeByHinges wsX11_asksAt := goodIn_r _ [6, 7, 8, 9, 5, 10, 11, 12, 13, 14, 15, 16, 17, 18, 19, 20, 21, 22, 23, 24, 25, 26, 27, 28, 29, 1, 30, 31, 32, 33, 34, 35, 36, 37, 38, 39, 40, 41, 42, 43, 44, 45, 46, 47, 48, 49, 50, 51, 52, 53, 54, 55, 56, 57, 58, 59, 60, 61, 62, 63, 64, 65, 66, 67, 68, 69, 70, 71, 72, 73, 74, 75, 76, 77, 78, 79, 80, 81, 82, 83, 84, 85, 86, 87, 88, 89, 90, 91, 92, 93, 94, 95, 96, 97, 98, 99, 100, 101, 102, 103, 104, 105] rfl (by decide +kernel)
set_option maxRecDepth 20000 in
theorem gX11_slopeByHinges_X11_asksAt : GoodIn wsX11_slopeByHinges (wsV RX11 210 RX11 yX11_asksAt wsX11_asksAt) := goodIn_app (goodIn_of _ (by decide +kernel)) ggX11_slopeByHinges_X11_asksAt
set_option maxRecDepth 20000 in
theorem ggX11_slopeByRules_X11_asksAt : GoodIn wsX11_slopeByRules wsX11_asksAt := goodIn_r _ [6, 7, 8, 9, 5, 10, 11, 12, 13, 14, 15, 16, 17, 18, 19, 20, 21, 22, 23, 24, 25, 26, 27, 28, 29, 30, 31, 1, 32, 33, 34, 35, 36, 37, 38, 39, 40, 41, 42, 43, 44, 45, 46, 47, 48, 49, 50, 51, 52, 53, 54, 55, 56, 57, 58, 59, 60, 61, 62, 63, 64, 65, 66, 67, 68, 69, 70, 71, 72, 73, 74, 75, 76, 77, 78, 79, 80, 81, 82, 83, 84, 85, 86, 87, 88, 89, 90, 91, 92, 93, 94, 95, 96, 97, 98, 99, 100, 101, 102, 103, 104, 105] rfl (by decide +kernel)
set_option maxRecDepth 20000 in
theorem gX11_slopeByRules_X11_asksAt : GoodIn wsX11_slopeByRules (wsV RX11 210 RX11 yX11_asksAt wsX11_asksAt) := goodIn_app (goodIn_of _ (by decide +kernel)) ggX11_slopeByRules_X11_asksAt
set_option maxRecDepth 20000 in
theorem ggX11_asksChain_X11_isFunction : GoodIn wsX11_asksChain wsX11_isFunction := goodIn_r _ [5, 6, 7, 4, 8] rfl (by decide +kernel)
set_option maxRecDepth 20000 in
theorem gX11_asksChain_X11_isFunction : GoodIn wsX11_asksChain (va_wsS RX11 146 yX11_isFunction wsX11_isFunction) := goodIn_app (goodIn_of _ (by decide +kernel)) ggX11_asksChain_X11_isFunction
set_option maxRecDepth 20000 in
theorem ggX11_asksChain_X11_asks : GoodIn wsX11_asksChain wsX11_asks := goodIn_r _ [12, 13, 76, 77, 78, 79, 80, 81, 82, 83, 84, 85, 86, 87, 88, 89, 90, 91, 92, 93, 94, 95, 96, 97, 98, 99, 100, 101] rfl (by decide +kernel)
set_option maxRecDepth 20000 in
theorem gX11_asksChain_X11_asks : GoodIn wsX11_asksChain (wsV RX11 66 RX11 yX11_asks wsX11_asks) := goodIn_app (goodIn_of _ (by decide +kernel)) ggX11_asksChain_X11_asks
set_option maxRecDepth 20000 in
theorem ggX11_asksChain_X11_in : GoodIn wsX11_asksChain wsX11_in := goodIn_r _ [8] rfl (by decide +kernel)
set_option maxRecDepth 20000 in
theorem gX11_asksChain_X11_in : GoodIn wsX11_asksChain (va_wsS RX11 101 yX11_in wsX11_in) := goodIn_app (goodIn_of _ (by decide +kernel)) ggX11_asksChain_X11_in
set_option maxRecDepth 20000 in
theorem ggX11_asksChain_X11_asksThen : GoodIn wsX11_asksChain wsX11_asksThen := goodIn_r _ [17, 13, 76, 77, 78, 79, 80, 81, 82, 83, 84, 85, 86, 87, 88, 89, 90, 91, 92, 93, 94, 95, 96, 97, 98, 99, 100, 101] rfl (by decide +kernel)
set_option maxRecDepth 20000 in
theorem gX11_asksChain_X11_asksThen : GoodIn wsX11_asksChain (wsV RX11 149 RX11 yX11_asksThen wsX11_asksThen) := goodIn_app (goodIn_of _ (by decide +kernel)) ggX11_asksChain_X11_asksThen
set_option maxRecDepth 20000 in
theorem ggX11_asksChain_X11_knows : GoodIn wsX11_asksChain wsX11_knows := goodIn_r _ [21, 1, 22, 23, 24, 25, 26, 27, 28, 29, 30, 4, 31, 32, 33, 34, 35, 36, 37, 38, 39, 40, 41, 42, 43, 44, 45, 46, 47, 48, 49, 50, 51, 52, 53, 54, 55, 56, 57, 58, 59, 60, 61, 62, 63, 64, 65, 66, 67, 68, 69, 70, 71, 72, 73, 74, 75, 76, 77, 78, 79, 80, 81, 82, 83, 84, 85, 86, 87, 88, 89, 90, 91, 92, 93, 94, 95, 96, 97, 98, 99, 100, 101] rfl (by decide +kernel)
set_option maxRecDepth 20000 in
theorem gX11_asksChain_X11_knows : GoodIn wsX11_asksChain (wsV RX11 207 RX11 yX11_knows wsX11_knows) := goodIn_app (goodIn_of _ (by decide +kernel)) ggX11_asksChain_X11_knows
set_option maxRecDepth 20000 in
theorem ggX11_chainByProducts_X11_asksChain : GoodIn wsX11_chainByProducts wsX11_asksChain := goodIn_r _ [7, 8, 9, 10, 6, 11, 12, 13, 14, 15, 16, 17, 18, 19, 20, 21, 22, 23, 24, 25, 26, 27, 1, 28, 29, 30, 31, 2, 32, 33, 34, 35, 36, 37, 38, 39, 40, 41, 42, 43, 44, 45, 46, 47, 48, 49, 50, 51, 52, 53, 54, 55, 56, 57, 58, 59, 60, 61, 62, 63, 64, 65, 66, 67, 68, 69, 70, 71, 72, 73, 74, 75, 76, 77, 78, 79, 80, 81, 82, 83, 84, 85, 86, 87, 88, 89, 90, 91, 92, 93, 94, 95, 96, 97, 98, 99, 100, 101, 102, 103, 104, 105] rfl (by decide +kernel)
set_option maxRecDepth 20000 in
theorem gX11_chainByProducts_X11_asksChain : GoodIn wsX11_chainByProducts (wsV RX11 214 RX11 yX11_asksChain wsX11_asksChain) := goodIn_app (goodIn_of _ (by decide +kernel)) ggX11_chainByProducts_X11_asksChain
set_option maxRecDepth 20000 in
theorem ggX11_chainByProducts_X11_p : GoodIn wsX11_chainByProducts wsX11_p := goodIn_r _ [35, 8, 80, 81, 82, 83, 84, 85, 86, 87, 88, 89, 90, 91, 92, 93, 94, 95, 96, 97, 98, 99, 100, 101, 102, 103, 104, 105] rfl (by decide +kernel)
set_option maxRecDepth 20000 in
theorem gX11_chainByProducts_X11_p : GoodIn wsX11_chainByProducts (wsV RX11 182 RX11 yX11_p wsX11_p) := goodIn_app (goodIn_of _ (by decide +kernel)) ggX11_chainByProducts_X11_p
set_option maxRecDepth 20000 in
theorem ggX11_chainByFeeding_X11_asksChain : GoodIn wsX11_chainByFeeding wsX11_asksChain := goodIn_r _ [9, 10, 11, 12, 8, 13, 14, 15, 16, 17, 18, 19, 20, 21, 22, 23, 24, 25, 26, 27, 28, 29, 1, 3, 30, 2, 4, 31, 32, 33, 34, 35, 36, 37, 38, 39, 40, 41, 42, 43, 44, 45, 46, 47, 48, 49, 50, 51, 52, 53, 54, 55, 56, 57, 58, 59, 60, 61, 62, 63, 64, 65, 66, 67, 68, 69, 70, 71, 72, 73, 74, 75, 76, 77, 78, 79, 80, 81, 82, 83, 84, 85, 86, 87, 88, 89, 90, 91, 92, 93, 94, 95, 96, 97, 98, 99, 100, 101, 102, 103, 104, 105] rfl (by decide +kernel)
set_option maxRecDepth 20000 in
theorem gX11_chainByFeeding_X11_asksChain : GoodIn wsX11_chainByFeeding (wsV RX11 214 RX11 yX11_asksChain wsX11_asksChain) := goodIn_app (goodIn_of _ (by decide +kernel)) ggX11_chainByFeeding_X11_asksChain
set_option maxRecDepth 20000 in
theorem ggX11_chainByFeeding_X11_feeds : GoodIn wsX11_chainByFeeding wsX11_feeds := goodIn_r _ [39, 3, 30, 4, 40, 41, 42, 8, 43, 44, 45, 46, 47, 48, 49, 50, 10, 51, 52, 53, 54, 55, 56, 57, 58, 1, 2, 59, 60, 61, 62, 32, 33, 34, 35, 63, 64, 65, 66, 67, 68, 69, 70, 80, 81, 82, 83, 84, 85, 86, 87, 88, 89, 90, 91, 92, 93, 94, 95, 96, 97, 98, 99, 100, 101, 102, 103, 104, 105] rfl (by decide +kernel)
set_option maxRecDepth 20000 in
theorem gX11_chainByFeeding_X11_feeds : GoodIn wsX11_chainByFeeding (wsV RX11 200 RX11 yX11_feeds wsX11_feeds) := goodIn_app (goodIn_of _ (by decide +kernel)) ggX11_chainByFeeding_X11_feeds
set_option maxRecDepth 20000 in
theorem ggX11_chainByFeeding_X11_size : GoodIn wsX11_chainByFeeding wsX11_size := goodIn_r _ [50, 10, 80, 81, 82, 83, 84, 85, 86, 87, 88, 89, 90, 91, 92, 93, 94, 95, 96, 97, 98, 99, 100, 101, 102, 103, 104, 105] rfl (by decide +kernel)
set_option maxRecDepth 20000 in
theorem gX11_chainByFeeding_X11_size : GoodIn wsX11_chainByFeeding (wsV RX11 156 RX11 yX11_size wsX11_size) := goodIn_app (goodIn_of _ (by decide +kernel)) ggX11_chainByFeeding_X11_size
set_option maxRecDepth 20000 in
theorem ggX11_asksAll_X11_isFunction : GoodIn wsX11_asksAll wsX11_isFunction := goodIn_r _ [5, 6, 7, 4, 8] rfl (by decide +kernel)
set_option maxRecDepth 20000 in
theorem gX11_asksAll_X11_isFunction : GoodIn wsX11_asksAll (va_wsS RX11 146 yX11_isFunction wsX11_isFunction) := goodIn_app (goodIn_of _ (by decide +kernel)) ggX11_asksAll_X11_isFunction
set_option maxRecDepth 20000 in
theorem ggX11_asksAll_X11_asks : GoodIn wsX11_asksAll wsX11_asks := goodIn_r _ [12, 1, 72, 73, 74, 75, 76, 77, 78, 79, 80, 81, 82, 83, 84, 85, 86, 87, 88, 89, 90, 91, 92, 93, 94, 95, 96, 97] rfl (by decide +kernel)
set_option maxRecDepth 20000 in
theorem gX11_asksAll_X11_asks : GoodIn wsX11_asksAll (wsV RX11 66 RX11 yX11_asks wsX11_asks) := goodIn_app (goodIn_of _ (by decide +kernel)) ggX11_asksAll_X11_asks
set_option maxRecDepth 20000 in
theorem ggX11_asksAll_X11_knows : GoodIn wsX11_asksAll wsX11_knows := goodIn_r _ [16, 17, 18, 19, 20, 21, 22, 23, 24, 25, 26, 4, 27, 28, 29, 30, 31, 32, 33, 34, 35, 36, 37, 38, 39, 40, 41, 42, 43, 44, 45, 46, 47, 48, 49, 50, 51, 52, 53, 54, 55, 56, 57, 58, 59, 60, 61, 62, 63, 64, 65, 66, 67, 68, 69, 70, 71, 72, 73, 74, 75, 76, 77, 78, 79, 80, 81, 82, 83, 84, 85, 86, 87, 88, 89, 90, 91, 92, 93, 94, 95, 96, 97] rfl (by decide +kernel)
set_option maxRecDepth 20000 in
theorem gX11_asksAll_X11_knows : GoodIn wsX11_asksAll (wsV RX11 207 RX11 yX11_knows wsX11_knows) := goodIn_app (goodIn_of _ (by decide +kernel)) ggX11_asksAll_X11_knows
set_option maxRecDepth 20000 in
theorem ggX11_bansOf_X11_asksAll : GoodIn wsX11_bansOf wsX11_asksAll := goodIn_r _ [7, 8, 9, 10, 6, 11, 12, 13, 14, 15, 16, 17, 18, 19, 20, 21, 22, 1, 2, 23, 24, 25, 26, 27, 28, 29, 30, 31, 32, 33, 34, 35, 36, 37, 38, 39, 40, 41, 42, 43, 44, 45, 46, 47, 48, 49, 50, 51, 52, 53, 54, 55, 56, 57, 58, 59, 60, 61, 62, 63, 64, 65, 66, 67, 68, 69, 70, 71, 72, 73, 74, 75, 76, 77, 78, 79, 80, 81, 82, 83, 84, 85, 86, 87, 88, 89, 90, 91, 92, 93, 94, 95, 96, 97, 98, 99, 100, 101] rfl (by decide +kernel)
set_option maxRecDepth 20000 in
theorem gX11_bansOf_X11_asksAll : GoodIn wsX11_bansOf (wsV RX11 217 RX11 yX11_asksAll wsX11_asksAll) := goodIn_app (goodIn_of _ (by decide +kernel)) ggX11_bansOf_X11_asksAll
set_option maxRecDepth 20000 in
theorem ggX11_flatsOf_X11_asksAll : GoodIn wsX11_flatsOf wsX11_asksAll := goodIn_r _ [6, 7, 8, 9, 5, 10, 11, 12, 13, 14, 15, 16, 17, 18, 19, 20, 21, 1, 22, 23, 24, 25, 26, 27, 28, 29, 30, 31, 32, 33, 34, 35, 36, 37, 38, 39, 40, 41, 42, 43, 44, 45, 46, 47, 48, 49, 50, 51, 52, 53, 54, 55, 56, 57, 58, 59, 60, 61, 62, 63, 64, 65, 66, 67, 68, 69, 70, 71, 72, 73, 74, 75, 80, 81, 82, 83, 84, 85, 86, 87, 88, 89, 90, 91, 92, 93, 94, 95, 96, 97, 98, 99, 100, 101, 102, 103, 104, 105] rfl (by decide +kernel)
set_option maxRecDepth 20000 in
theorem gX11_flatsOf_X11_asksAll : GoodIn wsX11_flatsOf (wsV RX11 217 RX11 yX11_asksAll wsX11_asksAll) := goodIn_app (goodIn_of _ (by decide +kernel)) ggX11_flatsOf_X11_asksAll
set_option maxRecDepth 20000 in
theorem ggX11_flatsOf_X11_isFlat : GoodIn wsX11_flatsOf wsX11_isFlat := goodIn_r _ [79, 22, 27, 80, 81, 82, 83, 84, 85, 86, 87, 88, 89, 90, 91, 92, 93, 94, 95, 96, 97, 98, 99, 100, 101, 102, 103, 104, 105] rfl (by decide +kernel)
set_option maxRecDepth 20000 in
theorem gX11_flatsOf_X11_isFlat : GoodIn wsX11_flatsOf (wsV RX11 220 RX11 yX11_isFlat wsX11_isFlat) := goodIn_app (goodIn_of _ (by decide +kernel)) ggX11_flatsOf_X11_isFlat
set_option maxRecDepth 20000 in
theorem ggX11_firstFlat_X11_asksAll : GoodIn wsX11_firstFlat wsX11_asksAll := goodIn_r _ [6, 7, 8, 9, 5, 10, 11, 12, 13, 14, 15, 16, 17, 18, 19, 20, 21, 1, 22, 23, 24, 25, 26, 27, 28, 29, 30, 31, 32, 33, 34, 35, 36, 37, 38, 39, 40, 41, 42, 43, 44, 45, 46, 47, 48, 49, 50, 51, 52, 53, 54, 55, 56, 57, 58, 59, 60, 61, 62, 63, 64, 65, 66, 67, 68, 69, 70, 71, 72, 73, 74, 75, 80, 81, 82, 83, 84, 85, 86, 87, 88, 89, 90, 91, 92, 93, 94, 95, 96, 97, 98, 99, 100, 101, 102, 103, 104, 105] rfl (by decide +kernel)
set_option maxRecDepth 20000 in
theorem gX11_firstFlat_X11_asksAll : GoodIn wsX11_firstFlat (wsV RX11 217 RX11 yX11_asksAll wsX11_asksAll) := goodIn_app (goodIn_of _ (by decide +kernel)) ggX11_firstFlat_X11_asksAll
set_option maxRecDepth 20000 in
theorem ggX11_firstFlat_X11_isFlat : GoodIn wsX11_firstFlat wsX11_isFlat := goodIn_r _ [79, 22, 27, 80, 81, 82, 83, 84, 85, 86, 87, 88, 89, 90, 91, 92, 93, 94, 95, 96, 97, 98, 99, 100, 101, 102, 103, 104, 105] rfl (by decide +kernel)
set_option maxRecDepth 20000 in
theorem gX11_firstFlat_X11_isFlat : GoodIn wsX11_firstFlat (wsV RX11 220 RX11 yX11_isFlat wsX11_isFlat) := goodIn_app (goodIn_of _ (by decide +kernel)) ggX11_firstFlat_X11_isFlat
set_option maxRecDepth 20000 in
theorem ggX11_rootsOf_X11_asksAll : GoodIn wsX11_rootsOf wsX11_asksAll := goodIn_r _ [7, 8, 9, 10, 6, 11, 12, 13, 14, 15, 16, 17, 18, 19, 20, 21, 22, 1, 2, 23, 24, 25, 26, 27, 28, 29, 30, 31, 32, 33, 34, 35, 36, 37, 38, 39, 40, 41, 42, 43, 44, 45, 46, 47, 48, 49, 50, 51, 52, 53, 54, 55, 56, 57, 58, 59, 60, 61, 62, 63, 64, 65, 66, 67, 68, 69, 70, 71, 72, 73, 74, 75, 76, 77, 78, 79, 80, 81, 82, 83, 84, 85, 86, 87, 88, 89, 90, 91, 92, 93, 94, 95, 96, 97, 98, 99, 100, 101] rfl (by decide +kernel)
set_option maxRecDepth 20000 in
theorem gX11_rootsOf_X11_asksAll : GoodIn wsX11_rootsOf (wsV RX11 217 RX11 yX11_asksAll wsX11_asksAll) := goodIn_app (goodIn_of _ (by decide +kernel)) ggX11_rootsOf_X11_asksAll
set_option maxRecDepth 20000 in
theorem ggX11_isSame_X11_isFunction : GoodIn wsX11_isSame wsX11_isFunction := goodIn_r _ [6, 7, 8, 5, 9] rfl (by decide +kernel)
set_option maxRecDepth 20000 in
theorem gX11_isSame_X11_isFunction : GoodIn wsX11_isSame (va_wsS RX11 146 yX11_isFunction wsX11_isFunction) := goodIn_app (goodIn_of _ (by decide +kernel)) ggX11_isSame_X11_isFunction
set_option maxRecDepth 20000 in
theorem ggX11_isSame_X11_asks : GoodIn wsX11_isSame wsX11_asks := goodIn_r _ [13, 14, 72, 73, 74, 75, 76, 77, 78, 79, 80, 81, 82, 83, 84, 85, 86, 87, 88, 89, 90, 91, 92, 93, 94, 95, 96, 97] rfl (by decide +kernel)
set_option maxRecDepth 20000 in
theorem gX11_isSame_X11_asks : GoodIn wsX11_isSame (wsV RX11 66 RX11 yX11_asks wsX11_asks) := goodIn_app (goodIn_of _ (by decide +kernel)) ggX11_isSame_X11_asks
set_option maxRecDepth 20000 in
theorem ggX11_isSame_X11_knows : GoodIn wsX11_isSame wsX11_knows := goodIn_r _ [18, 1, 2, 19, 20, 21, 22, 23, 24, 25, 26, 5, 27, 28, 29, 30, 31, 32, 33, 34, 35, 36, 37, 38, 39, 40, 41, 42, 43, 44, 45, 46, 47, 48, 49, 50, 51, 52, 53, 54, 55, 56, 57, 58, 59, 60, 61, 62, 63, 64, 65, 66, 67, 68, 69, 70, 71, 72, 73, 74, 75, 76, 77, 78, 79, 80, 81, 82, 83, 84, 85, 86, 87, 88, 89, 90, 91, 92, 93, 94, 95, 96, 97] rfl (by decide +kernel)
set_option maxRecDepth 20000 in
theorem gX11_isSame_X11_knows : GoodIn wsX11_isSame (wsV RX11 207 RX11 yX11_knows wsX11_knows) := goodIn_app (goodIn_of _ (by decide +kernel)) ggX11_isSame_X11_knows
set_option maxRecDepth 20000 in
theorem ggX11_next_X11_inverse : GoodIn wsX11_next wsX11_inverse := goodIn_r _ [7, 8, 9, 10, 6, 11, 12, 13, 14, 15, 16, 17, 18, 19, 20, 21, 22, 23, 24, 25, 26, 27, 28, 29, 30, 31, 32, 33, 34, 35, 36, 37, 38] rfl (by decide +kernel)
set_option maxRecDepth 20000 in
theorem gX11_next_X11_inverse : GoodIn wsX11_next (wsV RX11 188 RX11 yX11_inverse wsX11_inverse) := goodIn_app (goodIn_of _ (by decide +kernel)) ggX11_next_X11_inverse
set_option maxRecDepth 20000 in
theorem ggX11_next_X11_p : GoodIn wsX11_next wsX11_p := goodIn_r _ [11, 12, 13, 14, 15, 16, 17, 18, 19, 20, 21, 22, 23, 24, 25, 26, 27, 28, 29, 30, 31, 32, 33, 34, 35, 36, 37, 38] rfl (by decide +kernel)
set_option maxRecDepth 20000 in
theorem gX11_next_X11_p : GoodIn wsX11_next (wsV RX11 182 RX11 yX11_p wsX11_p) := goodIn_app (goodIn_of _ (by decide +kernel)) ggX11_next_X11_p
set_option maxRecDepth 20000 in
theorem ggX11_step_X11_asksAt : GoodIn wsX11_step wsX11_asksAt := goodIn_r _ [5, 6, 7, 8, 4, 9, 10, 11, 12, 13, 14, 15, 16, 17, 18, 19, 20, 21, 22, 23, 24, 25, 26, 27, 28, 29, 30, 31, 32, 33, 34, 35, 36, 37, 38, 39, 40, 41, 42, 43, 44, 45, 46, 47, 48, 49, 50, 51, 52, 53, 54, 55, 56, 57, 58, 59, 60, 61, 62, 63, 64, 65, 66, 67, 68, 69, 70, 71, 72, 73, 74, 75, 76, 77, 78, 79, 84, 85, 86, 87, 88, 89, 90, 91, 92, 93, 94, 95, 96, 97, 98, 99, 100, 101, 102, 103, 104, 105, 106, 107, 108, 109] rfl (by decide +kernel)
set_option maxRecDepth 20000 in
theorem gX11_step_X11_asksAt : GoodIn wsX11_step (wsV RX11 210 RX11 yX11_asksAt wsX11_asksAt) := goodIn_app (goodIn_of _ (by decide +kernel)) ggX11_step_X11_asksAt
set_option maxRecDepth 20000 in
theorem ggX11_step_X11_next : GoodIn wsX11_step wsX11_next := goodIn_r _ [83, 26, 31, 63, 64, 65, 4, 66, 32, 33, 34, 35, 6, 84, 85, 86, 87, 88, 89, 90, 91, 92, 93, 94, 95, 96, 97, 98, 99, 100, 101, 102, 103, 104, 105, 106, 107, 108, 109] rfl (by decide +kernel)
set_option maxRecDepth 20000 in
theorem gX11_step_X11_next : GoodIn wsX11_step (wsV RX11 223 RX11 yX11_next wsX11_next) := goodIn_app (goodIn_of _ (by decide +kernel)) ggX11_step_X11_next
set_option maxRecDepth 20000 in
theorem ggX11_steps_X11_next : GoodIn wsX11_steps wsX11_next := goodIn_r _ [6, 1, 7, 8, 9, 10, 5, 11, 12, 13, 14, 15, 16, 17, 18, 19, 20, 21, 22, 23, 24, 25, 26, 27, 28, 29, 30, 31, 32, 33, 34, 35, 36, 37, 38, 39, 40, 41, 42] rfl (by decide +kernel)
set_option maxRecDepth 20000 in
theorem gX11_steps_X11_next : GoodIn wsX11_steps (wsV RX11 223 RX11 yX11_next wsX11_next) := goodIn_app (goodIn_of _ (by decide +kernel)) ggX11_steps_X11_next
set_option maxRecDepth 20000 in
theorem ggX11_stepsToRoot_X11_asksAt : GoodIn wsX11_stepsToRoot wsX11_asksAt := goodIn_r _ [5, 6, 7, 8, 4, 9, 10, 11, 12, 13, 14, 15, 16, 17, 18, 19, 20, 21, 22, 23, 24, 25, 26, 27, 28, 29, 30, 31, 32, 33, 34, 35, 36, 37, 38, 39, 40, 41, 42, 43, 44, 45, 46, 47, 48, 49, 50, 51, 52, 53, 54, 55, 56, 57, 58, 59, 60, 61, 62, 63, 64, 65, 66, 67, 68, 69, 70, 71, 72, 73, 74, 75, 76, 77, 78, 79, 88, 89, 90, 91, 92, 93, 94, 95, 96, 97, 98, 99, 100, 101, 102, 103, 104, 105, 106, 107, 108, 109, 110, 111, 112, 113] rfl (by decide +kernel)
set_option maxRecDepth 20000 in
theorem gX11_stepsToRoot_X11_asksAt : GoodIn wsX11_stepsToRoot (wsV RX11 210 RX11 yX11_asksAt wsX11_asksAt) := goodIn_app (goodIn_of _ (by decide +kernel)) ggX11_stepsToRoot_X11_asksAt
set_option maxRecDepth 20000 in
theorem ggX11_stepsToRoot_X11_steps : GoodIn wsX11_stepsToRoot wsX11_steps := goodIn_r _ [83, 26, 84, 85, 86, 4, 87, 31, 63, 64, 65, 66, 32, 33, 34, 35, 6, 88, 89, 90, 91, 92, 93, 94, 95, 96, 97, 98, 99, 100, 101, 102, 103, 104, 105, 106, 107, 108, 109, 110, 111, 112, 113] rfl (by decide +kernel)
set_option maxRecDepth 20000 in
theorem gX11_stepsToRoot_X11_steps : GoodIn wsX11_stepsToRoot (wsV RX11 226 RX11 yX11_steps wsX11_steps) := goodIn_app (goodIn_of _ (by decide +kernel)) ggX11_stepsToRoot_X11_steps
