theorem nv_end : True := trivial
