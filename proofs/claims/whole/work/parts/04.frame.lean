theorem kq_dummy : True := trivial
